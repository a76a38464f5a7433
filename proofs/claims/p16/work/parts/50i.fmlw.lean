def f_X8_readItem_b_ (g_X8_readTest : ST → Int → Int → Int → ST) (g_X8_readTry : ST → Int → Int → Int → ST) : Nat → Nat → Int → Int → Int → Int → Int → ST → ST
  | 0, _, _, _, _, _, _, sx => sx
  | n + 1, _, l1, l2, l3, l4, l5, sx => bd (sx.1 70 4) fun u70_4 => bd (f_X8_isGood sx) fun v7 => if ¬ v7 = 0 then (bd (sx.1 70 6) fun v11 => bd (sx.1 73 (v11).toNat) fun v16 => bd (sx.1 73 (v11).toNat) fun v21 => bd (sI sx 73 (v11).toNat ((v21 + 1))) fun s25 => bd (sI s25 77 (((130 * v11) + v16)).toNat l5) fun s27 => bd (sI s27 78 (((130 * v11) + v16)).toNat (-1)) fun s29 => bd (sI s29 79 (((130 * v11) + v16)).toNat l2) fun s31 => bd (sI s31 80 (((130 * v11) + v16)).toNat l3) fun s33 => bd (sI s33 81 (((130 * v11) + v16)).toNat u70_4) fun s36 => bd (sI s36 82 (((130 * v11) + v16)).toNat l4) fun s38 => bd (sI s38 83 (((130 * v11) + v16)).toNat 0) fun s40 => bd (sI s40 84 (((130 * v11) + v16)).toNat (-2)) fun s42 => bd (sI s42 85 (((130 * v11) + v16)).toNat (-1)) fun s44 => bd (sI s44 86 (((130 * v11) + v16)).toNat (-1)) fun s46 => bd (sI s46 87 (((130 * v11) + v16)).toNat (-1)) fun s48 => bd (sI s48 88 (((130 * v11) + v16)).toNat l1) fun s50 => bd (sI s50 89 ((2 * ((130 * v11) + v16))).toNat 0) fun s54 => bd (sI s54 89 (((2 * ((130 * v11) + v16)) + 1)).toNat 0) fun s60 => if l5 = 6 then (bd (s60.1 90 (l1).toNat) fun v64 => if ¬ v64 = (-1) then (bd (s60.1 91 (l1).toNat) fun v68 => bd (sI s60 87 (v68).toNat (((130 * v11) + v16))) fun s70 => bd (sI s70 91 (l1).toNat (((130 * v11) + v16))) fun s72 => bd (sI s72 70 4 ((u70_4 + 1))) fun s77 => bd (g_X8_readTry s77 (((130 * v11) + v16)) l2 l3) fun s96 => s96) else (bd (sI s60 90 (l1).toNat (((130 * v11) + v16))) fun s126 => bd (sI s126 91 (l1).toNat (((130 * v11) + v16))) fun s128 => bd (sI s128 70 4 ((u70_4 + 1))) fun s133 => bd (g_X8_readTry s133 (((130 * v11) + v16)) l2 l3) fun s152 => s152)) else (bd (s60.1 75 (v11).toNat) fun v183 => bd (sI s60 78 (((130 * v11) + v16)).toNat v183) fun s185 => bd (s185.1 75 (v11).toNat) fun v191 => bd (sI s185 93 (((40 * v11) + v191)).toNat (((130 * v11) + v16))) fun s195 => bd (s195.1 75 (v11).toNat) fun v198 => bd (sI s195 75 (v11).toNat ((v198 + 1))) fun s202 => bd (s202.1 90 (l1).toNat) fun v204 => if ¬ v204 = (-1) then (bd (s202.1 91 (l1).toNat) fun v208 => bd (sI s202 87 (v208).toNat (((130 * v11) + v16))) fun s210 => bd (sI s210 91 (l1).toNat (((130 * v11) + v16))) fun s212 => bd (sI s212 70 4 ((u70_4 + 1))) fun s217 => if ¬ l5 = 0 then (if l5 = 2 then (bd (g_X8_readTest s217 (((130 * v11) + v16)) l2 l3) fun s237 => s237) else (if ¬ l5 = 3 then (bd (f_X8_readEnd s217 (((130 * v11) + v16))) fun s284 => s284) else (bd (g_X8_readTest s217 (((130 * v11) + v16)) l2 l3) fun s330 => s330))) else (bd (f_X8_readSet s217 (((130 * v11) + v16)) l4) fun s374 => s374)) else (bd (sI s202 90 (l1).toNat (((130 * v11) + v16))) fun s406 => bd (sI s406 91 (l1).toNat (((130 * v11) + v16))) fun s408 => bd (sI s408 70 4 ((u70_4 + 1))) fun s413 => if ¬ l5 = 0 then (if l5 = 2 then (bd (g_X8_readTest s413 (((130 * v11) + v16)) l2 l3) fun s433 => s433) else (if ¬ l5 = 3 then (bd (f_X8_readEnd s413 (((130 * v11) + v16))) fun s480 => s480) else (bd (g_X8_readTest s413 (((130 * v11) + v16)) l2 l3) fun s526 => s526))) else (bd (f_X8_readSet s413 (((130 * v11) + v16)) l4) fun s570 => s570)))) else (sx)
def f_X8_readItem_b (g_X8_readTest : ST → Int → Int → Int → ST) (g_X8_readTry : ST → Int → Int → Int → ST) (s : ST) (a2 : Int) (a3 : Int) (a4 : Int) : ST :=
  bd2 (f_X8_nameHere s 1) fun s618 v626 => if v626 = (-1) then (bd2 (f_X8_here s618) fun s640 v647 => bd (f_X8_kindOf s640 v647) fun v658 => if ¬ v658 = (-1) then (bd (f_X8_isGood s640) fun v666 => if v666 = 0 then (f_X8_readItem_b_ g_X8_readTest g_X8_readTry 14 70 a2 a3 a4 v626 v658 s640) else (if v658 = 6 then (f_X8_readItem_b_ g_X8_readTest g_X8_readTry 14 70 a2 a3 a4 v626 v658 s640) else (bd (s640.1 70 6) fun v686 => bd (s640.1 75 (v686).toNat) fun v688 => if ¬ v688 = 40 then (f_X8_readItem_b_ g_X8_readTest g_X8_readTry 14 70 a2 a3 a4 v626 v658 s640) else (bd (f_X8_fails s640 4) fun s705 => f_X8_readItem_b_ g_X8_readTest g_X8_readTry 14 70 a2 a3 a4 v626 v658 s705)))) else (bd (f_X8_fails s640 1) fun s728 => bd (f_X8_isGood s728) fun v742 => if v742 = 0 then (f_X8_readItem_b_ g_X8_readTest g_X8_readTry 14 70 a2 a3 a4 v626 v658 s728) else (bd (s728.1 70 6) fun v754 => bd (s728.1 75 (v754).toNat) fun v756 => if ¬ v756 = 40 then (f_X8_readItem_b_ g_X8_readTest g_X8_readTry 14 70 a2 a3 a4 v626 v658 s728) else (bd (f_X8_fails s728 4) fun s773 => f_X8_readItem_b_ g_X8_readTest g_X8_readTry 14 70 a2 a3 a4 v626 v658 s773)))) else (bd (f_X8_isGood s618) fun v795 => if v795 = 0 then (f_X8_readItem_b_ g_X8_readTest g_X8_readTry 14 70 a2 a3 a4 v626 0 s618) else (bd (s618.1 70 6) fun v808 => bd (s618.1 75 (v808).toNat) fun v810 => if ¬ v810 = 40 then (f_X8_readItem_b_ g_X8_readTest g_X8_readTry 14 70 a2 a3 a4 v626 0 s618) else (bd (f_X8_fails s618 4) fun s828 => f_X8_readItem_b_ g_X8_readTest g_X8_readTry 14 70 a2 a3 a4 v626 0 s828)))
set_option maxHeartbeats 40000000 in
set_option maxRecDepth 100000 in
theorem s_X8_readItem_b_f (l : Launch) (d : Nat) {t : Nat} (g_X8_readTest : ST → Int → Int → Int → ST) (g_X8_readTry : ST → Int → Int → Int → ST) (ihT : ∀ {P : PP} {h : HP} (_ : Iv P h) (a2 : Int32) (a2l : 0 ≤ a2.toInt) (a2u : a2.toInt ≤ 259) (a3 : Int32) (a3l : 0 ≤ a3.toInt) (a3u : a3.toInt ≤ 4) (a4 : Int32) (a4l : 0 ≤ a4.toInt) (a4u : a4.toInt ≤ 6) (hi : 130 * (h.2.1 70 6).toInt ≤ a2.toInt ∧ a2.toInt < 130 * (h.2.1 70 6).toInt + 130) (h0 : (h.2.1 70 5).toInt = 0) (hp : 6 * (V h.2.1 73 (h.2.1 70 6).toInt - V h.2.1 75 (h.2.1 70 6).toInt) ≤ (h.2.1 70 4).toInt + 5 * a4.toInt + 5 ∧ 2 * V h.2.1 74 (h.2.1 70 6).toInt ≤ (h.2.1 70 4).toInt + a4.toInt + 1) (ht : TR h.2.1 (h.2.1 70 6).toInt ∧ a2.toInt = 130 * (h.2.1 70 6).toInt + V h.2.1 73 (h.2.1 70 6).toInt - 1 ∧ 0 < V h.2.1 73 (h.2.1 70 6).toInt ∧ V h.2.1 80 a2.toInt = a4.toInt ∧ (V h.2.1 77 a2.toInt = 2 ∨ V h.2.1 77 a2.toInt = 3)) (hd : 7 ≤ a4.toInt + (t : Int)), Mt l yX8_readTest cX8_readTest 4 none (d + 4) [.ref 70, .int a2, .int a3, .int a4] h 0 0 (fun r h' => r = none ∧ (∃ Q : PP, Iv Q h' ∧ MW P Q) ∧ ((h'.2.1 70 5).toInt = 0 → (h.2.1 70 5).toInt = 0) ∧ ((h.2.1 70 4).toInt ≤ (h'.2.1 70 4).toInt) ∧ ((h'.2.1 70 5).toInt = 0 → 6 * (V h'.2.1 73 (h.2.1 70 6).toInt - V h'.2.1 75 (h.2.1 70 6).toInt) - (h'.2.1 70 4).toInt ≤ 6 * (V h.2.1 73 (h.2.1 70 6).toInt - V h.2.1 75 (h.2.1 70 6).toInt) - (h.2.1 70 4).toInt - 0 ∧ 2 * V h'.2.1 74 (h.2.1 70 6).toInt - (h'.2.1 70 4).toInt ≤ 2 * V h.2.1 74 (h.2.1 70 6).toInt - (h.2.1 70 4).toInt) ∧ ((h'.2.1 70 5).toInt = 0 → RT h.2.1 h'.2.1 (h.2.1 70 6).toInt a2.toInt a4.toInt) ∧ (st h' = g_X8_readTest (st h) a2.toInt a3.toInt a4.toInt) ∧ (FX KRt h h') ∧ (KP h.2.1 h'.2.1) ∧ (OH h.2.1 h'.2.1 (h.2.1 70 6).toInt) ∧ (CKF h.2.1 → CKF h'.2.1))) (ihY : ∀ {P : PP} {h : HP} (_ : Iv P h) (a2 : Int32) (a2l : 0 ≤ a2.toInt) (a2u : a2.toInt ≤ 259) (a3 : Int32) (a3l : 0 ≤ a3.toInt) (a3u : a3.toInt ≤ 4) (a4 : Int32) (a4l : 0 ≤ a4.toInt) (a4u : a4.toInt ≤ 6) (hi : 130 * (h.2.1 70 6).toInt ≤ a2.toInt ∧ a2.toInt < 130 * (h.2.1 70 6).toInt + 130) (h0 : (h.2.1 70 5).toInt = 0) (hp : 6 * (V h.2.1 73 (h.2.1 70 6).toInt - V h.2.1 75 (h.2.1 70 6).toInt) ≤ (h.2.1 70 4).toInt + 5 * a4.toInt + 5 ∧ 2 * V h.2.1 74 (h.2.1 70 6).toInt ≤ (h.2.1 70 4).toInt + a4.toInt + 1) (ht : TR h.2.1 (h.2.1 70 6).toInt ∧ a2.toInt = 130 * (h.2.1 70 6).toInt + V h.2.1 73 (h.2.1 70 6).toInt - 1 ∧ 0 < V h.2.1 73 (h.2.1 70 6).toInt ∧ V h.2.1 80 a2.toInt = a4.toInt ∧ V h.2.1 77 a2.toInt = 6) (hd : 7 ≤ a4.toInt + (t : Int)), Mt l yX8_readTry cX8_readTry 4 none (d + 4) [.ref 70, .int a2, .int a3, .int a4] h 0 0 (fun r h' => r = none ∧ (∃ Q : PP, Iv Q h' ∧ MW P Q) ∧ ((h'.2.1 70 5).toInt = 0 → (h.2.1 70 5).toInt = 0) ∧ ((h.2.1 70 4).toInt ≤ (h'.2.1 70 4).toInt) ∧ ((h'.2.1 70 5).toInt = 0 → 6 * (V h'.2.1 73 (h.2.1 70 6).toInt - V h'.2.1 75 (h.2.1 70 6).toInt) - (h'.2.1 70 4).toInt ≤ 6 * (V h.2.1 73 (h.2.1 70 6).toInt - V h.2.1 75 (h.2.1 70 6).toInt) - (h.2.1 70 4).toInt - 5 ∧ 2 * V h'.2.1 74 (h.2.1 70 6).toInt - (h'.2.1 70 4).toInt ≤ 2 * V h.2.1 74 (h.2.1 70 6).toInt - (h.2.1 70 4).toInt) ∧ ((h'.2.1 70 5).toInt = 0 → RT h.2.1 h'.2.1 (h.2.1 70 6).toInt a2.toInt a4.toInt) ∧ (st h' = g_X8_readTry (st h) a2.toInt a3.toInt a4.toInt) ∧ (FX KRt h h') ∧ (KP h.2.1 h'.2.1) ∧ (OH h.2.1 h'.2.1 (h.2.1 70 6).toInt) ∧ (CKF h.2.1 → CKF h'.2.1))) {P : PP} {h : HP} (hv : Iv P h) (a2 : Int32) (a2l : 0 ≤ a2.toInt) (a2u : a2.toInt ≤ 559) (a3 : Int32) (a3l : 0 ≤ a3.toInt) (a3u : a3.toInt ≤ 4) (a4 : Int32) (a4l : 0 ≤ a4.toInt) (a4u : a4.toInt ≤ 6) (h0 : (h.2.1 70 5).toInt = 0) (hp : 6 * (V h.2.1 73 (h.2.1 70 6).toInt - V h.2.1 75 (h.2.1 70 6).toInt) ≤ (h.2.1 70 4).toInt + 5 * a4.toInt ∧ 2 * V h.2.1 74 (h.2.1 70 6).toInt ≤ (h.2.1 70 4).toInt + a4.toInt + 1) (ht : TR h.2.1 (h.2.1 70 6).toInt ∧ BB h.2.1 (h.2.1 70 6).toInt a2.toInt ∧ OO h.2.1 (h.2.1 70 6).toInt (V h.2.1 92 a2.toInt) a4.toInt) (hd : 7 ≤ a4.toInt + (t : Int)) : Mt l yX8_readItem cX8_readItem 7 none (d + 5) [.ref 70, .int a2, .int a3, .int a4] h 0 0 (fun r h' => r = none ∧ (∃ Q : PP, Iv Q h' ∧ MW P Q) ∧ ((h'.2.1 70 5).toInt = 0 → (h.2.1 70 5).toInt = 0) ∧ ((h.2.1 70 4).toInt ≤ (h'.2.1 70 4).toInt) ∧ ((h'.2.1 70 5).toInt = 0 → (h.2.1 70 4).toInt + 1 ≤ (h'.2.1 70 4).toInt ∧ 6 * (V h'.2.1 73 (h.2.1 70 6).toInt - V h'.2.1 75 (h.2.1 70 6).toInt) - (h'.2.1 70 4).toInt ≤ 6 * (V h.2.1 73 (h.2.1 70 6).toInt - V h.2.1 75 (h.2.1 70 6).toInt) - (h.2.1 70 4).toInt ∧ 2 * V h'.2.1 74 (h.2.1 70 6).toInt - (h'.2.1 70 4).toInt ≤ 2 * V h.2.1 74 (h.2.1 70 6).toInt - (h.2.1 70 4).toInt) ∧ ((h'.2.1 70 5).toInt = 0 → RI h.2.1 h'.2.1 (h.2.1 70 6).toInt a2.toInt a4.toInt) ∧ (st h' = f_X8_readItem_b g_X8_readTest g_X8_readTry (st h) a2.toInt a3.toInt a4.toInt) ∧ (FX KRt h h') ∧ (KP h.2.1 h'.2.1) ∧ (OH h.2.1 h'.2.1 (h.2.1 70 6).toInt) ∧ (CKF h.2.1 → CKF h'.2.1)) := by
  refine Mt_iv hv (by decide) (Nat.le_of_ble_eq_true rfl) ?_
  show Go l RX8 cX8_readItem 7 (g_rm (d + 5) 0 0) "readItem" none 117 0 0 (fun _ _ => True) (fun r h' => r = none ∧ (∃ Q : PP, Iv Q h' ∧ MW P Q) ∧ ((h'.2.1 70 5).toInt = 0 → (h.2.1 70 5).toInt = 0) ∧ ((h.2.1 70 4).toInt ≤ (h'.2.1 70 4).toInt) ∧ ((h'.2.1 70 5).toInt = 0 → (h.2.1 70 4).toInt + 1 ≤ (h'.2.1 70 4).toInt ∧ 6 * (V h'.2.1 73 (h.2.1 70 6).toInt - V h'.2.1 75 (h.2.1 70 6).toInt) - (h'.2.1 70 4).toInt ≤ 6 * (V h.2.1 73 (h.2.1 70 6).toInt - V h.2.1 75 (h.2.1 70 6).toInt) - (h.2.1 70 4).toInt ∧ 2 * V h'.2.1 74 (h.2.1 70 6).toInt - (h'.2.1 70 4).toInt ≤ 2 * V h.2.1 74 (h.2.1 70 6).toInt - (h.2.1 70 4).toInt) ∧ ((h'.2.1 70 5).toInt = 0 → RI h.2.1 h'.2.1 (h.2.1 70 6).toInt a2.toInt a4.toInt) ∧ (st h' = f_X8_readItem_b g_X8_readTest g_X8_readTry (st h) a2.toInt a3.toInt a4.toInt) ∧ (FX KRt h h') ∧ (KP h.2.1 h'.2.1) ∧ (OH h.2.1 h'.2.1 (h.2.1 70 6).toInt) ∧ (CKF h.2.1 → CKF h'.2.1)) 0 0 [(0, .ref 70), (1, .int a2), (2, .int a3), (3, .int a4)] [] h
  obtain ⟨S, hS⟩ : ∃ S : Int, S = (h.2.1 70 6).toInt := ⟨_, rfl⟩
  have S0 : 0 ≤ S := by rw [hS]; exact (hv.2.1 70 6).1
  have S1 : S ≤ 1 := by rw [hS]; exact (hv.2.1 70 6).2
  have oh : OH h.2.1 h.2.1 S := OH.rfl _ _
  have ck : CKF h.2.1 → CKF h.2.1 := id
  have kp : KP h.2.1 h.2.1 := KP.rfl _
  rw [← hS] at hp
  rw [← hS] at ht
  have fx : FX KRt h h := FX.rfl
  obtain ⟨fin, kf⟩ : ∃ z, z = f_X8_readItem_b g_X8_readTest g_X8_readTry (st h) a2.toInt a3.toInt a4.toInt := ⟨_, _root_.rfl⟩
  have k0 := kf
  unfold f_X8_readItem_b at k0
  have key : ∀ n : Nat, (∀ (l1 : Int32) (l2 : Int32) (l3 : Int32) (l4 : Int32) (l5 : Int32) (Qx : PP) (hx : HP), Iv Qx hx → MW P Qx → 0 ≤ l1.toInt → l1.toInt ≤ 559 → 0 ≤ l2.toInt → l2.toInt ≤ 4 → 0 ≤ l3.toInt → l3.toInt ≤ 6 → -1 ≤ l4.toInt → l4.toInt ≤ 9 → -1 ≤ l5.toInt → l5.toInt ≤ 6 → (VE h.2.1 hx.2.1) → (l1.toInt = a2.toInt) → (l2.toInt = a3.toInt) → (l3.toInt = a4.toInt) → ((h.2.1 70 4).toInt ≤ (hx.2.1 70 4).toInt) → ((hx.2.1 70 5).toInt = 0 → (hx.2.1 70 4).toInt ≤ 499 ∧ ((0 ≤ l4.toInt ∧ l5.toInt = 0) ∨ (l4.toInt = -1 ∧ 2 ≤ l5.toInt)) ∧ (l5.toInt = 6 ∨ V hx.2.1 75 S ≤ 39)) → OH h.2.1 hx.2.1 S → (CKF h.2.1 → CKF hx.2.1) → KP h.2.1 hx.2.1 → (0 : Int) ≤ (hx.2.1 70 4).toInt → (hx.2.1 70 4).toInt ≤ 500 → (-2147483648 : Int) ≤ (hx.2.1 70 5).toInt → (hx.2.1 70 5).toInt ≤ 2147483647 → FX KRt h hx → fin = f_X8_readItem_b_ g_X8_readTest g_X8_readTry n 70 l1.toInt l2.toInt l3.toInt l4.toInt l5.toInt (st hx) → (1 : Int) < n → Go l RX8 cX8_readItem 7 (g_rm (d + 5) 0 0) "readItem" none 117 0 0 (fun _ _ => True) (fun r h' => r = none ∧ (∃ Q : PP, Iv Q h' ∧ MW P Q) ∧ ((h'.2.1 70 5).toInt = 0 → (h.2.1 70 5).toInt = 0) ∧ ((h.2.1 70 4).toInt ≤ (h'.2.1 70 4).toInt) ∧ ((h'.2.1 70 5).toInt = 0 → (h.2.1 70 4).toInt + 1 ≤ (h'.2.1 70 4).toInt ∧ 6 * (V h'.2.1 73 (h.2.1 70 6).toInt - V h'.2.1 75 (h.2.1 70 6).toInt) - (h'.2.1 70 4).toInt ≤ 6 * (V h.2.1 73 (h.2.1 70 6).toInt - V h.2.1 75 (h.2.1 70 6).toInt) - (h.2.1 70 4).toInt ∧ 2 * V h'.2.1 74 (h.2.1 70 6).toInt - (h'.2.1 70 4).toInt ≤ 2 * V h.2.1 74 (h.2.1 70 6).toInt - (h.2.1 70 4).toInt) ∧ ((h'.2.1 70 5).toInt = 0 → RI h.2.1 h'.2.1 (h.2.1 70 6).toInt a2.toInt a4.toInt) ∧ (st h' = f_X8_readItem_b g_X8_readTest g_X8_readTry (st h) a2.toInt a3.toInt a4.toInt) ∧ (FX KRt h h') ∧ (KP h.2.1 h'.2.1) ∧ (OH h.2.1 h'.2.1 (h.2.1 70 6).toInt) ∧ (CKF h.2.1 → CKF h'.2.1)) 0 70 [(0, .ref 70), (1, .int l1), (2, .int l2), (3, .int l3), (4, .int l4), (5, .int l5)] [] hx) := by
    intro n
    induction n with
    | zero => exact (by intros; omega)
    | succ n ih =>
      refine ?_
      ·
        intro l1 l2 l3 l4 l5 Qx hx hvx sqx l1l l1u l2l l2u l3l l3u l4l l4u l5l l5u x0 x1 x2 x3 x4 x5 ohx ckx kpx y0l y0u y1l y1u fxx kL hm
        obtain ⟨u70_4, u70_4w⟩ : ∃ v : Int32, v = hx.2.1 70 4 := ⟨_, rfl⟩
        have u70_4e : (hx.2.1 70 4).toInt = u70_4.toInt := by rw [u70_4w]
        have u70_4l : 0 ≤ u70_4.toInt := by rw [u70_4w]; exact (hvx.2.1 70 4).1
        have u70_4u : u70_4.toInt ≤ 500 := by rw [u70_4w]; exact (hvx.2.1 70 4).2
        obtain ⟨u70_5, u70_5w⟩ : ∃ v : Int32, v = hx.2.1 70 5 := ⟨_, rfl⟩
        have u70_5e : (hx.2.1 70 5).toInt = u70_5.toInt := by rw [u70_5w]
        have u70_5l : -2147483648 ≤ u70_5.toInt := by rw [u70_5w]; exact (hvx.2.1 70 5).1
        have u70_5u : u70_5.toInt ≤ 2147483647 := by rw [u70_5w]; exact (hvx.2.1 70 5).2
        rw [f_X8_readItem_b_] at kL
        have k1 := bd_e kL (congrArg Int32.toInt u70_4w.symm)
        have k2 := k1
        have xve := x0
        have n73_x : V hx.2.1 73 S = V h.2.1 73 S := x0.v (by omega) (by omega)
        have n74_x : V hx.2.1 74 S = V h.2.1 74 S := x0.v (by omega) (by omega)
        have n75_x : V hx.2.1 75 S = V h.2.1 75 S := x0.v (by omega) (by omega)
        refine go_aload_n (pc := 70) rfl dX8_readItem_70 ?_
        refine go_invV (pc := 71) (sl := 0) (s_X8_isGood_f l (d + 3) hvx ) mL_X8_172 iM_X8_isGood sM_X8_isGood (hvx.sh rfl) rfl rfl rfl (Nat.le_of_ble_eq_true rfl) (show d + 3 + 1 + 1 ≤ d + 5 by omega) (show 8 + (1 + 11) + 40 * (d + 3 + 1) ≤ 40 * (d + 5) by omega) (g_c0 hvx.ln) (Nat.le_of_ble_eq_true rfl) dX8_readItem_71 ?_
        intro r h3 hq _
        obtain ⟨v7, rfl, v7l, v7u, rfl, f4, f5, f6⟩ := hq
        replace f6 : PE _ _ := f6
        have k8 := bd_e k2 f6.symm
        refine gf_if_ne (pc := 74) (tgt := 78) (ti_rfl v7) (by decide) dX8_readItem_74 (fun q9 => ?_) (fun q9 => ?_)
        ·
          have k10 := if_t k8 q9
          have tp := ht.1.1
          have hbb : 280 * S ≤ a2.toInt ∧ a2.toInt < 280 * S + V h.2.1 74 S := ht.2.1
          have xx := x5 (by omega)
          have k75 : V hx.2.1 75 S ≤ 40 := (hvx.2.1 75 _).2
          refine go_sipush (pc := 78) (v := 130) (by decide) dX8_readItem_78 ?_
          refine go_aload_n (pc := 81) rfl dX8_readItem_81 ?_
          refine gi_get (pc := 82) (lo := 0) (hi := 1) hvx fL_X8_187 rfl (Nat.le_of_ble_eq_true rfl) rfl rfl dX8_readItem_82 (fun v11 v11l v11u v11w => ?_)
          have k12 := bd_e k10 (congrArg Int32.toInt v11w.symm)
          have v11S : v11.toInt = S := by rw [v11w]; exact (congrArg Int32.toInt ohx.side).trans hS.symm
          refine gf_imul (pc := 85) (ti_c (v := 130) (a := 130) (by decide)) (ti_rfl v11) (by omega) (by omega) dX8_readItem_85 (fun v13 e14 => ?_)
          refine go_aload_n (pc := 86) rfl dX8_readItem_86 ?_
          refine gi_getF (pc := 87) (q := 73) hvx fL_X8_16 rfl (Nat.le_of_ble_eq_true rfl) rfl (hvx.rf (by decide)) dX8_readItem_87 ?_
          refine go_aload_n (pc := 90) rfl dX8_readItem_90 ?_
          refine gi_get (pc := 91) (lo := 0) (hi := 1) hvx fL_X8_187 rfl (Nat.le_of_ble_eq_true rfl) rfl rfl dX8_readItem_91 (fun v15 v15l v15u v15w => ?_)
          have v15r : v11 = hx.2.1 70 6 := v11w
          have v15q : TI v15 v11.toInt := by rw [v15w.trans v15r.symm]; exact (ti_rfl v11)
          refine gi_iald (pc := 94) (lo := 0) (hi := 130) (len := 2) hvx v15q rfl (by omega) (by omega) (fun _ => rfl) dX8_readItem_94 (fun v16 v16l v16u v16w => ?_)
          have k17 := bd_e k12 (congrArg Int32.toInt v16w.symm)
          have v16V : v16.toInt = V hx.2.1 73 S := by rw [v16w, v11S]; rfl
          refine gf_iadd (pc := 95) e14 (ti_rfl v16) (by omega) (by omega) dX8_readItem_95 (fun v18 e19 => ?_)
          refine go_istore (pc := 96) (Nat.le_of_ble_eq_true rfl) dX8_readItem_96 (go_lv (lv2 := [(0, .ref 70), (1, .int l1), (2, .int l2), (3, .int l3), (4, .int l4), (5, .int l5), (6, .int v18)]) rfl ?_)
          refine go_aload_n (pc := 98) rfl dX8_readItem_98 ?_
          refine gi_getF (pc := 99) (q := 73) hvx fL_X8_16 rfl (Nat.le_of_ble_eq_true rfl) rfl (hvx.rf (by decide)) dX8_readItem_99 ?_
          refine go_aload_n (pc := 102) rfl dX8_readItem_102 ?_
          refine gi_get (pc := 103) (lo := 0) (hi := 1) hvx fL_X8_187 rfl (Nat.le_of_ble_eq_true rfl) rfl rfl dX8_readItem_103 (fun v20 v20l v20u v20w => ?_)
          have v20r : v11 = hx.2.1 70 6 := v11w
          have v20q : TI v20 v11.toInt := by rw [v20w.trans v20r.symm]; exact (ti_rfl v11)
          refine go_dup2 (pc := 106) rfl rfl dX8_readItem_106 ?_
          refine gi_iald (pc := 107) (lo := 0) (hi := 130) (len := 2) hvx v20q rfl (by omega) (by omega) (fun _ => rfl) dX8_readItem_107 (fun v21 v21l v21u v21w => ?_)
          have k22 := bd_e k17 (congrArg Int32.toInt v21w.symm)
          have v21V : v21.toInt = V hx.2.1 73 S := by rw [v21w, v11S]; rfl
          refine go_iconst (pc := 108) (v := 1) (by decide) dX8_readItem_108 ?_
          refine gf_iadd (pc := 109) (ti_rfl v21) (ti_c (v := 1) (a := 1) (by decide)) (by omega) (by omega) dX8_readItem_109 (fun v23 e24 => ?_)
          refine gi_fst (pc := 110) (lo := 0) (hi := 130) (len := 2) hvx v20q e24 rfl (by omega) (by omega) (fun _ => rfl) (by omega) (by omega) (by omega) dX8_readItem_110 (fun h25 hv25 hv25e => ?_)
          have fx25 : FX KRt h h25 := FX.pI fxx hv25e (by unfold KRt; omega)
          have k26 := bd_e k22 (st_I hv25e e24)
          refine go_aload_n (pc := 111) rfl dX8_readItem_111 ?_
          refine gi_getF (pc := 112) (q := 77) hv25 fL_X8_29 rfl (Nat.le_of_ble_eq_true rfl) rfl (hv25.rf (by decide)) dX8_readItem_112 ?_
          refine go_iload (pc := 115) rfl dX8_readItem_115 ?_
          refine go_iload (pc := 117) rfl dX8_readItem_117 ?_
          refine gi_fst (pc := 119) (lo := 0) (hi := 6) (len := 260) hv25 e19 (ti_rfl l5) rfl (by omega) (by omega) (fun _ => rfl) (by omega) (by omega) (by omega) dX8_readItem_119 (fun h27 hv27 hv27e => ?_)
          have fx27 : FX KRt h h27 := FX.pI fx25 hv27e (by unfold KRt; omega)
          have k28 := bd_e k26 (st_I hv27e (ti_rfl l5))
          refine go_aload_n (pc := 120) rfl dX8_readItem_120 ?_
          refine gi_getF (pc := 121) (q := 78) hv27 fL_X8_32 rfl (Nat.le_of_ble_eq_true rfl) rfl (hv27.rf (by decide)) dX8_readItem_121 ?_
          refine go_iload (pc := 124) rfl dX8_readItem_124 ?_
          refine go_iconst (pc := 126) (v := (-1)) (by decide) dX8_readItem_126 ?_
          refine gi_fst (pc := 127) (lo := -1) (hi := 39) (len := 260) hv27 e19 (ti_c (v := (-1)) (a := (-1)) (by decide)) rfl (by omega) (by omega) (fun _ => rfl) (by omega) (by omega) (by omega) dX8_readItem_127 (fun h29 hv29 hv29e => ?_)
          have fx29 : FX KRt h h29 := FX.pI fx27 hv29e (by unfold KRt; omega)
          have k30 := bd_e k28 (st_I hv29e (ti_c (v := (-1)) (a := (-1)) (by decide)))
          refine go_aload_n (pc := 128) rfl dX8_readItem_128 ?_
          refine gi_getF (pc := 129) (q := 79) hv29 fL_X8_35 rfl (Nat.le_of_ble_eq_true rfl) rfl (hv29.rf (by decide)) dX8_readItem_129 ?_
          refine go_iload (pc := 132) rfl dX8_readItem_132 ?_
          refine go_iload_n (pc := 134) rfl dX8_readItem_134 ?_
          refine gi_fst (pc := 135) (lo := 0) (hi := 4) (len := 260) hv29 e19 (ti_rfl l2) rfl (by omega) (by omega) (fun _ => rfl) (by omega) (by omega) (by omega) dX8_readItem_135 (fun h31 hv31 hv31e => ?_)
          have fx31 : FX KRt h h31 := FX.pI fx29 hv31e (by unfold KRt; omega)
          have k32 := bd_e k30 (st_I hv31e (ti_rfl l2))
          refine go_aload_n (pc := 136) rfl dX8_readItem_136 ?_
          refine gi_getF (pc := 137) (q := 80) hv31 fL_X8_38 rfl (Nat.le_of_ble_eq_true rfl) rfl (hv31.rf (by decide)) dX8_readItem_137 ?_
          refine go_iload (pc := 140) rfl dX8_readItem_140 ?_
          refine go_iload_n (pc := 142) rfl dX8_readItem_142 ?_
          refine gi_fst (pc := 143) (lo := 0) (hi := 6) (len := 260) hv31 e19 (ti_rfl l3) rfl (by omega) (by omega) (fun _ => rfl) (by omega) (by omega) (by omega) dX8_readItem_143 (fun h33 hv33 hv33e => ?_)
          have fx33 : FX KRt h h33 := FX.pI fx31 hv33e (by unfold KRt; omega)
          have k34 := bd_e k32 (st_I hv33e (ti_rfl l3))
          refine go_aload_n (pc := 144) rfl dX8_readItem_144 ?_
          refine gi_getF (pc := 145) (q := 81) hv33 fL_X8_41 rfl (Nat.le_of_ble_eq_true rfl) rfl (hv33.rf (by decide)) dX8_readItem_145 ?_
          refine go_iload (pc := 148) rfl dX8_readItem_148 ?_
          refine go_aload_n (pc := 150) rfl dX8_readItem_150 ?_
          refine gi_get (pc := 151) (lo := 0) (hi := 500) hv33 fL_X8_163 rfl (Nat.le_of_ble_eq_true rfl) rfl rfl dX8_readItem_151 (fun v35 v35l v35u v35w => ?_)
          have v35r : u70_4 = h33.2.1 70 4 := (show u70_4 = h33.2.1 70 4 from by rw [hv33e]; exact (g_iI rfl (show u70_4 = h31.2.1 70 4 from by rw [hv31e]; exact (g_iI rfl (show u70_4 = h29.2.1 70 4 from by rw [hv29e]; exact (g_iI rfl (show u70_4 = h27.2.1 70 4 from by rw [hv27e]; exact (g_iI rfl (show u70_4 = h25.2.1 70 4 from by rw [hv25e]; exact (g_iI rfl u70_4w.symm).symm).symm).symm).symm).symm).symm).symm).symm).symm)
          have v35q : TI v35 u70_4.toInt := by rw [v35w.trans v35r.symm]; exact (ti_rfl u70_4)
          refine gi_fst (pc := 154) (lo := -2147483648) (hi := 2147483647) (len := 260) hv33 e19 v35q rfl (by omega) (by omega) (fun _ => rfl) (ti_ge v35q) (ti_le2 v35q) (by omega) dX8_readItem_154 (fun h36 hv36 hv36e => ?_)
          have fx36 : FX KRt h h36 := FX.pI fx33 hv36e (by unfold KRt; omega)
          have k37 := bd_e k34 (st_I hv36e v35q)
          refine go_aload_n (pc := 155) rfl dX8_readItem_155 ?_
          refine gi_getF (pc := 156) (q := 82) hv36 fL_X8_44 rfl (Nat.le_of_ble_eq_true rfl) rfl (hv36.rf (by decide)) dX8_readItem_156 ?_
          refine go_iload (pc := 159) rfl dX8_readItem_159 ?_
          refine go_iload (pc := 161) rfl dX8_readItem_161 ?_
          refine gi_fst (pc := 163) (lo := -1) (hi := 9) (len := 260) hv36 e19 (ti_rfl l4) rfl (by omega) (by omega) (fun _ => rfl) (by omega) (by omega) (by omega) dX8_readItem_163 (fun h38 hv38 hv38e => ?_)
          have fx38 : FX KRt h h38 := FX.pI fx36 hv38e (by unfold KRt; omega)
          have k39 := bd_e k37 (st_I hv38e (ti_rfl l4))
          refine go_aload_n (pc := 164) rfl dX8_readItem_164 ?_
          refine gi_getF (pc := 165) (q := 83) hv38 fL_X8_47 rfl (Nat.le_of_ble_eq_true rfl) rfl (hv38.rf (by decide)) dX8_readItem_165 ?_
          refine go_iload (pc := 168) rfl dX8_readItem_168 ?_
          refine go_iconst (pc := 170) (v := 0) (by decide) dX8_readItem_170 ?_
          refine gi_fst (pc := 171) (lo := -2147483648) (hi := 2147483647) (len := 260) hv38 e19 (ti_c (v := 0) (a := 0) (by decide)) rfl (by omega) (by omega) (fun _ => rfl) (ti_ge (ti_c (v := 0) (a := 0) (by decide))) (ti_le2 (ti_c (v := 0) (a := 0) (by decide))) (by omega) dX8_readItem_171 (fun h40 hv40 hv40e => ?_)
          have fx40 : FX KRt h h40 := FX.pI fx38 hv40e (by unfold KRt; omega)
          have k41 := bd_e k39 (st_I hv40e (ti_c (v := 0) (a := 0) (by decide)))
          refine go_aload_n (pc := 172) rfl dX8_readItem_172 ?_
          refine gi_getF (pc := 173) (q := 84) hv40 fL_X8_50 rfl (Nat.le_of_ble_eq_true rfl) rfl (hv40.rf (by decide)) dX8_readItem_173 ?_
          refine go_iload (pc := 176) rfl dX8_readItem_176 ?_
          refine go_bipush (pc := 178) (v := (-2)) (by decide) dX8_readItem_178 ?_
          refine gi_fst (pc := 180) (lo := -2) (hi := 4) (len := 260) hv40 e19 (ti_c (v := (-2)) (a := (-2)) (by decide)) rfl (by omega) (by omega) (fun _ => rfl) (by omega) (by omega) (by omega) dX8_readItem_180 (fun h42 hv42 hv42e => ?_)
          have fx42 : FX KRt h h42 := FX.pI fx40 hv42e (by unfold KRt; omega)
          have k43 := bd_e k41 (st_I hv42e (ti_c (v := (-2)) (a := (-2)) (by decide)))
          refine go_aload_n (pc := 181) rfl dX8_readItem_181 ?_
          refine gi_getF (pc := 182) (q := 85) hv42 fL_X8_53 rfl (Nat.le_of_ble_eq_true rfl) rfl (hv42.rf (by decide)) dX8_readItem_182 ?_
          refine go_iload (pc := 185) rfl dX8_readItem_185 ?_
          refine go_iconst (pc := 187) (v := (-1)) (by decide) dX8_readItem_187 ?_
          refine gi_fst (pc := 188) (lo := -1) (hi := 559) (len := 260) hv42 e19 (ti_c (v := (-1)) (a := (-1)) (by decide)) rfl (by omega) (by omega) (fun _ => rfl) (by omega) (by omega) (by omega) dX8_readItem_188 (fun h44 hv44 hv44e => ?_)
          have fx44 : FX KRt h h44 := FX.pI fx42 hv44e (by unfold KRt; omega)
          have k45 := bd_e k43 (st_I hv44e (ti_c (v := (-1)) (a := (-1)) (by decide)))
          refine go_aload_n (pc := 189) rfl dX8_readItem_189 ?_
          refine gi_getF (pc := 190) (q := 86) hv44 fL_X8_56 rfl (Nat.le_of_ble_eq_true rfl) rfl (hv44.rf (by decide)) dX8_readItem_190 ?_
          refine go_iload (pc := 193) rfl dX8_readItem_193 ?_
          refine go_iconst (pc := 195) (v := (-1)) (by decide) dX8_readItem_195 ?_
          refine gi_fst (pc := 196) (lo := -1) (hi := 559) (len := 260) hv44 e19 (ti_c (v := (-1)) (a := (-1)) (by decide)) rfl (by omega) (by omega) (fun _ => rfl) (by omega) (by omega) (by omega) dX8_readItem_196 (fun h46 hv46 hv46e => ?_)
          have fx46 : FX KRt h h46 := FX.pI fx44 hv46e (by unfold KRt; omega)
          have k47 := bd_e k45 (st_I hv46e (ti_c (v := (-1)) (a := (-1)) (by decide)))
          refine go_aload_n (pc := 197) rfl dX8_readItem_197 ?_
          refine gi_getF (pc := 198) (q := 87) hv46 fL_X8_59 rfl (Nat.le_of_ble_eq_true rfl) rfl (hv46.rf (by decide)) dX8_readItem_198 ?_
          refine go_iload (pc := 201) rfl dX8_readItem_201 ?_
          refine go_iconst (pc := 203) (v := (-1)) (by decide) dX8_readItem_203 ?_
          refine gi_fst (pc := 204) (lo := -1) (hi := 259) (len := 260) hv46 e19 (ti_c (v := (-1)) (a := (-1)) (by decide)) rfl (by omega) (by omega) (fun _ => rfl) (by omega) (by omega) (by omega) dX8_readItem_204 (fun h48 hv48 hv48e => ?_)
          have fx48 : FX KRt h h48 := FX.pI fx46 hv48e (by unfold KRt; omega)
          have k49 := bd_e k47 (st_I hv48e (ti_c (v := (-1)) (a := (-1)) (by decide)))
          refine go_aload_n (pc := 205) rfl dX8_readItem_205 ?_
          refine gi_getF (pc := 206) (q := 88) hv48 fL_X8_62 rfl (Nat.le_of_ble_eq_true rfl) rfl (hv48.rf (by decide)) dX8_readItem_206 ?_
          refine go_iload (pc := 209) rfl dX8_readItem_209 ?_
          refine go_iload_n (pc := 211) rfl dX8_readItem_211 ?_
          refine gi_fst (pc := 212) (lo := 0) (hi := 559) (len := 260) hv48 e19 (ti_rfl l1) rfl (by omega) (by omega) (fun _ => rfl) (by omega) (by omega) (by omega) dX8_readItem_212 (fun h50 hv50 hv50e => ?_)
          have fx50 : FX KRt h h50 := FX.pI fx48 hv50e (by unfold KRt; omega)
          have k51 := bd_e k49 (st_I hv50e (ti_rfl l1))
          refine go_aload_n (pc := 213) rfl dX8_readItem_213 ?_
          refine gi_getF (pc := 214) (q := 89) hv50 fL_X8_65 rfl (Nat.le_of_ble_eq_true rfl) rfl (hv50.rf (by decide)) dX8_readItem_214 ?_
          refine go_iconst (pc := 217) (v := 2) (by decide) dX8_readItem_217 ?_
          refine go_iload (pc := 218) rfl dX8_readItem_218 ?_
          refine gf_imul (pc := 220) (ti_c (v := 2) (a := 2) (by decide)) e19 (by omega) (by omega) dX8_readItem_220 (fun v52 e53 => ?_)
          refine go_iconst (pc := 221) (v := 0) (by decide) dX8_readItem_221 ?_
          refine gi_fst (pc := 222) (lo := 0) (hi := 9999) (len := 520) hv50 e53 (ti_c (v := 0) (a := 0) (by decide)) rfl (by omega) (by omega) (fun _ => rfl) (by omega) (by omega) (by omega) dX8_readItem_222 (fun h54 hv54 hv54e => ?_)
          have fx54 : FX KRt h h54 := FX.pI fx50 hv54e (by unfold KRt; omega)
          have k55 := bd_e k51 (st_I hv54e (ti_c (v := 0) (a := 0) (by decide)))
          refine go_aload_n (pc := 223) rfl dX8_readItem_223 ?_
          refine gi_getF (pc := 224) (q := 89) hv54 fL_X8_65 rfl (Nat.le_of_ble_eq_true rfl) rfl (hv54.rf (by decide)) dX8_readItem_224 ?_
          refine go_iconst (pc := 227) (v := 2) (by decide) dX8_readItem_227 ?_
          refine go_iload (pc := 228) rfl dX8_readItem_228 ?_
          refine gf_imul (pc := 230) (ti_c (v := 2) (a := 2) (by decide)) e19 (by omega) (by omega) dX8_readItem_230 (fun v56 e57 => ?_)
          refine go_iconst (pc := 231) (v := 1) (by decide) dX8_readItem_231 ?_
          refine gf_iadd (pc := 232) e57 (ti_c (v := 1) (a := 1) (by decide)) (by omega) (by omega) dX8_readItem_232 (fun v58 e59 => ?_)
          refine go_iconst (pc := 233) (v := 0) (by decide) dX8_readItem_233 ?_
          refine gi_fst (pc := 234) (lo := 0) (hi := 9999) (len := 520) hv54 e59 (ti_c (v := 0) (a := 0) (by decide)) rfl (by omega) (by omega) (fun _ => rfl) (by omega) (by omega) (by omega) dX8_readItem_234 (fun h60 hv60 hv60e => ?_)
          have fx60 : FX KRt h h60 := FX.pI fx54 hv60e (by unfold KRt; omega)
          have k61 := bd_e k55 (st_I hv60e (ti_c (v := 0) (a := 0) (by decide)))
          refine go_iload (pc := 235) rfl dX8_readItem_235 ?_
          refine go_bipush (pc := 237) (v := 6) (by decide) dX8_readItem_237 ?_
          have E60 : h60.2.1 = (w1 (w1 (w1 (w1 (w1 (w1 (w1 (w1 (w1 (w1 (w1 (w1 (w1 (w1 (w1 hx.2.1 73 S (v23 : Int32)) 77 (((130 * S) + v16.toInt)) (l5 : Int32)) 78 (((130 * S) + v16.toInt)) ((-1) : Int32)) 79 (((130 * S) + v16.toInt)) (l2 : Int32)) 80 (((130 * S) + v16.toInt)) (l3 : Int32)) 81 (((130 * S) + v16.toInt)) (v35 : Int32)) 82 (((130 * S) + v16.toInt)) (l4 : Int32)) 83 (((130 * S) + v16.toInt)) (0 : Int32)) 84 (((130 * S) + v16.toInt)) ((-2) : Int32)) 85 (((130 * S) + v16.toInt)) ((-1) : Int32)) 86 (((130 * S) + v16.toInt)) ((-1) : Int32)) 87 (((130 * S) + v16.toInt)) ((-1) : Int32)) 88 (((130 * S) + v16.toInt)) (l1 : Int32)) 89 ((2 * ((130 * S) + v16.toInt))) (0 : Int32)) 89 (((2 * ((130 * S) + v16.toInt)) + 1)) (0 : Int32)) := by
            rw [hv60e, hv54e, hv50e, hv48e, hv46e, hv44e, hv42e, hv40e, hv38e, hv36e, hv33e, hv31e, hv29e, hv27e, hv25e]
            rw [v11S]
            rfl
          have oh60 : OH h.2.1 h60.2.1 S := by rw [E60]; exact (((((((((((((((ohx.trans (OH.w 1 rfl (by omega) (by omega) (by omega) (by omega))).trans (OH.w 130 rfl (by omega) (by omega) (by omega) (by omega))).trans (OH.w 130 rfl (by omega) (by omega) (by omega) (by omega))).trans (OH.w 130 rfl (by omega) (by omega) (by omega) (by omega))).trans (OH.w 130 rfl (by omega) (by omega) (by omega) (by omega))).trans (OH.w 130 rfl (by omega) (by omega) (by omega) (by omega))).trans (OH.w 130 rfl (by omega) (by omega) (by omega) (by omega))).trans (OH.w 130 rfl (by omega) (by omega) (by omega) (by omega))).trans (OH.w 130 rfl (by omega) (by omega) (by omega) (by omega))).trans (OH.w 130 rfl (by omega) (by omega) (by omega) (by omega))).trans (OH.w 130 rfl (by omega) (by omega) (by omega) (by omega))).trans (OH.w 130 rfl (by omega) (by omega) (by omega) (by omega))).trans (OH.w 130 rfl (by omega) (by omega) (by omega) (by omega))).trans (OH.w 260 rfl (by omega) (by omega) (by omega) (by omega))).trans (OH.w 260 rfl (by omega) (by omega) (by omega) (by omega)))
          have kp60 : KP h.2.1 h60.2.1 := by rw [E60]; exact (((((((((((((((kpx.trans (KP.w (by omega))).trans (KP.w (by omega))).trans (KP.w (by omega))).trans (KP.w (by omega))).trans (KP.w (by omega))).trans (KP.w (by omega))).trans (KP.w (by omega))).trans (KP.w (by omega))).trans (KP.w (by omega))).trans (KP.w (by omega))).trans (KP.w (by omega))).trans (KP.w (by omega))).trans (KP.w (by omega))).trans (KP.w (by omega))).trans (KP.w (by omega)))
          have n73_60 : V h60.2.1 73 S = (v21.toInt + 1) := by rw [E60, V_ne (by omega), V_ne (by omega), V_ne (by omega), V_ne (by omega), V_ne (by omega), V_ne (by omega), V_ne (by omega), V_ne (by omega), V_ne (by omega), V_ne (by omega), V_ne (by omega), V_ne (by omega), V_ne (by omega), V_ne (by omega), V_eq]; exact e24
          have n74_60 : V h60.2.1 74 S = V hx.2.1 74 S := by rw [E60, V_ne (by omega), V_ne (by omega), V_ne (by omega), V_ne (by omega), V_ne (by omega), V_ne (by omega), V_ne (by omega), V_ne (by omega), V_ne (by omega), V_ne (by omega), V_ne (by omega), V_ne (by omega), V_ne (by omega), V_ne (by omega), V_ne (by omega)]
          have n75_60 : V h60.2.1 75 S = V hx.2.1 75 S := by rw [E60, V_ne (by omega), V_ne (by omega), V_ne (by omega), V_ne (by omega), V_ne (by omega), V_ne (by omega), V_ne (by omega), V_ne (by omega), V_ne (by omega), V_ne (by omega), V_ne (by omega), V_ne (by omega), V_ne (by omega), V_ne (by omega), V_ne (by omega)]
          have ck60 : CKF h.2.1 → CKF h60.2.1 := fun z => by rw [E60]; exact (CKF.w (by omega) (CKF.w (by omega) (CKF.w (by omega) (CKF.w (by omega) (CKF.w (by omega) (CKF.w (by omega) (CKF.w84 (Or.inr (by rw [V_ne (by omega), V_ne (by omega), V_ne (by omega), V_ne (by omega), V_ne (by omega), V_ne (by omega), V_eq, show (l5 : Int32).toInt = l5.toInt from (ti_rfl l5)]; omega)) (CKF.w (by omega) (CKF.w (by omega) (CKF.w (by omega) (CKF.w (by omega) (CKF.w (by omega) (CKF.w (by omega) (CKF.w77 (by rw [show (l5 : Int32).toInt = l5.toInt from (ti_rfl l5)]; omega) (CKF.w (by omega) (ckx z))))))))))))))))
          refine gf_icmp_eq (pc := 239) (tgt := 295) (ti_rfl l5) (ti_c (v := 6) (a := 6) (by decide)) (by decide) dX8_readItem_239 (fun q62 => ?_) (fun q62 => ?_)
          ·
            have k63 := if_t k61 q62
            refine go_aload_n (pc := 295) rfl dX8_readItem_295 ?_
            refine gi_getF (pc := 296) (q := 90) hv60 fL_X8_68 rfl (Nat.le_of_ble_eq_true rfl) rfl (hv60.rf (by decide)) dX8_readItem_296 ?_
            refine go_iload_n (pc := 299) rfl dX8_readItem_299 ?_
            refine gi_iald (pc := 300) (lo := -1) (hi := 259) (len := 560) hv60 (ti_rfl l1) rfl (by omega) (by omega) (fun _ => rfl) dX8_readItem_300 (fun v64 v64l v64u v64w => ?_)
            have k65 := bd_e k63 (congrArg Int32.toInt v64w.symm)
            have v64V : v64.toInt = V h60.2.1 90 l1.toInt := by rw [v64w]; rfl
            have f90 : V h60.2.1 90 l1.toInt = V hx.2.1 90 l1.toInt := by rw [E60, V_ne (by omega), V_ne (by omega), V_ne (by omega), V_ne (by omega), V_ne (by omega), V_ne (by omega), V_ne (by omega), V_ne (by omega), V_ne (by omega), V_ne (by omega), V_ne (by omega), V_ne (by omega), V_ne (by omega), V_ne (by omega), V_ne (by omega)]
            have f91 : V h60.2.1 91 l1.toInt = V hx.2.1 91 l1.toInt := by rw [E60, V_ne (by omega), V_ne (by omega), V_ne (by omega), V_ne (by omega), V_ne (by omega), V_ne (by omega), V_ne (by omega), V_ne (by omega), V_ne (by omega), V_ne (by omega), V_ne (by omega), V_ne (by omega), V_ne (by omega), V_ne (by omega), V_ne (by omega)]
            have g90 : V hx.2.1 90 l1.toInt = V h.2.1 90 a2.toInt := by rw [x1]; exact xve.v (by omega) (by omega)
            have g91 : V hx.2.1 91 l1.toInt = V h.2.1 91 a2.toInt := by rw [x1]; exact xve.v (by omega) (by omega)
            refine go_iconst (pc := 301) (v := (-1)) (by decide) dX8_readItem_301 ?_
            refine gf_icmp_ne (pc := 302) (tgt := 316) (ti_rfl v64) (ti_c (v := (-1)) (a := (-1)) (by decide)) (by decide) dX8_readItem_302 (fun q66 => ?_) (fun q66 => ?_)
            ·
              have k67 := if_t k65 q66
              have t5 := ht.1.2.2.2.2.2.1 a2.toInt ht.2.1
              rcases t5.2.1 with z | ⟨⟨z1, z2⟩, z3⟩
              · exact absurd z (t5.2.2.2 (by omega))
              refine go_aload_n (pc := 316) rfl dX8_readItem_316 ?_
              refine gi_getF (pc := 317) (q := 87) hv60 fL_X8_59 rfl (Nat.le_of_ble_eq_true rfl) rfl (hv60.rf (by decide)) dX8_readItem_317 ?_
              refine go_aload_n (pc := 320) rfl dX8_readItem_320 ?_
              refine gi_getF (pc := 321) (q := 91) hv60 fL_X8_71 rfl (Nat.le_of_ble_eq_true rfl) rfl (hv60.rf (by decide)) dX8_readItem_321 ?_
              refine go_iload_n (pc := 324) rfl dX8_readItem_324 ?_
              refine gi_iald (pc := 325) (lo := -1) (hi := 259) (len := 560) hv60 (ti_rfl l1) rfl (by omega) (by omega) (fun _ => rfl) dX8_readItem_325 (fun v68 v68l v68u v68w => ?_)
              have k69 := bd_e k67 (congrArg Int32.toInt v68w.symm)
              have v68V : v68.toInt = V h60.2.1 91 l1.toInt := by rw [v68w]; rfl
              refine go_iload (pc := 326) rfl dX8_readItem_326 ?_
              refine gi_fst (pc := 328) (lo := -1) (hi := 259) (len := 260) hv60 (ti_rfl v68) e19 rfl (by omega) (by omega) (fun _ => rfl) (by omega) (by omega) (by omega) dX8_readItem_328 (fun h70 hv70 hv70e => ?_)
              have fx70 : FX KRt h h70 := FX.pI fx60 hv70e (by unfold KRt; omega)
              have k71 := bd_e k69 (st_I hv70e e19)
              refine go_aload_n (pc := 329) rfl dX8_readItem_329 ?_
              refine gi_getF (pc := 330) (q := 91) hv70 fL_X8_71 rfl (Nat.le_of_ble_eq_true rfl) rfl (hv70.rf (by decide)) dX8_readItem_330 ?_
              refine go_iload_n (pc := 333) rfl dX8_readItem_333 ?_
              refine go_iload (pc := 334) rfl dX8_readItem_334 ?_
              refine gi_fst (pc := 336) (lo := -1) (hi := 259) (len := 560) hv70 (ti_rfl l1) e19 rfl (by omega) (by omega) (fun _ => rfl) (by omega) (by omega) (by omega) dX8_readItem_336 (fun h72 hv72 hv72e => ?_)
              have fx72 : FX KRt h h72 := FX.pI fx70 hv72e (by unfold KRt; omega)
              have k73 := bd_e k71 (st_I hv72e e19)
              refine go_aload_n (pc := 337) rfl dX8_readItem_337 ?_
              refine go_dup (pc := 338) rfl dX8_readItem_338 ?_
              refine gi_get (pc := 339) (lo := 0) (hi := 500) hv72 fL_X8_163 rfl (Nat.le_of_ble_eq_true rfl) rfl rfl dX8_readItem_339 (fun v74 v74l v74u v74w => ?_)
              have v74r : u70_4 = h72.2.1 70 4 := (show u70_4 = h72.2.1 70 4 from by rw [hv72e]; exact (g_iI rfl (show u70_4 = h70.2.1 70 4 from by rw [hv70e]; exact (g_iI rfl (show u70_4 = h60.2.1 70 4 from by rw [hv60e]; exact (g_iI rfl (show u70_4 = h54.2.1 70 4 from by rw [hv54e]; exact (g_iI rfl (show u70_4 = h50.2.1 70 4 from by rw [hv50e]; exact (g_iI rfl (show u70_4 = h48.2.1 70 4 from by rw [hv48e]; exact (g_iI rfl (show u70_4 = h46.2.1 70 4 from by rw [hv46e]; exact (g_iI rfl (show u70_4 = h44.2.1 70 4 from by rw [hv44e]; exact (g_iI rfl (show u70_4 = h42.2.1 70 4 from by rw [hv42e]; exact (g_iI rfl (show u70_4 = h40.2.1 70 4 from by rw [hv40e]; exact (g_iI rfl (show u70_4 = h38.2.1 70 4 from by rw [hv38e]; exact (g_iI rfl (show u70_4 = h36.2.1 70 4 from by rw [hv36e]; exact (g_iI rfl (show u70_4 = h33.2.1 70 4 from by rw [hv33e]; exact (g_iI rfl (show u70_4 = h31.2.1 70 4 from by rw [hv31e]; exact (g_iI rfl (show u70_4 = h29.2.1 70 4 from by rw [hv29e]; exact (g_iI rfl (show u70_4 = h27.2.1 70 4 from by rw [hv27e]; exact (g_iI rfl (show u70_4 = h25.2.1 70 4 from by rw [hv25e]; exact (g_iI rfl u70_4w.symm).symm).symm).symm).symm).symm).symm).symm).symm).symm).symm).symm).symm).symm).symm).symm).symm).symm).symm).symm).symm).symm).symm).symm).symm).symm).symm).symm).symm).symm).symm).symm).symm).symm)
              have v74q : TI v74 u70_4.toInt := by rw [v74w.trans v74r.symm]; exact (ti_rfl u70_4)
              refine go_iconst (pc := 342) (v := 1) (by decide) dX8_readItem_342 ?_
              refine gf_iadd (pc := 343) v74q (ti_c (v := 1) (a := 1) (by decide)) (by omega) (by omega) dX8_readItem_343 (fun v75 e76 => ?_)
              have E72 : h72.2.1 = (w1 (w1 h60.2.1 87 v68.toInt (v18 : Int32)) 91 l1.toInt (v18 : Int32)) := by
                rw [hv72e, hv70e]
                rfl
              have oh72 : OH h.2.1 h72.2.1 S := by rw [E72]; exact ((oh60.trans (OH.w 130 rfl (by omega) (by omega) (by omega) (by omega))).trans (OH.w 280 rfl (by omega) (by omega) (by omega) (by omega)))
              have kp72 : KP h.2.1 h72.2.1 := by rw [E72]; exact ((kp60.trans (KP.w (by omega))).trans (KP.w (by omega)))
              have n73_72 : V h72.2.1 73 S = V h60.2.1 73 S := by rw [E72, V_ne (by omega), V_ne (by omega)]
              have n74_72 : V h72.2.1 74 S = V h60.2.1 74 S := by rw [E72, V_ne (by omega), V_ne (by omega)]
              have n75_72 : V h72.2.1 75 S = V h60.2.1 75 S := by rw [E72, V_ne (by omega), V_ne (by omega)]
              have ck72 : CKF h.2.1 → CKF h72.2.1 := fun z => by rw [E72]; exact (CKF.w (by omega) (CKF.w (by omega) (ck60 z)))
              refine gi_put (pc := 344) (lo := 0) (hi := 500) hv72 e76 (fP_X8_163 _) rfl (Nat.le_of_ble_eq_true rfl) rfl rfl (by omega) (by omega) rfl rfl (by decide) (by decide) (by decide) (by decide) dX8_readItem_344 (fun h77 hv77 hv77e => ?_)
              have fx77 : FX KRt h h77 := FX.pI fx72 hv77e (by unfold KRt; omega)
              have k78 := bd_e k73 (st_I hv77e e76)
              have ve77 : VE h72.2.1 h77.2.1 := VE.of hv72 hv77
              have oh77 : OH h.2.1 h77.2.1 S := oh72.trans (OH.of hv72 hv77 S)
              have kp77 : KP h.2.1 h77.2.1 := kp72.trans (KP.ve ve77)
              have ck77 : CKF h.2.1 → CKF h77.2.1 := fun z => CKF.ve ve77 (ck72 z)
              have n73_77 : V h77.2.1 73 S = V h72.2.1 73 S := ve77.v (by omega) (by omega)
              have n74_77 : V h77.2.1 74 S = V h72.2.1 74 S := ve77.v (by omega) (by omega)
              have n75_77 : V h77.2.1 75 S = V h72.2.1 75 S := ve77.v (by omega) (by omega)
              refine go_iload (pc := 347) rfl dX8_readItem_347 ?_
              refine gf_if_ne (pc := 349) (tgt := 363) (ti_rfl l5) (by decide) dX8_readItem_349 (fun q79 => ?_) (fun q79 => False.elim (by omega))
              refine go_iload (pc := 363) rfl dX8_readItem_363 ?_
              refine go_iconst (pc := 365) (v := 2) (by decide) dX8_readItem_365 ?_
              refine gf_icmp_eq (pc := 366) (tgt := 375) (ti_rfl l5) (ti_c (v := 2) (a := 2) (by decide)) (by decide) dX8_readItem_366 (fun q80 => False.elim (by omega)) (fun q80 => ?_)
              refine go_iload (pc := 369) rfl dX8_readItem_369 ?_
              refine go_iconst (pc := 371) (v := 3) (by decide) dX8_readItem_371 ?_
              refine gf_icmp_ne (pc := 372) (tgt := 386) (ti_rfl l5) (ti_c (v := 3) (a := 3) (by decide)) (by decide) dX8_readItem_372 (fun q81 => ?_) (fun q81 => False.elim (by omega))
              refine go_iload (pc := 386) rfl dX8_readItem_386 ?_
              refine go_bipush (pc := 388) (v := 6) (by decide) dX8_readItem_388 ?_
              refine gf_icmp_ne (pc := 390) (tgt := 404) (ti_rfl l5) (ti_c (v := 6) (a := 6) (by decide)) (by decide) dX8_readItem_390 (fun q82 => False.elim (by omega)) (fun q82 => ?_)
              refine go_aload_n (pc := 393) rfl dX8_readItem_393 ?_
              refine go_iload (pc := 394) rfl dX8_readItem_394 ?_
              refine go_iload_n (pc := 396) rfl dX8_readItem_396 ?_
              refine go_iload_n (pc := 397) rfl dX8_readItem_397 ?_
              have EG : h72.2.1 = (w1 (w1 (w1 (w1 (w1 (w1 (w1 (w1 (w1 (w1 (w1 (w1 (w1 (w1 (w1 (w1 (w1 hx.2.1 73 S (v23 : Int32)) 77 (((130 * S) + v16.toInt)) (l5 : Int32)) 78 (((130 * S) + v16.toInt)) ((-1) : Int32)) 79 (((130 * S) + v16.toInt)) (l2 : Int32)) 80 (((130 * S) + v16.toInt)) (l3 : Int32)) 81 (((130 * S) + v16.toInt)) (v35 : Int32)) 82 (((130 * S) + v16.toInt)) (l4 : Int32)) 83 (((130 * S) + v16.toInt)) (0 : Int32)) 84 (((130 * S) + v16.toInt)) ((-2) : Int32)) 85 (((130 * S) + v16.toInt)) ((-1) : Int32)) 86 (((130 * S) + v16.toInt)) ((-1) : Int32)) 87 (((130 * S) + v16.toInt)) ((-1) : Int32)) 88 (((130 * S) + v16.toInt)) (l1 : Int32)) 89 ((2 * ((130 * S) + v16.toInt))) (0 : Int32)) 89 (((2 * ((130 * S) + v16.toInt)) + 1)) (0 : Int32)) 87 v68.toInt (v18 : Int32)) 91 l1.toInt (v18 : Int32)) := by rw [E72, E60]
              have z83 : (v23 : Int32).toInt = (v21.toInt + 1) := e24
              have z84 : ((-1) : Int32).toInt = (-1) := (ti_c (v := (-1)) (a := (-1)) (by decide))
              have z85 : (v35 : Int32).toInt = u70_4.toInt := v35q
              have z86 : (0 : Int32).toInt = 0 := (ti_c (v := 0) (a := 0) (by decide))
              have z87 : ((-2) : Int32).toInt = (-2) := (ti_c (v := (-2)) (a := (-2)) (by decide))
              have z88 : (v18 : Int32).toInt = ((130 * v11.toInt) + v16.toInt) := e19
              have y73 : V hx.2.1 73 S = V h.2.1 73 S := xve.v (by omega) (by omega)
              have y75 : V hx.2.1 75 S = V h.2.1 75 S := xve.v (by omega) (by omega)
              have ni : NI h.2.1 h77.2.1 S l1.toInt a4.toInt (((130 * S) + v16.toInt)) l5.toInt l4.toInt := NI.cr11 (its := l5.toInt) (nm := l4.toInt) S0 xve EG ve77 (by omega) (by omega) (by omega) (by omega) (by first | omega | decide) (by omega) (by decide) (by decide) (by decide) (by omega) (by decide) (by decide) (by omega) (by omega) (by omega) (by omega) (by omega) (by omega) (by omega) (by omega) (by omega) (by omega)
              obtain ⟨i1, i2, i3, i4, i5, i6, i7, i8⟩ := ni (ht.1) (by rw [x1]; exact ht.2.1) (by rw [x1]; exact ht.2.2)
              have ze : (v18 : Int32).toInt = ((130 * S) + v16.toInt) := by rw [show (v18 : Int32).toInt = ((130 * v11.toInt) + v16.toInt) from e19]; omega
              have sM89 : (h77.2.1 70 6).toInt = S := (congrArg Int32.toInt oh77.side).trans hS.symm
              have g90 : (0 : Int) ≤ (h77.2.1 70 4).toInt := (hv77.2.1 70 4).1
              have g91 : (h77.2.1 70 4).toInt ≤ 500 := (hv77.2.1 70 4).2
              have g92 : (-2147483648 : Int) ≤ (h77.2.1 70 5).toInt := (hv77.2.1 70 5).1
              have g93 : (h77.2.1 70 5).toInt ≤ 2147483647 := (hv77.2.1 70 5).2
              have g94 : (h77.2.1 70 5).toInt = u70_5.toInt := by rw [← (show u70_5 = h77.2.1 70 5 from (show u70_5 = h77.2.1 70 5 from by rw [hv77e]; exact (g_iI rfl (show u70_5 = h72.2.1 70 5 from by rw [hv72e]; exact (g_iI rfl (show u70_5 = h70.2.1 70 5 from by rw [hv70e]; exact (g_iI rfl (show u70_5 = h60.2.1 70 5 from by rw [hv60e]; exact (g_iI rfl (show u70_5 = h54.2.1 70 5 from by rw [hv54e]; exact (g_iI rfl (show u70_5 = h50.2.1 70 5 from by rw [hv50e]; exact (g_iI rfl (show u70_5 = h48.2.1 70 5 from by rw [hv48e]; exact (g_iI rfl (show u70_5 = h46.2.1 70 5 from by rw [hv46e]; exact (g_iI rfl (show u70_5 = h44.2.1 70 5 from by rw [hv44e]; exact (g_iI rfl (show u70_5 = h42.2.1 70 5 from by rw [hv42e]; exact (g_iI rfl (show u70_5 = h40.2.1 70 5 from by rw [hv40e]; exact (g_iI rfl (show u70_5 = h38.2.1 70 5 from by rw [hv38e]; exact (g_iI rfl (show u70_5 = h36.2.1 70 5 from by rw [hv36e]; exact (g_iI rfl (show u70_5 = h33.2.1 70 5 from by rw [hv33e]; exact (g_iI rfl (show u70_5 = h31.2.1 70 5 from by rw [hv31e]; exact (g_iI rfl (show u70_5 = h29.2.1 70 5 from by rw [hv29e]; exact (g_iI rfl (show u70_5 = h27.2.1 70 5 from by rw [hv27e]; exact (g_iI rfl (show u70_5 = h25.2.1 70 5 from by rw [hv25e]; exact (g_iI rfl u70_5w.symm).symm).symm).symm).symm).symm).symm).symm).symm).symm).symm).symm).symm).symm).symm).symm).symm).symm).symm).symm).symm).symm).symm).symm).symm).symm).symm).symm).symm).symm).symm).symm).symm).symm).symm).symm))] <;> exact (ti_rfl u70_5)
              have g95 : (h77.2.1 70 4).toInt = (u70_4.toInt + 1) := by rw [← (show v75 = h77.2.1 70 4 from (show v75 = h77.2.1 70 4 from by rw [hv77e]; exact g_iS.symm))] <;> exact e76
              refine go_invV (pc := 398) (sl := 0) (ihY hv77 v18 (by rw [show (v18 : Int32).toInt = ((130 * v11.toInt) + v16.toInt) from e19]; omega) (by rw [show (v18 : Int32).toInt = ((130 * v11.toInt) + v16.toInt) from e19]; omega) l2 (by rw [show (l2 : Int32).toInt = l2.toInt from (ti_rfl l2)]; omega) (by rw [show (l2 : Int32).toInt = l2.toInt from (ti_rfl l2)]; omega) l3 (by rw [show (l3 : Int32).toInt = l3.toInt from (ti_rfl l3)]; omega) (by rw [show (l3 : Int32).toInt = l3.toInt from (ti_rfl l3)]; omega) (by rw [sM89]; exact (by omega)) (by omega) (by rw [sM89]; exact (by omega)) (by rw [sM89]; exact ⟨i1, by omega, by omega, by rw [ze, x3]; exact i6, by rw [ze]; omega⟩) (by omega)) mL_X8_212 iM_X8_readTry sM_X8_readTry (hv77.sh rfl) rfl rfl rfl (Nat.le_of_ble_eq_true rfl) (show d + 4 + 1 ≤ d + 5 by omega) (show 8 + (4 + 11) + 40 * (d + 4) ≤ 40 * (d + 5) by omega) (g_c0 hv77.ln) (Nat.le_of_ble_eq_true rfl) dX8_readItem_398 ?_
              intro r h96 hq _
              obtain ⟨rfl, ⟨Q97, hv96, sq98⟩, f99, f100, f101, f102, f103, f104, f105, f106, f107⟩ := hq
              rw [sM89] at f101
              rw [sM89] at f102
              rw [sM89] at f106
              have oh96 : OH h.2.1 h96.2.1 S := oh77.trans f106
              have kp96 : KP h.2.1 h96.2.1 := kp77.trans f105
              have ck96 : CKF h.2.1 → CKF h96.2.1 := fun z => f107 (ck77 z)
              have fx96 : FX KRt h h96 := FX.tr fx77 f104
              rw [show (v18 : Int32).toInt = ((130 * v11.toInt) + v16.toInt) from e19] at f103
              have k108 := bd_e k78 f103.symm
              obtain ⟨u109, u109w⟩ : ∃ v : Int32, v = h96.2.1 70 4 := ⟨_, rfl⟩
              have u109e : (h96.2.1 70 4).toInt = u109.toInt := by rw [u109w]
              have u109l : 0 ≤ u109.toInt := by rw [u109w]; exact (hv96.2.1 70 4).1
              have u109u : u109.toInt ≤ 500 := by rw [u109w]; exact (hv96.2.1 70 4).2
              have k110 := k108
              obtain ⟨u111, u111w⟩ : ∃ v : Int32, v = h96.2.1 70 5 := ⟨_, rfl⟩
              have u111e : (h96.2.1 70 5).toInt = u111.toInt := by rw [u111w]
              have u111l : -2147483648 ≤ u111.toInt := by rw [u111w]; exact (hv96.2.1 70 5).1
              have u111u : u111.toInt ≤ 2147483647 := by rw [u111w]; exact (hv96.2.1 70 5).2
              have k112 := k110
              refine go_goto (pc := 401) (tgt := 410) (by decide) dX8_readItem_401 ?_
              have g113 : (0 : Int) ≤ (h96.2.1 70 4).toInt := (hv96.2.1 70 4).1
              have g114 : (h96.2.1 70 4).toInt ≤ 500 := (hv96.2.1 70 4).2
              have g115 : (-2147483648 : Int) ≤ (h96.2.1 70 5).toInt := (hv96.2.1 70 5).1
              have g116 : (h96.2.1 70 5).toInt ≤ 2147483647 := (hv96.2.1 70 5).2
              have g117 : (h96.2.1 70 4).toInt = u109.toInt := by rw [← (show u109 = h96.2.1 70 4 from u109w)] <;> exact (ti_rfl u109)
              have g118 : (h96.2.1 70 5).toInt = u111.toInt := by rw [← (show u111 = h96.2.1 70 5 from u111w)] <;> exact (ti_rfl u111)
              have pp119 : (h96.2.1 70 5).toInt = 0 → (h.2.1 70 5).toInt = 0 := (by omega)
              have pp120 : (h.2.1 70 4).toInt ≤ (h96.2.1 70 4).toInt := (by omega)
              have pp121 : (h96.2.1 70 5).toInt = 0 → (h.2.1 70 4).toInt + 1 ≤ (h96.2.1 70 4).toInt ∧ 6 * (V h96.2.1 73 S - V h96.2.1 75 S) - (h96.2.1 70 4).toInt ≤ 6 * (V h.2.1 73 S - V h.2.1 75 S) - (h.2.1 70 4).toInt ∧ 2 * V h96.2.1 74 S - (h96.2.1 70 4).toInt ≤ 2 * V h.2.1 74 S - (h.2.1 70 4).toInt := (by omega)
              have pp122 : (h96.2.1 70 5).toInt = 0 → RI h.2.1 h96.2.1 S a2.toInt a4.toInt := (fun hg => by rw [← x1]; exact RI.of S0 ni (by rw [← ze, ← x3]; exact (f102 (by omega))))
              have pp123 : st h96 = f_X8_readItem_b g_X8_readTest g_X8_readTry (st h) a2.toInt a3.toInt a4.toInt := (k112.symm.trans kf)
              have pp124 : FX KRt h h96 := fx96
              subst hS
              exact gi_vret (pc := 410) ⟨rfl, ⟨_, hv96, (MW.trans (MW.trans (MW.trans (MW.trans (MW.trans (MW.trans (MW.trans (MW.trans (MW.trans (MW.trans (MW.trans (MW.trans (MW.trans (MW.trans (MW.trans (MW.trans (MW.trans (MW.trans sqx (MW.mz _ _)) (MW.mz _ _)) (MW.mz _ _)) (MW.mz _ _)) (MW.mz _ _)) (MW.mz _ _)) (MW.mz _ _)) (MW.mz _ _)) (MW.mz _ _)) (MW.mz _ _)) (MW.mz _ _)) (MW.mz _ _)) (MW.mz _ _)) (MW.mz _ _)) (MW.mz _ _)) (MW.mz _ _)) (MW.mz _ _)) sq98)⟩, pp119, pp120, pp121, pp122, pp123, pp124, kp96, oh96, ck96⟩ hv96 dX8_readItem_410
            ·
              have k125 := if_f k65 (fun z => z q66)
              refine go_aload_n (pc := 305) rfl dX8_readItem_305 ?_
              refine gi_getF (pc := 306) (q := 90) hv60 fL_X8_68 rfl (Nat.le_of_ble_eq_true rfl) rfl (hv60.rf (by decide)) dX8_readItem_306 ?_
              refine go_iload_n (pc := 309) rfl dX8_readItem_309 ?_
              refine go_iload (pc := 310) rfl dX8_readItem_310 ?_
              refine gi_fst (pc := 312) (lo := -1) (hi := 259) (len := 560) hv60 (ti_rfl l1) e19 rfl (by omega) (by omega) (fun _ => rfl) (by omega) (by omega) (by omega) dX8_readItem_312 (fun h126 hv126 hv126e => ?_)
              have fx126 : FX KRt h h126 := FX.pI fx60 hv126e (by unfold KRt; omega)
              have k127 := bd_e k125 (st_I hv126e e19)
              refine go_goto (pc := 313) (tgt := 329) (by decide) dX8_readItem_313 ?_
              refine go_aload_n (pc := 329) rfl dX8_readItem_329 ?_
              refine gi_getF (pc := 330) (q := 91) hv126 fL_X8_71 rfl (Nat.le_of_ble_eq_true rfl) rfl (hv126.rf (by decide)) dX8_readItem_330 ?_
              refine go_iload_n (pc := 333) rfl dX8_readItem_333 ?_
              refine go_iload (pc := 334) rfl dX8_readItem_334 ?_
              refine gi_fst (pc := 336) (lo := -1) (hi := 259) (len := 560) hv126 (ti_rfl l1) e19 rfl (by omega) (by omega) (fun _ => rfl) (by omega) (by omega) (by omega) dX8_readItem_336 (fun h128 hv128 hv128e => ?_)
              have fx128 : FX KRt h h128 := FX.pI fx126 hv128e (by unfold KRt; omega)
              have k129 := bd_e k127 (st_I hv128e e19)
              refine go_aload_n (pc := 337) rfl dX8_readItem_337 ?_
              refine go_dup (pc := 338) rfl dX8_readItem_338 ?_
              refine gi_get (pc := 339) (lo := 0) (hi := 500) hv128 fL_X8_163 rfl (Nat.le_of_ble_eq_true rfl) rfl rfl dX8_readItem_339 (fun v130 v130l v130u v130w => ?_)
              have v130r : u70_4 = h128.2.1 70 4 := (show u70_4 = h128.2.1 70 4 from by rw [hv128e]; exact (g_iI rfl (show u70_4 = h126.2.1 70 4 from by rw [hv126e]; exact (g_iI rfl (show u70_4 = h60.2.1 70 4 from by rw [hv60e]; exact (g_iI rfl (show u70_4 = h54.2.1 70 4 from by rw [hv54e]; exact (g_iI rfl (show u70_4 = h50.2.1 70 4 from by rw [hv50e]; exact (g_iI rfl (show u70_4 = h48.2.1 70 4 from by rw [hv48e]; exact (g_iI rfl (show u70_4 = h46.2.1 70 4 from by rw [hv46e]; exact (g_iI rfl (show u70_4 = h44.2.1 70 4 from by rw [hv44e]; exact (g_iI rfl (show u70_4 = h42.2.1 70 4 from by rw [hv42e]; exact (g_iI rfl (show u70_4 = h40.2.1 70 4 from by rw [hv40e]; exact (g_iI rfl (show u70_4 = h38.2.1 70 4 from by rw [hv38e]; exact (g_iI rfl (show u70_4 = h36.2.1 70 4 from by rw [hv36e]; exact (g_iI rfl (show u70_4 = h33.2.1 70 4 from by rw [hv33e]; exact (g_iI rfl (show u70_4 = h31.2.1 70 4 from by rw [hv31e]; exact (g_iI rfl (show u70_4 = h29.2.1 70 4 from by rw [hv29e]; exact (g_iI rfl (show u70_4 = h27.2.1 70 4 from by rw [hv27e]; exact (g_iI rfl (show u70_4 = h25.2.1 70 4 from by rw [hv25e]; exact (g_iI rfl u70_4w.symm).symm).symm).symm).symm).symm).symm).symm).symm).symm).symm).symm).symm).symm).symm).symm).symm).symm).symm).symm).symm).symm).symm).symm).symm).symm).symm).symm).symm).symm).symm).symm).symm).symm)
              have v130q : TI v130 u70_4.toInt := by rw [v130w.trans v130r.symm]; exact (ti_rfl u70_4)
              refine go_iconst (pc := 342) (v := 1) (by decide) dX8_readItem_342 ?_
              refine gf_iadd (pc := 343) v130q (ti_c (v := 1) (a := 1) (by decide)) (by omega) (by omega) dX8_readItem_343 (fun v131 e132 => ?_)
              have E128 : h128.2.1 = (w1 (w1 h60.2.1 90 l1.toInt (v18 : Int32)) 91 l1.toInt (v18 : Int32)) := by
                rw [hv128e, hv126e]
                rfl
              have oh128 : OH h.2.1 h128.2.1 S := by rw [E128]; exact ((oh60.trans (OH.w 280 rfl (by omega) (by omega) (by omega) (by omega))).trans (OH.w 280 rfl (by omega) (by omega) (by omega) (by omega)))
              have kp128 : KP h.2.1 h128.2.1 := by rw [E128]; exact ((kp60.trans (KP.w (by omega))).trans (KP.w (by omega)))
              have n73_128 : V h128.2.1 73 S = V h60.2.1 73 S := by rw [E128, V_ne (by omega), V_ne (by omega)]
              have n74_128 : V h128.2.1 74 S = V h60.2.1 74 S := by rw [E128, V_ne (by omega), V_ne (by omega)]
              have n75_128 : V h128.2.1 75 S = V h60.2.1 75 S := by rw [E128, V_ne (by omega), V_ne (by omega)]
              have ck128 : CKF h.2.1 → CKF h128.2.1 := fun z => by rw [E128]; exact (CKF.w (by omega) (CKF.w (by omega) (ck60 z)))
              refine gi_put (pc := 344) (lo := 0) (hi := 500) hv128 e132 (fP_X8_163 _) rfl (Nat.le_of_ble_eq_true rfl) rfl rfl (by omega) (by omega) rfl rfl (by decide) (by decide) (by decide) (by decide) dX8_readItem_344 (fun h133 hv133 hv133e => ?_)
              have fx133 : FX KRt h h133 := FX.pI fx128 hv133e (by unfold KRt; omega)
              have k134 := bd_e k129 (st_I hv133e e132)
              have ve133 : VE h128.2.1 h133.2.1 := VE.of hv128 hv133
              have oh133 : OH h.2.1 h133.2.1 S := oh128.trans (OH.of hv128 hv133 S)
              have kp133 : KP h.2.1 h133.2.1 := kp128.trans (KP.ve ve133)
              have ck133 : CKF h.2.1 → CKF h133.2.1 := fun z => CKF.ve ve133 (ck128 z)
              have n73_133 : V h133.2.1 73 S = V h128.2.1 73 S := ve133.v (by omega) (by omega)
              have n74_133 : V h133.2.1 74 S = V h128.2.1 74 S := ve133.v (by omega) (by omega)
              have n75_133 : V h133.2.1 75 S = V h128.2.1 75 S := ve133.v (by omega) (by omega)
              refine go_iload (pc := 347) rfl dX8_readItem_347 ?_
              refine gf_if_ne (pc := 349) (tgt := 363) (ti_rfl l5) (by decide) dX8_readItem_349 (fun q135 => ?_) (fun q135 => False.elim (by omega))
              refine go_iload (pc := 363) rfl dX8_readItem_363 ?_
              refine go_iconst (pc := 365) (v := 2) (by decide) dX8_readItem_365 ?_
              refine gf_icmp_eq (pc := 366) (tgt := 375) (ti_rfl l5) (ti_c (v := 2) (a := 2) (by decide)) (by decide) dX8_readItem_366 (fun q136 => False.elim (by omega)) (fun q136 => ?_)
              refine go_iload (pc := 369) rfl dX8_readItem_369 ?_
              refine go_iconst (pc := 371) (v := 3) (by decide) dX8_readItem_371 ?_
              refine gf_icmp_ne (pc := 372) (tgt := 386) (ti_rfl l5) (ti_c (v := 3) (a := 3) (by decide)) (by decide) dX8_readItem_372 (fun q137 => ?_) (fun q137 => False.elim (by omega))
              refine go_iload (pc := 386) rfl dX8_readItem_386 ?_
              refine go_bipush (pc := 388) (v := 6) (by decide) dX8_readItem_388 ?_
              refine gf_icmp_ne (pc := 390) (tgt := 404) (ti_rfl l5) (ti_c (v := 6) (a := 6) (by decide)) (by decide) dX8_readItem_390 (fun q138 => False.elim (by omega)) (fun q138 => ?_)
              refine go_aload_n (pc := 393) rfl dX8_readItem_393 ?_
              refine go_iload (pc := 394) rfl dX8_readItem_394 ?_
              refine go_iload_n (pc := 396) rfl dX8_readItem_396 ?_
              refine go_iload_n (pc := 397) rfl dX8_readItem_397 ?_
              have EG : h128.2.1 = (w1 (w1 (w1 (w1 (w1 (w1 (w1 (w1 (w1 (w1 (w1 (w1 (w1 (w1 (w1 (w1 (w1 hx.2.1 73 S (v23 : Int32)) 77 (((130 * S) + v16.toInt)) (l5 : Int32)) 78 (((130 * S) + v16.toInt)) ((-1) : Int32)) 79 (((130 * S) + v16.toInt)) (l2 : Int32)) 80 (((130 * S) + v16.toInt)) (l3 : Int32)) 81 (((130 * S) + v16.toInt)) (v35 : Int32)) 82 (((130 * S) + v16.toInt)) (l4 : Int32)) 83 (((130 * S) + v16.toInt)) (0 : Int32)) 84 (((130 * S) + v16.toInt)) ((-2) : Int32)) 85 (((130 * S) + v16.toInt)) ((-1) : Int32)) 86 (((130 * S) + v16.toInt)) ((-1) : Int32)) 87 (((130 * S) + v16.toInt)) ((-1) : Int32)) 88 (((130 * S) + v16.toInt)) (l1 : Int32)) 89 ((2 * ((130 * S) + v16.toInt))) (0 : Int32)) 89 (((2 * ((130 * S) + v16.toInt)) + 1)) (0 : Int32)) 90 l1.toInt (v18 : Int32)) 91 l1.toInt (v18 : Int32)) := by rw [E128, E60]
              have z139 : (v23 : Int32).toInt = (v21.toInt + 1) := e24
              have z140 : ((-1) : Int32).toInt = (-1) := (ti_c (v := (-1)) (a := (-1)) (by decide))
              have z141 : (v35 : Int32).toInt = u70_4.toInt := v35q
              have z142 : (0 : Int32).toInt = 0 := (ti_c (v := 0) (a := 0) (by decide))
              have z143 : ((-2) : Int32).toInt = (-2) := (ti_c (v := (-2)) (a := (-2)) (by decide))
              have z144 : (v18 : Int32).toInt = ((130 * v11.toInt) + v16.toInt) := e19
              have y73 : V hx.2.1 73 S = V h.2.1 73 S := xve.v (by omega) (by omega)
              have y75 : V hx.2.1 75 S = V h.2.1 75 S := xve.v (by omega) (by omega)
              have ni : NI h.2.1 h133.2.1 S l1.toInt a4.toInt (((130 * S) + v16.toInt)) l5.toInt l4.toInt := NI.cr10 (its := l5.toInt) (nm := l4.toInt) S0 xve EG ve133 (by omega) (by omega) (by omega) (by omega) (by first | omega | decide) (by omega) (by decide) (by decide) (by decide) (by omega) (by decide) (by decide) (by omega) (by omega) (by omega) (by omega) (by omega) (by omega) (by omega)
              obtain ⟨i1, i2, i3, i4, i5, i6, i7, i8⟩ := ni (ht.1) (by rw [x1]; exact ht.2.1) (by rw [x1]; exact ht.2.2)
              have ze : (v18 : Int32).toInt = ((130 * S) + v16.toInt) := by rw [show (v18 : Int32).toInt = ((130 * v11.toInt) + v16.toInt) from e19]; omega
              have sM145 : (h133.2.1 70 6).toInt = S := (congrArg Int32.toInt oh133.side).trans hS.symm
              have g146 : (0 : Int) ≤ (h133.2.1 70 4).toInt := (hv133.2.1 70 4).1
              have g147 : (h133.2.1 70 4).toInt ≤ 500 := (hv133.2.1 70 4).2
              have g148 : (-2147483648 : Int) ≤ (h133.2.1 70 5).toInt := (hv133.2.1 70 5).1
              have g149 : (h133.2.1 70 5).toInt ≤ 2147483647 := (hv133.2.1 70 5).2
              have g150 : (h133.2.1 70 5).toInt = u70_5.toInt := by rw [← (show u70_5 = h133.2.1 70 5 from (show u70_5 = h133.2.1 70 5 from by rw [hv133e]; exact (g_iI rfl (show u70_5 = h128.2.1 70 5 from by rw [hv128e]; exact (g_iI rfl (show u70_5 = h126.2.1 70 5 from by rw [hv126e]; exact (g_iI rfl (show u70_5 = h60.2.1 70 5 from by rw [hv60e]; exact (g_iI rfl (show u70_5 = h54.2.1 70 5 from by rw [hv54e]; exact (g_iI rfl (show u70_5 = h50.2.1 70 5 from by rw [hv50e]; exact (g_iI rfl (show u70_5 = h48.2.1 70 5 from by rw [hv48e]; exact (g_iI rfl (show u70_5 = h46.2.1 70 5 from by rw [hv46e]; exact (g_iI rfl (show u70_5 = h44.2.1 70 5 from by rw [hv44e]; exact (g_iI rfl (show u70_5 = h42.2.1 70 5 from by rw [hv42e]; exact (g_iI rfl (show u70_5 = h40.2.1 70 5 from by rw [hv40e]; exact (g_iI rfl (show u70_5 = h38.2.1 70 5 from by rw [hv38e]; exact (g_iI rfl (show u70_5 = h36.2.1 70 5 from by rw [hv36e]; exact (g_iI rfl (show u70_5 = h33.2.1 70 5 from by rw [hv33e]; exact (g_iI rfl (show u70_5 = h31.2.1 70 5 from by rw [hv31e]; exact (g_iI rfl (show u70_5 = h29.2.1 70 5 from by rw [hv29e]; exact (g_iI rfl (show u70_5 = h27.2.1 70 5 from by rw [hv27e]; exact (g_iI rfl (show u70_5 = h25.2.1 70 5 from by rw [hv25e]; exact (g_iI rfl u70_5w.symm).symm).symm).symm).symm).symm).symm).symm).symm).symm).symm).symm).symm).symm).symm).symm).symm).symm).symm).symm).symm).symm).symm).symm).symm).symm).symm).symm).symm).symm).symm).symm).symm).symm).symm).symm))] <;> exact (ti_rfl u70_5)
              have g151 : (h133.2.1 70 4).toInt = (u70_4.toInt + 1) := by rw [← (show v131 = h133.2.1 70 4 from (show v131 = h133.2.1 70 4 from by rw [hv133e]; exact g_iS.symm))] <;> exact e132
              refine go_invV (pc := 398) (sl := 0) (ihY hv133 v18 (by rw [show (v18 : Int32).toInt = ((130 * v11.toInt) + v16.toInt) from e19]; omega) (by rw [show (v18 : Int32).toInt = ((130 * v11.toInt) + v16.toInt) from e19]; omega) l2 (by rw [show (l2 : Int32).toInt = l2.toInt from (ti_rfl l2)]; omega) (by rw [show (l2 : Int32).toInt = l2.toInt from (ti_rfl l2)]; omega) l3 (by rw [show (l3 : Int32).toInt = l3.toInt from (ti_rfl l3)]; omega) (by rw [show (l3 : Int32).toInt = l3.toInt from (ti_rfl l3)]; omega) (by rw [sM145]; exact (by omega)) (by omega) (by rw [sM145]; exact (by omega)) (by rw [sM145]; exact ⟨i1, by omega, by omega, by rw [ze, x3]; exact i6, by rw [ze]; omega⟩) (by omega)) mL_X8_212 iM_X8_readTry sM_X8_readTry (hv133.sh rfl) rfl rfl rfl (Nat.le_of_ble_eq_true rfl) (show d + 4 + 1 ≤ d + 5 by omega) (show 8 + (4 + 11) + 40 * (d + 4) ≤ 40 * (d + 5) by omega) (g_c0 hv133.ln) (Nat.le_of_ble_eq_true rfl) dX8_readItem_398 ?_
              intro r h152 hq _
              obtain ⟨rfl, ⟨Q153, hv152, sq154⟩, f155, f156, f157, f158, f159, f160, f161, f162, f163⟩ := hq
              rw [sM145] at f157
              rw [sM145] at f158
              rw [sM145] at f162
              have oh152 : OH h.2.1 h152.2.1 S := oh133.trans f162
              have kp152 : KP h.2.1 h152.2.1 := kp133.trans f161
              have ck152 : CKF h.2.1 → CKF h152.2.1 := fun z => f163 (ck133 z)
              have fx152 : FX KRt h h152 := FX.tr fx133 f160
              rw [show (v18 : Int32).toInt = ((130 * v11.toInt) + v16.toInt) from e19] at f159
              have k164 := bd_e k134 f159.symm
              obtain ⟨u165, u165w⟩ : ∃ v : Int32, v = h152.2.1 70 4 := ⟨_, rfl⟩
              have u165e : (h152.2.1 70 4).toInt = u165.toInt := by rw [u165w]
              have u165l : 0 ≤ u165.toInt := by rw [u165w]; exact (hv152.2.1 70 4).1
              have u165u : u165.toInt ≤ 500 := by rw [u165w]; exact (hv152.2.1 70 4).2
              have k166 := k164
              obtain ⟨u167, u167w⟩ : ∃ v : Int32, v = h152.2.1 70 5 := ⟨_, rfl⟩
              have u167e : (h152.2.1 70 5).toInt = u167.toInt := by rw [u167w]
              have u167l : -2147483648 ≤ u167.toInt := by rw [u167w]; exact (hv152.2.1 70 5).1
              have u167u : u167.toInt ≤ 2147483647 := by rw [u167w]; exact (hv152.2.1 70 5).2
              have k168 := k166
              refine go_goto (pc := 401) (tgt := 410) (by decide) dX8_readItem_401 ?_
              have g169 : (0 : Int) ≤ (h152.2.1 70 4).toInt := (hv152.2.1 70 4).1
              have g170 : (h152.2.1 70 4).toInt ≤ 500 := (hv152.2.1 70 4).2
              have g171 : (-2147483648 : Int) ≤ (h152.2.1 70 5).toInt := (hv152.2.1 70 5).1
              have g172 : (h152.2.1 70 5).toInt ≤ 2147483647 := (hv152.2.1 70 5).2
              have g173 : (h152.2.1 70 4).toInt = u165.toInt := by rw [← (show u165 = h152.2.1 70 4 from u165w)] <;> exact (ti_rfl u165)
              have g174 : (h152.2.1 70 5).toInt = u167.toInt := by rw [← (show u167 = h152.2.1 70 5 from u167w)] <;> exact (ti_rfl u167)
              have pp175 : (h152.2.1 70 5).toInt = 0 → (h.2.1 70 5).toInt = 0 := (by omega)
              have pp176 : (h.2.1 70 4).toInt ≤ (h152.2.1 70 4).toInt := (by omega)
              have pp177 : (h152.2.1 70 5).toInt = 0 → (h.2.1 70 4).toInt + 1 ≤ (h152.2.1 70 4).toInt ∧ 6 * (V h152.2.1 73 S - V h152.2.1 75 S) - (h152.2.1 70 4).toInt ≤ 6 * (V h.2.1 73 S - V h.2.1 75 S) - (h.2.1 70 4).toInt ∧ 2 * V h152.2.1 74 S - (h152.2.1 70 4).toInt ≤ 2 * V h.2.1 74 S - (h.2.1 70 4).toInt := (by omega)
              have pp178 : (h152.2.1 70 5).toInt = 0 → RI h.2.1 h152.2.1 S a2.toInt a4.toInt := (fun hg => by rw [← x1]; exact RI.of S0 ni (by rw [← ze, ← x3]; exact (f158 (by omega))))
              have pp179 : st h152 = f_X8_readItem_b g_X8_readTest g_X8_readTry (st h) a2.toInt a3.toInt a4.toInt := (k168.symm.trans kf)
              have pp180 : FX KRt h h152 := fx152
              subst hS
              exact gi_vret (pc := 410) ⟨rfl, ⟨_, hv152, (MW.trans (MW.trans (MW.trans (MW.trans (MW.trans (MW.trans (MW.trans (MW.trans (MW.trans (MW.trans (MW.trans (MW.trans (MW.trans (MW.trans (MW.trans (MW.trans (MW.trans (MW.trans sqx (MW.mz _ _)) (MW.mz _ _)) (MW.mz _ _)) (MW.mz _ _)) (MW.mz _ _)) (MW.mz _ _)) (MW.mz _ _)) (MW.mz _ _)) (MW.mz _ _)) (MW.mz _ _)) (MW.mz _ _)) (MW.mz _ _)) (MW.mz _ _)) (MW.mz _ _)) (MW.mz _ _)) (MW.mz _ _)) (MW.mz _ _)) sq154)⟩, pp175, pp176, pp177, pp178, pp179, pp180, kp152, oh152, ck152⟩ hv152 dX8_readItem_410
          ·
            have k181 := if_f k61 q62
            refine go_aload_n (pc := 242) rfl dX8_readItem_242 ?_
            refine gi_getF (pc := 243) (q := 78) hv60 fL_X8_32 rfl (Nat.le_of_ble_eq_true rfl) rfl (hv60.rf (by decide)) dX8_readItem_243 ?_
            refine go_iload (pc := 246) rfl dX8_readItem_246 ?_
            refine go_aload_n (pc := 248) rfl dX8_readItem_248 ?_
            refine gi_getF (pc := 249) (q := 75) hv60 fL_X8_23 rfl (Nat.le_of_ble_eq_true rfl) rfl (hv60.rf (by decide)) dX8_readItem_249 ?_
            refine go_aload_n (pc := 252) rfl dX8_readItem_252 ?_
            refine gi_get (pc := 253) (lo := 0) (hi := 1) hv60 fL_X8_187 rfl (Nat.le_of_ble_eq_true rfl) rfl rfl dX8_readItem_253 (fun v182 v182l v182u v182w => ?_)
            have v182r : v11 = h60.2.1 70 6 := (show v11 = h60.2.1 70 6 from by rw [hv60e]; exact (g_iI rfl (show v11 = h54.2.1 70 6 from by rw [hv54e]; exact (g_iI rfl (show v11 = h50.2.1 70 6 from by rw [hv50e]; exact (g_iI rfl (show v11 = h48.2.1 70 6 from by rw [hv48e]; exact (g_iI rfl (show v11 = h46.2.1 70 6 from by rw [hv46e]; exact (g_iI rfl (show v11 = h44.2.1 70 6 from by rw [hv44e]; exact (g_iI rfl (show v11 = h42.2.1 70 6 from by rw [hv42e]; exact (g_iI rfl (show v11 = h40.2.1 70 6 from by rw [hv40e]; exact (g_iI rfl (show v11 = h38.2.1 70 6 from by rw [hv38e]; exact (g_iI rfl (show v11 = h36.2.1 70 6 from by rw [hv36e]; exact (g_iI rfl (show v11 = h33.2.1 70 6 from by rw [hv33e]; exact (g_iI rfl (show v11 = h31.2.1 70 6 from by rw [hv31e]; exact (g_iI rfl (show v11 = h29.2.1 70 6 from by rw [hv29e]; exact (g_iI rfl (show v11 = h27.2.1 70 6 from by rw [hv27e]; exact (g_iI rfl (show v11 = h25.2.1 70 6 from by rw [hv25e]; exact (g_iI rfl v11w.symm).symm).symm).symm).symm).symm).symm).symm).symm).symm).symm).symm).symm).symm).symm).symm).symm).symm).symm).symm).symm).symm).symm).symm).symm).symm).symm).symm).symm).symm)
            have v182q : TI v182 v11.toInt := by rw [v182w.trans v182r.symm]; exact (ti_rfl v11)
            refine gi_iald (pc := 256) (lo := 0) (hi := 40) (len := 2) hv60 v182q rfl (by omega) (by omega) (fun _ => rfl) dX8_readItem_256 (fun v183 v183l v183u v183w => ?_)
            have k184 := bd_e k181 (congrArg Int32.toInt v183w.symm)
            have v183V : v183.toInt = V h60.2.1 75 S := by rw [v183w, v11S]; rfl
            refine gi_fst (pc := 257) (lo := -1) (hi := 39) (len := 260) hv60 e19 (ti_rfl v183) rfl (by omega) (by omega) (fun _ => rfl) (by omega) (by omega) (by omega) dX8_readItem_257 (fun h185 hv185 hv185e => ?_)
            have fx185 : FX KRt h h185 := FX.pI fx60 hv185e (by unfold KRt; omega)
            have k186 := bd_e k184 (st_I hv185e (ti_rfl v183))
            refine go_aload_n (pc := 258) rfl dX8_readItem_258 ?_
            refine gi_getF (pc := 259) (q := 93) hv185 fL_X8_77 rfl (Nat.le_of_ble_eq_true rfl) rfl (hv185.rf (by decide)) dX8_readItem_259 ?_
            refine go_bipush (pc := 262) (v := 40) (by decide) dX8_readItem_262 ?_
            refine go_aload_n (pc := 264) rfl dX8_readItem_264 ?_
            refine gi_get (pc := 265) (lo := 0) (hi := 1) hv185 fL_X8_187 rfl (Nat.le_of_ble_eq_true rfl) rfl rfl dX8_readItem_265 (fun v187 v187l v187u v187w => ?_)
            have v187r : v11 = h185.2.1 70 6 := (show v11 = h185.2.1 70 6 from by rw [hv185e]; exact (g_iI rfl (show v11 = h60.2.1 70 6 from by rw [hv60e]; exact (g_iI rfl (show v11 = h54.2.1 70 6 from by rw [hv54e]; exact (g_iI rfl (show v11 = h50.2.1 70 6 from by rw [hv50e]; exact (g_iI rfl (show v11 = h48.2.1 70 6 from by rw [hv48e]; exact (g_iI rfl (show v11 = h46.2.1 70 6 from by rw [hv46e]; exact (g_iI rfl (show v11 = h44.2.1 70 6 from by rw [hv44e]; exact (g_iI rfl (show v11 = h42.2.1 70 6 from by rw [hv42e]; exact (g_iI rfl (show v11 = h40.2.1 70 6 from by rw [hv40e]; exact (g_iI rfl (show v11 = h38.2.1 70 6 from by rw [hv38e]; exact (g_iI rfl (show v11 = h36.2.1 70 6 from by rw [hv36e]; exact (g_iI rfl (show v11 = h33.2.1 70 6 from by rw [hv33e]; exact (g_iI rfl (show v11 = h31.2.1 70 6 from by rw [hv31e]; exact (g_iI rfl (show v11 = h29.2.1 70 6 from by rw [hv29e]; exact (g_iI rfl (show v11 = h27.2.1 70 6 from by rw [hv27e]; exact (g_iI rfl (show v11 = h25.2.1 70 6 from by rw [hv25e]; exact (g_iI rfl v11w.symm).symm).symm).symm).symm).symm).symm).symm).symm).symm).symm).symm).symm).symm).symm).symm).symm).symm).symm).symm).symm).symm).symm).symm).symm).symm).symm).symm).symm).symm).symm).symm)
            have v187q : TI v187 v11.toInt := by rw [v187w.trans v187r.symm]; exact (ti_rfl v11)
            refine gf_imul (pc := 268) (ti_c (v := 40) (a := 40) (by decide)) v187q (by omega) (by omega) dX8_readItem_268 (fun v188 e189 => ?_)
            refine go_aload_n (pc := 269) rfl dX8_readItem_269 ?_
            refine gi_getF (pc := 270) (q := 75) hv185 fL_X8_23 rfl (Nat.le_of_ble_eq_true rfl) rfl (hv185.rf (by decide)) dX8_readItem_270 ?_
            refine go_aload_n (pc := 273) rfl dX8_readItem_273 ?_
            refine gi_get (pc := 274) (lo := 0) (hi := 1) hv185 fL_X8_187 rfl (Nat.le_of_ble_eq_true rfl) rfl rfl dX8_readItem_274 (fun v190 v190l v190u v190w => ?_)
            have v190r : v11 = h185.2.1 70 6 := (show v11 = h185.2.1 70 6 from by rw [hv185e]; exact (g_iI rfl (show v11 = h60.2.1 70 6 from by rw [hv60e]; exact (g_iI rfl (show v11 = h54.2.1 70 6 from by rw [hv54e]; exact (g_iI rfl (show v11 = h50.2.1 70 6 from by rw [hv50e]; exact (g_iI rfl (show v11 = h48.2.1 70 6 from by rw [hv48e]; exact (g_iI rfl (show v11 = h46.2.1 70 6 from by rw [hv46e]; exact (g_iI rfl (show v11 = h44.2.1 70 6 from by rw [hv44e]; exact (g_iI rfl (show v11 = h42.2.1 70 6 from by rw [hv42e]; exact (g_iI rfl (show v11 = h40.2.1 70 6 from by rw [hv40e]; exact (g_iI rfl (show v11 = h38.2.1 70 6 from by rw [hv38e]; exact (g_iI rfl (show v11 = h36.2.1 70 6 from by rw [hv36e]; exact (g_iI rfl (show v11 = h33.2.1 70 6 from by rw [hv33e]; exact (g_iI rfl (show v11 = h31.2.1 70 6 from by rw [hv31e]; exact (g_iI rfl (show v11 = h29.2.1 70 6 from by rw [hv29e]; exact (g_iI rfl (show v11 = h27.2.1 70 6 from by rw [hv27e]; exact (g_iI rfl (show v11 = h25.2.1 70 6 from by rw [hv25e]; exact (g_iI rfl v11w.symm).symm).symm).symm).symm).symm).symm).symm).symm).symm).symm).symm).symm).symm).symm).symm).symm).symm).symm).symm).symm).symm).symm).symm).symm).symm).symm).symm).symm).symm).symm).symm)
            have v190q : TI v190 v11.toInt := by rw [v190w.trans v190r.symm]; exact (ti_rfl v11)
            have E185 : h185.2.1 = (w1 h60.2.1 78 (((130 * S) + v16.toInt)) (v183 : Int32)) := by
              rw [hv185e]
              rw [v11S]
              rfl
            have oh185 : OH h.2.1 h185.2.1 S := by rw [E185]; exact (oh60.trans (OH.w 130 rfl (by omega) (by omega) (by omega) (by omega)))
            have kp185 : KP h.2.1 h185.2.1 := by rw [E185]; exact (kp60.trans (KP.w (by omega)))
            have n73_185 : V h185.2.1 73 S = V h60.2.1 73 S := by rw [E185, V_ne (by omega)]
            have n74_185 : V h185.2.1 74 S = V h60.2.1 74 S := by rw [E185, V_ne (by omega)]
            have n75_185 : V h185.2.1 75 S = V h60.2.1 75 S := by rw [E185, V_ne (by omega)]
            have ck185 : CKF h.2.1 → CKF h185.2.1 := fun z => by rw [E185]; exact (CKF.w (by omega) (ck60 z))
            refine gi_iald (pc := 277) (lo := 0) (hi := 40) (len := 2) hv185 v190q rfl (by omega) (by omega) (fun _ => rfl) dX8_readItem_277 (fun v191 v191l v191u v191w => ?_)
            have k192 := bd_e k186 (congrArg Int32.toInt v191w.symm)
            have v191V : v191.toInt = V h185.2.1 75 S := by rw [v191w, v11S]; rfl
            refine gf_iadd (pc := 278) e189 (ti_rfl v191) (by omega) (by omega) dX8_readItem_278 (fun v193 e194 => ?_)
            refine go_iload (pc := 279) rfl dX8_readItem_279 ?_
            refine gi_fst (pc := 281) (lo := 0) (hi := 259) (len := 80) hv185 e194 e19 rfl (by omega) (by omega) (fun _ => rfl) (by omega) (by omega) (by omega) dX8_readItem_281 (fun h195 hv195 hv195e => ?_)
            have fx195 : FX KRt h h195 := FX.pI fx185 hv195e (by unfold KRt; omega)
            have k196 := bd_e k192 (st_I hv195e e19)
            refine go_aload_n (pc := 282) rfl dX8_readItem_282 ?_
            refine gi_getF (pc := 283) (q := 75) hv195 fL_X8_23 rfl (Nat.le_of_ble_eq_true rfl) rfl (hv195.rf (by decide)) dX8_readItem_283 ?_
            refine go_aload_n (pc := 286) rfl dX8_readItem_286 ?_
            refine gi_get (pc := 287) (lo := 0) (hi := 1) hv195 fL_X8_187 rfl (Nat.le_of_ble_eq_true rfl) rfl rfl dX8_readItem_287 (fun v197 v197l v197u v197w => ?_)
            have v197r : v11 = h195.2.1 70 6 := (show v11 = h195.2.1 70 6 from by rw [hv195e]; exact (g_iI rfl (show v11 = h185.2.1 70 6 from by rw [hv185e]; exact (g_iI rfl (show v11 = h60.2.1 70 6 from by rw [hv60e]; exact (g_iI rfl (show v11 = h54.2.1 70 6 from by rw [hv54e]; exact (g_iI rfl (show v11 = h50.2.1 70 6 from by rw [hv50e]; exact (g_iI rfl (show v11 = h48.2.1 70 6 from by rw [hv48e]; exact (g_iI rfl (show v11 = h46.2.1 70 6 from by rw [hv46e]; exact (g_iI rfl (show v11 = h44.2.1 70 6 from by rw [hv44e]; exact (g_iI rfl (show v11 = h42.2.1 70 6 from by rw [hv42e]; exact (g_iI rfl (show v11 = h40.2.1 70 6 from by rw [hv40e]; exact (g_iI rfl (show v11 = h38.2.1 70 6 from by rw [hv38e]; exact (g_iI rfl (show v11 = h36.2.1 70 6 from by rw [hv36e]; exact (g_iI rfl (show v11 = h33.2.1 70 6 from by rw [hv33e]; exact (g_iI rfl (show v11 = h31.2.1 70 6 from by rw [hv31e]; exact (g_iI rfl (show v11 = h29.2.1 70 6 from by rw [hv29e]; exact (g_iI rfl (show v11 = h27.2.1 70 6 from by rw [hv27e]; exact (g_iI rfl (show v11 = h25.2.1 70 6 from by rw [hv25e]; exact (g_iI rfl v11w.symm).symm).symm).symm).symm).symm).symm).symm).symm).symm).symm).symm).symm).symm).symm).symm).symm).symm).symm).symm).symm).symm).symm).symm).symm).symm).symm).symm).symm).symm).symm).symm).symm).symm)
            have v197q : TI v197 v11.toInt := by rw [v197w.trans v197r.symm]; exact (ti_rfl v11)
            refine go_dup2 (pc := 290) rfl rfl dX8_readItem_290 ?_
            have E195 : h195.2.1 = (w1 h185.2.1 93 (((40 * S) + v191.toInt)) (v18 : Int32)) := by
              rw [hv195e]
              rw [v11S]
              rfl
            have oh195 : OH h.2.1 h195.2.1 S := by rw [E195]; exact (oh185.trans (OH.w 40 rfl (by omega) (by omega) (by omega) (by omega)))
            have kp195 : KP h.2.1 h195.2.1 := by rw [E195]; exact (kp185.trans (KP.w (by omega)))
            have n73_195 : V h195.2.1 73 S = V h185.2.1 73 S := by rw [E195, V_ne (by omega)]
            have n74_195 : V h195.2.1 74 S = V h185.2.1 74 S := by rw [E195, V_ne (by omega)]
            have n75_195 : V h195.2.1 75 S = V h185.2.1 75 S := by rw [E195, V_ne (by omega)]
            have ck195 : CKF h.2.1 → CKF h195.2.1 := fun z => by rw [E195]; exact (CKF.w (by omega) (ck185 z))
            refine gi_iald (pc := 291) (lo := 0) (hi := 40) (len := 2) hv195 v197q rfl (by omega) (by omega) (fun _ => rfl) dX8_readItem_291 (fun v198 v198l v198u v198w => ?_)
            have k199 := bd_e k196 (congrArg Int32.toInt v198w.symm)
            have v198V : v198.toInt = V h195.2.1 75 S := by rw [v198w, v11S]; rfl
            refine go_iconst (pc := 292) (v := 1) (by decide) dX8_readItem_292 ?_
            refine gf_iadd (pc := 293) (ti_rfl v198) (ti_c (v := 1) (a := 1) (by decide)) (by omega) (by omega) dX8_readItem_293 (fun v200 e201 => ?_)
            refine gi_fst (pc := 294) (lo := 0) (hi := 40) (len := 2) hv195 v197q e201 rfl (by omega) (by omega) (fun _ => rfl) (by omega) (by omega) (by omega) dX8_readItem_294 (fun h202 hv202 hv202e => ?_)
            have fx202 : FX KRt h h202 := FX.pI fx195 hv202e (by unfold KRt; omega)
            have k203 := bd_e k199 (st_I hv202e e201)
            refine go_aload_n (pc := 295) rfl dX8_readItem_295 ?_
            refine gi_getF (pc := 296) (q := 90) hv202 fL_X8_68 rfl (Nat.le_of_ble_eq_true rfl) rfl (hv202.rf (by decide)) dX8_readItem_296 ?_
            refine go_iload_n (pc := 299) rfl dX8_readItem_299 ?_
            have E202 : h202.2.1 = (w1 h195.2.1 75 S (v200 : Int32)) := by
              rw [hv202e]
              rw [v11S]
              rfl
            have oh202 : OH h.2.1 h202.2.1 S := by rw [E202]; exact (oh195.trans (OH.w 1 rfl (by omega) (by omega) (by omega) (by omega)))
            have kp202 : KP h.2.1 h202.2.1 := by rw [E202]; exact (kp195.trans (KP.w (by omega)))
            have n73_202 : V h202.2.1 73 S = V h195.2.1 73 S := by rw [E202, V_ne (by omega)]
            have n74_202 : V h202.2.1 74 S = V h195.2.1 74 S := by rw [E202, V_ne (by omega)]
            have n75_202 : V h202.2.1 75 S = (v198.toInt + 1) := by rw [E202, V_eq]; exact e201
            have ck202 : CKF h.2.1 → CKF h202.2.1 := fun z => by rw [E202]; exact (CKF.w (by omega) (ck195 z))
            refine gi_iald (pc := 300) (lo := -1) (hi := 259) (len := 560) hv202 (ti_rfl l1) rfl (by omega) (by omega) (fun _ => rfl) dX8_readItem_300 (fun v204 v204l v204u v204w => ?_)
            have k205 := bd_e k203 (congrArg Int32.toInt v204w.symm)
            have v204V : v204.toInt = V h202.2.1 90 l1.toInt := by rw [v204w]; rfl
            have f90 : V h202.2.1 90 l1.toInt = V hx.2.1 90 l1.toInt := by rw [E202, V_ne (by omega), E195, V_ne (by omega), E185, V_ne (by omega), E60, V_ne (by omega), V_ne (by omega), V_ne (by omega), V_ne (by omega), V_ne (by omega), V_ne (by omega), V_ne (by omega), V_ne (by omega), V_ne (by omega), V_ne (by omega), V_ne (by omega), V_ne (by omega), V_ne (by omega), V_ne (by omega), V_ne (by omega)]
            have f91 : V h202.2.1 91 l1.toInt = V hx.2.1 91 l1.toInt := by rw [E202, V_ne (by omega), E195, V_ne (by omega), E185, V_ne (by omega), E60, V_ne (by omega), V_ne (by omega), V_ne (by omega), V_ne (by omega), V_ne (by omega), V_ne (by omega), V_ne (by omega), V_ne (by omega), V_ne (by omega), V_ne (by omega), V_ne (by omega), V_ne (by omega), V_ne (by omega), V_ne (by omega), V_ne (by omega)]
            have g90 : V hx.2.1 90 l1.toInt = V h.2.1 90 a2.toInt := by rw [x1]; exact xve.v (by omega) (by omega)
            have g91 : V hx.2.1 91 l1.toInt = V h.2.1 91 a2.toInt := by rw [x1]; exact xve.v (by omega) (by omega)
            refine go_iconst (pc := 301) (v := (-1)) (by decide) dX8_readItem_301 ?_
            refine gf_icmp_ne (pc := 302) (tgt := 316) (ti_rfl v204) (ti_c (v := (-1)) (a := (-1)) (by decide)) (by decide) dX8_readItem_302 (fun q206 => ?_) (fun q206 => ?_)
            ·
              have k207 := if_t k205 q206
              have t5 := ht.1.2.2.2.2.2.1 a2.toInt ht.2.1
              rcases t5.2.1 with z | ⟨⟨z1, z2⟩, z3⟩
              · exact absurd z (t5.2.2.2 (by omega))
              refine go_aload_n (pc := 316) rfl dX8_readItem_316 ?_
              refine gi_getF (pc := 317) (q := 87) hv202 fL_X8_59 rfl (Nat.le_of_ble_eq_true rfl) rfl (hv202.rf (by decide)) dX8_readItem_317 ?_
              refine go_aload_n (pc := 320) rfl dX8_readItem_320 ?_
              refine gi_getF (pc := 321) (q := 91) hv202 fL_X8_71 rfl (Nat.le_of_ble_eq_true rfl) rfl (hv202.rf (by decide)) dX8_readItem_321 ?_
              refine go_iload_n (pc := 324) rfl dX8_readItem_324 ?_
              refine gi_iald (pc := 325) (lo := -1) (hi := 259) (len := 560) hv202 (ti_rfl l1) rfl (by omega) (by omega) (fun _ => rfl) dX8_readItem_325 (fun v208 v208l v208u v208w => ?_)
              have k209 := bd_e k207 (congrArg Int32.toInt v208w.symm)
              have v208V : v208.toInt = V h202.2.1 91 l1.toInt := by rw [v208w]; rfl
              refine go_iload (pc := 326) rfl dX8_readItem_326 ?_
              refine gi_fst (pc := 328) (lo := -1) (hi := 259) (len := 260) hv202 (ti_rfl v208) e19 rfl (by omega) (by omega) (fun _ => rfl) (by omega) (by omega) (by omega) dX8_readItem_328 (fun h210 hv210 hv210e => ?_)
              have fx210 : FX KRt h h210 := FX.pI fx202 hv210e (by unfold KRt; omega)
              have k211 := bd_e k209 (st_I hv210e e19)
              refine go_aload_n (pc := 329) rfl dX8_readItem_329 ?_
              refine gi_getF (pc := 330) (q := 91) hv210 fL_X8_71 rfl (Nat.le_of_ble_eq_true rfl) rfl (hv210.rf (by decide)) dX8_readItem_330 ?_
              refine go_iload_n (pc := 333) rfl dX8_readItem_333 ?_
              refine go_iload (pc := 334) rfl dX8_readItem_334 ?_
              refine gi_fst (pc := 336) (lo := -1) (hi := 259) (len := 560) hv210 (ti_rfl l1) e19 rfl (by omega) (by omega) (fun _ => rfl) (by omega) (by omega) (by omega) dX8_readItem_336 (fun h212 hv212 hv212e => ?_)
              have fx212 : FX KRt h h212 := FX.pI fx210 hv212e (by unfold KRt; omega)
              have k213 := bd_e k211 (st_I hv212e e19)
              refine go_aload_n (pc := 337) rfl dX8_readItem_337 ?_
              refine go_dup (pc := 338) rfl dX8_readItem_338 ?_
              refine gi_get (pc := 339) (lo := 0) (hi := 500) hv212 fL_X8_163 rfl (Nat.le_of_ble_eq_true rfl) rfl rfl dX8_readItem_339 (fun v214 v214l v214u v214w => ?_)
              have v214r : u70_4 = h212.2.1 70 4 := (show u70_4 = h212.2.1 70 4 from by rw [hv212e]; exact (g_iI rfl (show u70_4 = h210.2.1 70 4 from by rw [hv210e]; exact (g_iI rfl (show u70_4 = h202.2.1 70 4 from by rw [hv202e]; exact (g_iI rfl (show u70_4 = h195.2.1 70 4 from by rw [hv195e]; exact (g_iI rfl (show u70_4 = h185.2.1 70 4 from by rw [hv185e]; exact (g_iI rfl (show u70_4 = h60.2.1 70 4 from by rw [hv60e]; exact (g_iI rfl (show u70_4 = h54.2.1 70 4 from by rw [hv54e]; exact (g_iI rfl (show u70_4 = h50.2.1 70 4 from by rw [hv50e]; exact (g_iI rfl (show u70_4 = h48.2.1 70 4 from by rw [hv48e]; exact (g_iI rfl (show u70_4 = h46.2.1 70 4 from by rw [hv46e]; exact (g_iI rfl (show u70_4 = h44.2.1 70 4 from by rw [hv44e]; exact (g_iI rfl (show u70_4 = h42.2.1 70 4 from by rw [hv42e]; exact (g_iI rfl (show u70_4 = h40.2.1 70 4 from by rw [hv40e]; exact (g_iI rfl (show u70_4 = h38.2.1 70 4 from by rw [hv38e]; exact (g_iI rfl (show u70_4 = h36.2.1 70 4 from by rw [hv36e]; exact (g_iI rfl (show u70_4 = h33.2.1 70 4 from by rw [hv33e]; exact (g_iI rfl (show u70_4 = h31.2.1 70 4 from by rw [hv31e]; exact (g_iI rfl (show u70_4 = h29.2.1 70 4 from by rw [hv29e]; exact (g_iI rfl (show u70_4 = h27.2.1 70 4 from by rw [hv27e]; exact (g_iI rfl (show u70_4 = h25.2.1 70 4 from by rw [hv25e]; exact (g_iI rfl u70_4w.symm).symm).symm).symm).symm).symm).symm).symm).symm).symm).symm).symm).symm).symm).symm).symm).symm).symm).symm).symm).symm).symm).symm).symm).symm).symm).symm).symm).symm).symm).symm).symm).symm).symm).symm).symm).symm).symm).symm).symm)
              have v214q : TI v214 u70_4.toInt := by rw [v214w.trans v214r.symm]; exact (ti_rfl u70_4)
              refine go_iconst (pc := 342) (v := 1) (by decide) dX8_readItem_342 ?_
              refine gf_iadd (pc := 343) v214q (ti_c (v := 1) (a := 1) (by decide)) (by omega) (by omega) dX8_readItem_343 (fun v215 e216 => ?_)
              have E212 : h212.2.1 = (w1 (w1 h202.2.1 87 v208.toInt (v18 : Int32)) 91 l1.toInt (v18 : Int32)) := by
                rw [hv212e, hv210e]
                rfl
              have oh212 : OH h.2.1 h212.2.1 S := by rw [E212]; exact ((oh202.trans (OH.w 130 rfl (by omega) (by omega) (by omega) (by omega))).trans (OH.w 280 rfl (by omega) (by omega) (by omega) (by omega)))
              have kp212 : KP h.2.1 h212.2.1 := by rw [E212]; exact ((kp202.trans (KP.w (by omega))).trans (KP.w (by omega)))
              have n73_212 : V h212.2.1 73 S = V h202.2.1 73 S := by rw [E212, V_ne (by omega), V_ne (by omega)]
              have n74_212 : V h212.2.1 74 S = V h202.2.1 74 S := by rw [E212, V_ne (by omega), V_ne (by omega)]
              have n75_212 : V h212.2.1 75 S = V h202.2.1 75 S := by rw [E212, V_ne (by omega), V_ne (by omega)]
              have ck212 : CKF h.2.1 → CKF h212.2.1 := fun z => by rw [E212]; exact (CKF.w (by omega) (CKF.w (by omega) (ck202 z)))
              refine gi_put (pc := 344) (lo := 0) (hi := 500) hv212 e216 (fP_X8_163 _) rfl (Nat.le_of_ble_eq_true rfl) rfl rfl (by omega) (by omega) rfl rfl (by decide) (by decide) (by decide) (by decide) dX8_readItem_344 (fun h217 hv217 hv217e => ?_)
              have fx217 : FX KRt h h217 := FX.pI fx212 hv217e (by unfold KRt; omega)
              have k218 := bd_e k213 (st_I hv217e e216)
              have ve217 : VE h212.2.1 h217.2.1 := VE.of hv212 hv217
              have oh217 : OH h.2.1 h217.2.1 S := oh212.trans (OH.of hv212 hv217 S)
              have kp217 : KP h.2.1 h217.2.1 := kp212.trans (KP.ve ve217)
              have ck217 : CKF h.2.1 → CKF h217.2.1 := fun z => CKF.ve ve217 (ck212 z)
              have n73_217 : V h217.2.1 73 S = V h212.2.1 73 S := ve217.v (by omega) (by omega)
              have n74_217 : V h217.2.1 74 S = V h212.2.1 74 S := ve217.v (by omega) (by omega)
              have n75_217 : V h217.2.1 75 S = V h212.2.1 75 S := ve217.v (by omega) (by omega)
              refine go_iload (pc := 347) rfl dX8_readItem_347 ?_
              refine gf_if_ne (pc := 349) (tgt := 363) (ti_rfl l5) (by decide) dX8_readItem_349 (fun q219 => ?_) (fun q219 => ?_)
              ·
                have k220 := if_t k218 q219
                refine go_iload (pc := 363) rfl dX8_readItem_363 ?_
                refine go_iconst (pc := 365) (v := 2) (by decide) dX8_readItem_365 ?_
                refine gf_icmp_eq (pc := 366) (tgt := 375) (ti_rfl l5) (ti_c (v := 2) (a := 2) (by decide)) (by decide) dX8_readItem_366 (fun q221 => ?_) (fun q221 => ?_)
                ·
                  have k222 := if_t k220 q221
                  refine go_aload_n (pc := 375) rfl dX8_readItem_375 ?_
                  refine go_iload (pc := 376) rfl dX8_readItem_376 ?_
                  refine go_iload_n (pc := 378) rfl dX8_readItem_378 ?_
                  refine go_iload_n (pc := 379) rfl dX8_readItem_379 ?_
                  have EG : h212.2.1 = (w1 (w1 (w1 (w1 (w1 (w1 (w1 (w1 (w1 (w1 (w1 (w1 (w1 (w1 (w1 (w1 (w1 (w1 (w1 (w1 hx.2.1 73 S (v23 : Int32)) 77 (((130 * S) + v16.toInt)) (l5 : Int32)) 78 (((130 * S) + v16.toInt)) ((-1) : Int32)) 79 (((130 * S) + v16.toInt)) (l2 : Int32)) 80 (((130 * S) + v16.toInt)) (l3 : Int32)) 81 (((130 * S) + v16.toInt)) (v35 : Int32)) 82 (((130 * S) + v16.toInt)) (l4 : Int32)) 83 (((130 * S) + v16.toInt)) (0 : Int32)) 84 (((130 * S) + v16.toInt)) ((-2) : Int32)) 85 (((130 * S) + v16.toInt)) ((-1) : Int32)) 86 (((130 * S) + v16.toInt)) ((-1) : Int32)) 87 (((130 * S) + v16.toInt)) ((-1) : Int32)) 88 (((130 * S) + v16.toInt)) (l1 : Int32)) 89 ((2 * ((130 * S) + v16.toInt))) (0 : Int32)) 89 (((2 * ((130 * S) + v16.toInt)) + 1)) (0 : Int32)) 78 (((130 * S) + v16.toInt)) (v183 : Int32)) 93 (((40 * S) + v191.toInt)) (v18 : Int32)) 75 S (v200 : Int32)) 87 v208.toInt (v18 : Int32)) 91 l1.toInt (v18 : Int32)) := by rw [E212, E202, E195, E185, E60]
                  have z223 : (v23 : Int32).toInt = (v21.toInt + 1) := e24
                  have z224 : ((-1) : Int32).toInt = (-1) := (ti_c (v := (-1)) (a := (-1)) (by decide))
                  have z225 : (v35 : Int32).toInt = u70_4.toInt := v35q
                  have z226 : (0 : Int32).toInt = 0 := (ti_c (v := 0) (a := 0) (by decide))
                  have z227 : ((-2) : Int32).toInt = (-2) := (ti_c (v := (-2)) (a := (-2)) (by decide))
                  have z228 : (v18 : Int32).toInt = ((130 * v11.toInt) + v16.toInt) := e19
                  have z229 : (v200 : Int32).toInt = (v198.toInt + 1) := e201
                  have y73 : V hx.2.1 73 S = V h.2.1 73 S := xve.v (by omega) (by omega)
                  have y75 : V hx.2.1 75 S = V h.2.1 75 S := xve.v (by omega) (by omega)
                  have ni : NI h.2.1 h217.2.1 S l1.toInt a4.toInt (((130 * S) + v16.toInt)) l5.toInt l4.toInt := NI.cr01 (its := l5.toInt) (nm := l4.toInt) S0 xve EG ve217 (by omega) (by omega) (by omega) (by omega) (by first | omega | decide) (by omega) (by decide) (by decide) (by decide) (by omega) (by decide) (by decide) (by omega) (by omega) (by omega) (by omega) (by omega) (by omega) (by omega) (by omega) (by omega) (by omega) (by omega) (by omega) (by omega) (by omega) (by omega)
                  obtain ⟨i1, i2, i3, i4, i5, i6, i7, i8⟩ := ni (ht.1) (by rw [x1]; exact ht.2.1) (by rw [x1]; exact ht.2.2)
                  have ze : (v18 : Int32).toInt = ((130 * S) + v16.toInt) := by rw [show (v18 : Int32).toInt = ((130 * v11.toInt) + v16.toInt) from e19]; omega
                  have sM230 : (h217.2.1 70 6).toInt = S := (congrArg Int32.toInt oh217.side).trans hS.symm
                  have g231 : (0 : Int) ≤ (h217.2.1 70 4).toInt := (hv217.2.1 70 4).1
                  have g232 : (h217.2.1 70 4).toInt ≤ 500 := (hv217.2.1 70 4).2
                  have g233 : (-2147483648 : Int) ≤ (h217.2.1 70 5).toInt := (hv217.2.1 70 5).1
                  have g234 : (h217.2.1 70 5).toInt ≤ 2147483647 := (hv217.2.1 70 5).2
                  have g235 : (h217.2.1 70 5).toInt = u70_5.toInt := by rw [← (show u70_5 = h217.2.1 70 5 from (show u70_5 = h217.2.1 70 5 from by rw [hv217e]; exact (g_iI rfl (show u70_5 = h212.2.1 70 5 from by rw [hv212e]; exact (g_iI rfl (show u70_5 = h210.2.1 70 5 from by rw [hv210e]; exact (g_iI rfl (show u70_5 = h202.2.1 70 5 from by rw [hv202e]; exact (g_iI rfl (show u70_5 = h195.2.1 70 5 from by rw [hv195e]; exact (g_iI rfl (show u70_5 = h185.2.1 70 5 from by rw [hv185e]; exact (g_iI rfl (show u70_5 = h60.2.1 70 5 from by rw [hv60e]; exact (g_iI rfl (show u70_5 = h54.2.1 70 5 from by rw [hv54e]; exact (g_iI rfl (show u70_5 = h50.2.1 70 5 from by rw [hv50e]; exact (g_iI rfl (show u70_5 = h48.2.1 70 5 from by rw [hv48e]; exact (g_iI rfl (show u70_5 = h46.2.1 70 5 from by rw [hv46e]; exact (g_iI rfl (show u70_5 = h44.2.1 70 5 from by rw [hv44e]; exact (g_iI rfl (show u70_5 = h42.2.1 70 5 from by rw [hv42e]; exact (g_iI rfl (show u70_5 = h40.2.1 70 5 from by rw [hv40e]; exact (g_iI rfl (show u70_5 = h38.2.1 70 5 from by rw [hv38e]; exact (g_iI rfl (show u70_5 = h36.2.1 70 5 from by rw [hv36e]; exact (g_iI rfl (show u70_5 = h33.2.1 70 5 from by rw [hv33e]; exact (g_iI rfl (show u70_5 = h31.2.1 70 5 from by rw [hv31e]; exact (g_iI rfl (show u70_5 = h29.2.1 70 5 from by rw [hv29e]; exact (g_iI rfl (show u70_5 = h27.2.1 70 5 from by rw [hv27e]; exact (g_iI rfl (show u70_5 = h25.2.1 70 5 from by rw [hv25e]; exact (g_iI rfl u70_5w.symm).symm).symm).symm).symm).symm).symm).symm).symm).symm).symm).symm).symm).symm).symm).symm).symm).symm).symm).symm).symm).symm).symm).symm).symm).symm).symm).symm).symm).symm).symm).symm).symm).symm).symm).symm).symm).symm).symm).symm).symm).symm))] <;> exact (ti_rfl u70_5)
                  have g236 : (h217.2.1 70 4).toInt = (u70_4.toInt + 1) := by rw [← (show v215 = h217.2.1 70 4 from (show v215 = h217.2.1 70 4 from by rw [hv217e]; exact g_iS.symm))] <;> exact e216
                  refine go_invV (pc := 380) (sl := 0) (ihT hv217 v18 (by rw [show (v18 : Int32).toInt = ((130 * v11.toInt) + v16.toInt) from e19]; omega) (by rw [show (v18 : Int32).toInt = ((130 * v11.toInt) + v16.toInt) from e19]; omega) l2 (by rw [show (l2 : Int32).toInt = l2.toInt from (ti_rfl l2)]; omega) (by rw [show (l2 : Int32).toInt = l2.toInt from (ti_rfl l2)]; omega) l3 (by rw [show (l3 : Int32).toInt = l3.toInt from (ti_rfl l3)]; omega) (by rw [show (l3 : Int32).toInt = l3.toInt from (ti_rfl l3)]; omega) (by rw [sM230]; exact (by omega)) (by omega) (by rw [sM230]; exact (by omega)) (by rw [sM230]; exact ⟨i1, by omega, by omega, by rw [ze, x3]; exact i6, by rw [ze]; omega⟩) (by omega)) mL_X8_209 iM_X8_readTest sM_X8_readTest (hv217.sh rfl) rfl rfl rfl (Nat.le_of_ble_eq_true rfl) (show d + 4 + 1 ≤ d + 5 by omega) (show 8 + (4 + 11) + 40 * (d + 4) ≤ 40 * (d + 5) by omega) (g_c0 hv217.ln) (Nat.le_of_ble_eq_true rfl) dX8_readItem_380 ?_
                  intro r h237 hq _
                  obtain ⟨rfl, ⟨Q238, hv237, sq239⟩, f240, f241, f242, f243, f244, f245, f246, f247, f248⟩ := hq
                  rw [sM230] at f242
                  rw [sM230] at f243
                  rw [sM230] at f247
                  have oh237 : OH h.2.1 h237.2.1 S := oh217.trans f247
                  have kp237 : KP h.2.1 h237.2.1 := kp217.trans f246
                  have ck237 : CKF h.2.1 → CKF h237.2.1 := fun z => f248 (ck217 z)
                  have fx237 : FX KRt h h237 := FX.tr fx217 f245
                  rw [show (v18 : Int32).toInt = ((130 * v11.toInt) + v16.toInt) from e19] at f244
                  have k249 := bd_e k222 f244.symm
                  obtain ⟨u250, u250w⟩ : ∃ v : Int32, v = h237.2.1 70 4 := ⟨_, rfl⟩
                  have u250e : (h237.2.1 70 4).toInt = u250.toInt := by rw [u250w]
                  have u250l : 0 ≤ u250.toInt := by rw [u250w]; exact (hv237.2.1 70 4).1
                  have u250u : u250.toInt ≤ 500 := by rw [u250w]; exact (hv237.2.1 70 4).2
                  have k251 := k249
                  obtain ⟨u252, u252w⟩ : ∃ v : Int32, v = h237.2.1 70 5 := ⟨_, rfl⟩
                  have u252e : (h237.2.1 70 5).toInt = u252.toInt := by rw [u252w]
                  have u252l : -2147483648 ≤ u252.toInt := by rw [u252w]; exact (hv237.2.1 70 5).1
                  have u252u : u252.toInt ≤ 2147483647 := by rw [u252w]; exact (hv237.2.1 70 5).2
                  have k253 := k251
                  refine go_goto (pc := 383) (tgt := 410) (by decide) dX8_readItem_383 ?_
                  have g254 : (0 : Int) ≤ (h237.2.1 70 4).toInt := (hv237.2.1 70 4).1
                  have g255 : (h237.2.1 70 4).toInt ≤ 500 := (hv237.2.1 70 4).2
                  have g256 : (-2147483648 : Int) ≤ (h237.2.1 70 5).toInt := (hv237.2.1 70 5).1
                  have g257 : (h237.2.1 70 5).toInt ≤ 2147483647 := (hv237.2.1 70 5).2
                  have g258 : (h237.2.1 70 4).toInt = u250.toInt := by rw [← (show u250 = h237.2.1 70 4 from u250w)] <;> exact (ti_rfl u250)
                  have g259 : (h237.2.1 70 5).toInt = u252.toInt := by rw [← (show u252 = h237.2.1 70 5 from u252w)] <;> exact (ti_rfl u252)
                  have pp260 : (h237.2.1 70 5).toInt = 0 → (h.2.1 70 5).toInt = 0 := (by omega)
                  have pp261 : (h.2.1 70 4).toInt ≤ (h237.2.1 70 4).toInt := (by omega)
                  have pp262 : (h237.2.1 70 5).toInt = 0 → (h.2.1 70 4).toInt + 1 ≤ (h237.2.1 70 4).toInt ∧ 6 * (V h237.2.1 73 S - V h237.2.1 75 S) - (h237.2.1 70 4).toInt ≤ 6 * (V h.2.1 73 S - V h.2.1 75 S) - (h.2.1 70 4).toInt ∧ 2 * V h237.2.1 74 S - (h237.2.1 70 4).toInt ≤ 2 * V h.2.1 74 S - (h.2.1 70 4).toInt := (by omega)
                  have pp263 : (h237.2.1 70 5).toInt = 0 → RI h.2.1 h237.2.1 S a2.toInt a4.toInt := (fun hg => by rw [← x1]; exact RI.of S0 ni (by rw [← ze, ← x3]; exact (f243 (by omega))))
                  have pp264 : st h237 = f_X8_readItem_b g_X8_readTest g_X8_readTry (st h) a2.toInt a3.toInt a4.toInt := (k253.symm.trans kf)
                  have pp265 : FX KRt h h237 := fx237
                  subst hS
                  exact gi_vret (pc := 410) ⟨rfl, ⟨_, hv237, (MW.trans (MW.trans (MW.trans (MW.trans (MW.trans (MW.trans (MW.trans (MW.trans (MW.trans (MW.trans (MW.trans (MW.trans (MW.trans (MW.trans (MW.trans (MW.trans (MW.trans (MW.trans (MW.trans (MW.trans (MW.trans sqx (MW.mz _ _)) (MW.mz _ _)) (MW.mz _ _)) (MW.mz _ _)) (MW.mz _ _)) (MW.mz _ _)) (MW.mz _ _)) (MW.mz _ _)) (MW.mz _ _)) (MW.mz _ _)) (MW.mz _ _)) (MW.mz _ _)) (MW.mz _ _)) (MW.mz _ _)) (MW.mz _ _)) (MW.mz _ _)) (MW.mz _ _)) (MW.mz _ _)) (MW.mz _ _)) (MW.mz _ _)) sq239)⟩, pp260, pp261, pp262, pp263, pp264, pp265, kp237, oh237, ck237⟩ hv237 dX8_readItem_410
                ·
                  have k266 := if_f k220 q221
                  refine go_iload (pc := 369) rfl dX8_readItem_369 ?_
                  refine go_iconst (pc := 371) (v := 3) (by decide) dX8_readItem_371 ?_
                  refine gf_icmp_ne (pc := 372) (tgt := 386) (ti_rfl l5) (ti_c (v := 3) (a := 3) (by decide)) (by decide) dX8_readItem_372 (fun q267 => ?_) (fun q267 => ?_)
                  ·
                    have k268 := if_t k266 q267
                    refine go_iload (pc := 386) rfl dX8_readItem_386 ?_
                    refine go_bipush (pc := 388) (v := 6) (by decide) dX8_readItem_388 ?_
                    refine gf_icmp_ne (pc := 390) (tgt := 404) (ti_rfl l5) (ti_c (v := 6) (a := 6) (by decide)) (by decide) dX8_readItem_390 (fun q269 => ?_) (fun q269 => False.elim (by omega))
                    refine go_aload_n (pc := 404) rfl dX8_readItem_404 ?_
                    refine go_iload (pc := 405) rfl dX8_readItem_405 ?_
                    have EG : h212.2.1 = (w1 (w1 (w1 (w1 (w1 (w1 (w1 (w1 (w1 (w1 (w1 (w1 (w1 (w1 (w1 (w1 (w1 (w1 (w1 (w1 hx.2.1 73 S (v23 : Int32)) 77 (((130 * S) + v16.toInt)) (l5 : Int32)) 78 (((130 * S) + v16.toInt)) ((-1) : Int32)) 79 (((130 * S) + v16.toInt)) (l2 : Int32)) 80 (((130 * S) + v16.toInt)) (l3 : Int32)) 81 (((130 * S) + v16.toInt)) (v35 : Int32)) 82 (((130 * S) + v16.toInt)) (l4 : Int32)) 83 (((130 * S) + v16.toInt)) (0 : Int32)) 84 (((130 * S) + v16.toInt)) ((-2) : Int32)) 85 (((130 * S) + v16.toInt)) ((-1) : Int32)) 86 (((130 * S) + v16.toInt)) ((-1) : Int32)) 87 (((130 * S) + v16.toInt)) ((-1) : Int32)) 88 (((130 * S) + v16.toInt)) (l1 : Int32)) 89 ((2 * ((130 * S) + v16.toInt))) (0 : Int32)) 89 (((2 * ((130 * S) + v16.toInt)) + 1)) (0 : Int32)) 78 (((130 * S) + v16.toInt)) (v183 : Int32)) 93 (((40 * S) + v191.toInt)) (v18 : Int32)) 75 S (v200 : Int32)) 87 v208.toInt (v18 : Int32)) 91 l1.toInt (v18 : Int32)) := by rw [E212, E202, E195, E185, E60]
                    have z270 : (v23 : Int32).toInt = (v21.toInt + 1) := e24
                    have z271 : ((-1) : Int32).toInt = (-1) := (ti_c (v := (-1)) (a := (-1)) (by decide))
                    have z272 : (v35 : Int32).toInt = u70_4.toInt := v35q
                    have z273 : (0 : Int32).toInt = 0 := (ti_c (v := 0) (a := 0) (by decide))
                    have z274 : ((-2) : Int32).toInt = (-2) := (ti_c (v := (-2)) (a := (-2)) (by decide))
                    have z275 : (v18 : Int32).toInt = ((130 * v11.toInt) + v16.toInt) := e19
                    have z276 : (v200 : Int32).toInt = (v198.toInt + 1) := e201
                    have y73 : V hx.2.1 73 S = V h.2.1 73 S := xve.v (by omega) (by omega)
                    have y75 : V hx.2.1 75 S = V h.2.1 75 S := xve.v (by omega) (by omega)
                    have ni : NI h.2.1 h217.2.1 S l1.toInt a4.toInt (((130 * S) + v16.toInt)) l5.toInt l4.toInt := NI.cr01 (its := l5.toInt) (nm := l4.toInt) S0 xve EG ve217 (by omega) (by omega) (by omega) (by omega) (by first | omega | decide) (by omega) (by decide) (by decide) (by decide) (by omega) (by decide) (by decide) (by omega) (by omega) (by omega) (by omega) (by omega) (by omega) (by omega) (by omega) (by omega) (by omega) (by omega) (by omega) (by omega) (by omega) (by omega)
                    obtain ⟨i1, i2, i3, i4, i5, i6, i7, i8⟩ := ni (ht.1) (by rw [x1]; exact ht.2.1) (by rw [x1]; exact ht.2.2)
                    have ze : (v18 : Int32).toInt = ((130 * S) + v16.toInt) := by rw [show (v18 : Int32).toInt = ((130 * v11.toInt) + v16.toInt) from e19]; omega
                    have sM277 : (h217.2.1 70 6).toInt = S := (congrArg Int32.toInt oh217.side).trans hS.symm
                    have g278 : (0 : Int) ≤ (h217.2.1 70 4).toInt := (hv217.2.1 70 4).1
                    have g279 : (h217.2.1 70 4).toInt ≤ 500 := (hv217.2.1 70 4).2
                    have g280 : (-2147483648 : Int) ≤ (h217.2.1 70 5).toInt := (hv217.2.1 70 5).1
                    have g281 : (h217.2.1 70 5).toInt ≤ 2147483647 := (hv217.2.1 70 5).2
                    have g282 : (h217.2.1 70 5).toInt = u70_5.toInt := by rw [← (show u70_5 = h217.2.1 70 5 from (show u70_5 = h217.2.1 70 5 from by rw [hv217e]; exact (g_iI rfl (show u70_5 = h212.2.1 70 5 from by rw [hv212e]; exact (g_iI rfl (show u70_5 = h210.2.1 70 5 from by rw [hv210e]; exact (g_iI rfl (show u70_5 = h202.2.1 70 5 from by rw [hv202e]; exact (g_iI rfl (show u70_5 = h195.2.1 70 5 from by rw [hv195e]; exact (g_iI rfl (show u70_5 = h185.2.1 70 5 from by rw [hv185e]; exact (g_iI rfl (show u70_5 = h60.2.1 70 5 from by rw [hv60e]; exact (g_iI rfl (show u70_5 = h54.2.1 70 5 from by rw [hv54e]; exact (g_iI rfl (show u70_5 = h50.2.1 70 5 from by rw [hv50e]; exact (g_iI rfl (show u70_5 = h48.2.1 70 5 from by rw [hv48e]; exact (g_iI rfl (show u70_5 = h46.2.1 70 5 from by rw [hv46e]; exact (g_iI rfl (show u70_5 = h44.2.1 70 5 from by rw [hv44e]; exact (g_iI rfl (show u70_5 = h42.2.1 70 5 from by rw [hv42e]; exact (g_iI rfl (show u70_5 = h40.2.1 70 5 from by rw [hv40e]; exact (g_iI rfl (show u70_5 = h38.2.1 70 5 from by rw [hv38e]; exact (g_iI rfl (show u70_5 = h36.2.1 70 5 from by rw [hv36e]; exact (g_iI rfl (show u70_5 = h33.2.1 70 5 from by rw [hv33e]; exact (g_iI rfl (show u70_5 = h31.2.1 70 5 from by rw [hv31e]; exact (g_iI rfl (show u70_5 = h29.2.1 70 5 from by rw [hv29e]; exact (g_iI rfl (show u70_5 = h27.2.1 70 5 from by rw [hv27e]; exact (g_iI rfl (show u70_5 = h25.2.1 70 5 from by rw [hv25e]; exact (g_iI rfl u70_5w.symm).symm).symm).symm).symm).symm).symm).symm).symm).symm).symm).symm).symm).symm).symm).symm).symm).symm).symm).symm).symm).symm).symm).symm).symm).symm).symm).symm).symm).symm).symm).symm).symm).symm).symm).symm).symm).symm).symm).symm).symm).symm))] <;> exact (ti_rfl u70_5)
                    have g283 : (h217.2.1 70 4).toInt = (u70_4.toInt + 1) := by rw [← (show v215 = h217.2.1 70 4 from (show v215 = h217.2.1 70 4 from by rw [hv217e]; exact g_iS.symm))] <;> exact e216
                    refine go_invV (pc := 407) (sl := 0) (s_X8_readEnd_f l (d + 0) hv217 v18 (by rw [show (v18 : Int32).toInt = ((130 * v11.toInt) + v16.toInt) from e19]; omega) (by rw [show (v18 : Int32).toInt = ((130 * v11.toInt) + v16.toInt) from e19]; omega) (by rw [sM277]; exact (by omega))) mL_X8_215 iM_X8_readEnd sM_X8_readEnd (hv217.sh rfl) rfl rfl rfl (Nat.le_of_ble_eq_true rfl) (show d + 0 + 4 + 1 ≤ d + 5 by omega) (show 8 + (2 + 11) + 40 * (d + 0 + 4) ≤ 40 * (d + 5) by omega) (g_c0 hv217.ln) (Nat.le_of_ble_eq_true rfl) dX8_readItem_407 ?_
                    intro r h284 hq _
                    obtain ⟨rfl, ⟨Q285, hv284, sq286⟩, f287, f288, f289, f290, f291, f292, f293, f294, f295, f296, f297⟩ := hq
                    rw [sM277] at f289
                    rw [sM277] at f290
                    rw [sM277] at f291
                    rw [sM277] at f292
                    rw [sM277] at f296
                    have oh284 : OH h.2.1 h284.2.1 S := oh217.trans f296
                    have kp284 : KP h.2.1 h284.2.1 := kp217.trans f295
                    have ck284 : CKF h.2.1 → CKF h284.2.1 := fun z => f297 (ck217 z)
                    have fx284 : FX KRt h h284 := FX.tr fx217 f294
                    rw [show (v18 : Int32).toInt = ((130 * v11.toInt) + v16.toInt) from e19] at f293
                    have k298 := bd_e k268 f293.symm
                    obtain ⟨u299, u299w⟩ : ∃ v : Int32, v = h284.2.1 70 4 := ⟨_, rfl⟩
                    have u299e : (h284.2.1 70 4).toInt = u299.toInt := by rw [u299w]
                    have u299l : 0 ≤ u299.toInt := by rw [u299w]; exact (hv284.2.1 70 4).1
                    have u299u : u299.toInt ≤ 500 := by rw [u299w]; exact (hv284.2.1 70 4).2
                    have k300 := k298
                    obtain ⟨u301, u301w⟩ : ∃ v : Int32, v = h284.2.1 70 5 := ⟨_, rfl⟩
                    have u301e : (h284.2.1 70 5).toInt = u301.toInt := by rw [u301w]
                    have u301l : -2147483648 ≤ u301.toInt := by rw [u301w]; exact (hv284.2.1 70 5).1
                    have u301u : u301.toInt ≤ 2147483647 := by rw [u301w]; exact (hv284.2.1 70 5).2
                    have k302 := k300
                    have g303 : (0 : Int) ≤ (h284.2.1 70 4).toInt := (hv284.2.1 70 4).1
                    have g304 : (h284.2.1 70 4).toInt ≤ 500 := (hv284.2.1 70 4).2
                    have g305 : (-2147483648 : Int) ≤ (h284.2.1 70 5).toInt := (hv284.2.1 70 5).1
                    have g306 : (h284.2.1 70 5).toInt ≤ 2147483647 := (hv284.2.1 70 5).2
                    have g307 : (h284.2.1 70 4).toInt = u299.toInt := by rw [← (show u299 = h284.2.1 70 4 from u299w)] <;> exact (ti_rfl u299)
                    have g308 : (h284.2.1 70 5).toInt = u301.toInt := by rw [← (show u301 = h284.2.1 70 5 from u301w)] <;> exact (ti_rfl u301)
                    have pp309 : (h284.2.1 70 5).toInt = 0 → (h.2.1 70 5).toInt = 0 := (by omega)
                    have pp310 : (h.2.1 70 4).toInt ≤ (h284.2.1 70 4).toInt := (by omega)
                    have pp311 : (h284.2.1 70 5).toInt = 0 → (h.2.1 70 4).toInt + 1 ≤ (h284.2.1 70 4).toInt ∧ 6 * (V h284.2.1 73 S - V h284.2.1 75 S) - (h284.2.1 70 4).toInt ≤ 6 * (V h.2.1 73 S - V h.2.1 75 S) - (h.2.1 70 4).toInt ∧ 2 * V h284.2.1 74 S - (h284.2.1 70 4).toInt ≤ 2 * V h.2.1 74 S - (h.2.1 70 4).toInt := (by omega)
                    have pp312 : (h284.2.1 70 5).toInt = 0 → RI h.2.1 h284.2.1 S a2.toInt a4.toInt := (fun hg => by rw [← x1]; exact RI.of S0 ni (by rw [← ze, ← x3]; exact (f292 (by omega) l3.toInt (by rw [ze]; omega) (by rw [ze]; omega) (by rw [ze]; omega))))
                    have pp313 : st h284 = f_X8_readItem_b g_X8_readTest g_X8_readTry (st h) a2.toInt a3.toInt a4.toInt := (k302.symm.trans kf)
                    have pp314 : FX KRt h h284 := fx284
                    subst hS
                    exact gi_vret (pc := 410) ⟨rfl, ⟨_, hv284, (MW.trans (MW.trans (MW.trans (MW.trans (MW.trans (MW.trans (MW.trans (MW.trans (MW.trans (MW.trans (MW.trans (MW.trans (MW.trans (MW.trans (MW.trans (MW.trans (MW.trans (MW.trans (MW.trans (MW.trans (MW.trans sqx (MW.mz _ _)) (MW.mz _ _)) (MW.mz _ _)) (MW.mz _ _)) (MW.mz _ _)) (MW.mz _ _)) (MW.mz _ _)) (MW.mz _ _)) (MW.mz _ _)) (MW.mz _ _)) (MW.mz _ _)) (MW.mz _ _)) (MW.mz _ _)) (MW.mz _ _)) (MW.mz _ _)) (MW.mz _ _)) (MW.mz _ _)) (MW.mz _ _)) (MW.mz _ _)) (MW.mz _ _)) sq286)⟩, pp309, pp310, pp311, pp312, pp313, pp314, kp284, oh284, ck284⟩ hv284 dX8_readItem_410
                  ·
                    have k315 := if_f k266 (fun z => z q267)
                    refine go_aload_n (pc := 375) rfl dX8_readItem_375 ?_
                    refine go_iload (pc := 376) rfl dX8_readItem_376 ?_
                    refine go_iload_n (pc := 378) rfl dX8_readItem_378 ?_
                    refine go_iload_n (pc := 379) rfl dX8_readItem_379 ?_
                    have EG : h212.2.1 = (w1 (w1 (w1 (w1 (w1 (w1 (w1 (w1 (w1 (w1 (w1 (w1 (w1 (w1 (w1 (w1 (w1 (w1 (w1 (w1 hx.2.1 73 S (v23 : Int32)) 77 (((130 * S) + v16.toInt)) (l5 : Int32)) 78 (((130 * S) + v16.toInt)) ((-1) : Int32)) 79 (((130 * S) + v16.toInt)) (l2 : Int32)) 80 (((130 * S) + v16.toInt)) (l3 : Int32)) 81 (((130 * S) + v16.toInt)) (v35 : Int32)) 82 (((130 * S) + v16.toInt)) (l4 : Int32)) 83 (((130 * S) + v16.toInt)) (0 : Int32)) 84 (((130 * S) + v16.toInt)) ((-2) : Int32)) 85 (((130 * S) + v16.toInt)) ((-1) : Int32)) 86 (((130 * S) + v16.toInt)) ((-1) : Int32)) 87 (((130 * S) + v16.toInt)) ((-1) : Int32)) 88 (((130 * S) + v16.toInt)) (l1 : Int32)) 89 ((2 * ((130 * S) + v16.toInt))) (0 : Int32)) 89 (((2 * ((130 * S) + v16.toInt)) + 1)) (0 : Int32)) 78 (((130 * S) + v16.toInt)) (v183 : Int32)) 93 (((40 * S) + v191.toInt)) (v18 : Int32)) 75 S (v200 : Int32)) 87 v208.toInt (v18 : Int32)) 91 l1.toInt (v18 : Int32)) := by rw [E212, E202, E195, E185, E60]
                    have z316 : (v23 : Int32).toInt = (v21.toInt + 1) := e24
                    have z317 : ((-1) : Int32).toInt = (-1) := (ti_c (v := (-1)) (a := (-1)) (by decide))
                    have z318 : (v35 : Int32).toInt = u70_4.toInt := v35q
                    have z319 : (0 : Int32).toInt = 0 := (ti_c (v := 0) (a := 0) (by decide))
                    have z320 : ((-2) : Int32).toInt = (-2) := (ti_c (v := (-2)) (a := (-2)) (by decide))
                    have z321 : (v18 : Int32).toInt = ((130 * v11.toInt) + v16.toInt) := e19
                    have z322 : (v200 : Int32).toInt = (v198.toInt + 1) := e201
                    have y73 : V hx.2.1 73 S = V h.2.1 73 S := xve.v (by omega) (by omega)
                    have y75 : V hx.2.1 75 S = V h.2.1 75 S := xve.v (by omega) (by omega)
                    have ni : NI h.2.1 h217.2.1 S l1.toInt a4.toInt (((130 * S) + v16.toInt)) l5.toInt l4.toInt := NI.cr01 (its := l5.toInt) (nm := l4.toInt) S0 xve EG ve217 (by omega) (by omega) (by omega) (by omega) (by first | omega | decide) (by omega) (by decide) (by decide) (by decide) (by omega) (by decide) (by decide) (by omega) (by omega) (by omega) (by omega) (by omega) (by omega) (by omega) (by omega) (by omega) (by omega) (by omega) (by omega) (by omega) (by omega) (by omega)
                    obtain ⟨i1, i2, i3, i4, i5, i6, i7, i8⟩ := ni (ht.1) (by rw [x1]; exact ht.2.1) (by rw [x1]; exact ht.2.2)
                    have ze : (v18 : Int32).toInt = ((130 * S) + v16.toInt) := by rw [show (v18 : Int32).toInt = ((130 * v11.toInt) + v16.toInt) from e19]; omega
                    have sM323 : (h217.2.1 70 6).toInt = S := (congrArg Int32.toInt oh217.side).trans hS.symm
                    have g324 : (0 : Int) ≤ (h217.2.1 70 4).toInt := (hv217.2.1 70 4).1
                    have g325 : (h217.2.1 70 4).toInt ≤ 500 := (hv217.2.1 70 4).2
                    have g326 : (-2147483648 : Int) ≤ (h217.2.1 70 5).toInt := (hv217.2.1 70 5).1
                    have g327 : (h217.2.1 70 5).toInt ≤ 2147483647 := (hv217.2.1 70 5).2
                    have g328 : (h217.2.1 70 5).toInt = u70_5.toInt := by rw [← (show u70_5 = h217.2.1 70 5 from (show u70_5 = h217.2.1 70 5 from by rw [hv217e]; exact (g_iI rfl (show u70_5 = h212.2.1 70 5 from by rw [hv212e]; exact (g_iI rfl (show u70_5 = h210.2.1 70 5 from by rw [hv210e]; exact (g_iI rfl (show u70_5 = h202.2.1 70 5 from by rw [hv202e]; exact (g_iI rfl (show u70_5 = h195.2.1 70 5 from by rw [hv195e]; exact (g_iI rfl (show u70_5 = h185.2.1 70 5 from by rw [hv185e]; exact (g_iI rfl (show u70_5 = h60.2.1 70 5 from by rw [hv60e]; exact (g_iI rfl (show u70_5 = h54.2.1 70 5 from by rw [hv54e]; exact (g_iI rfl (show u70_5 = h50.2.1 70 5 from by rw [hv50e]; exact (g_iI rfl (show u70_5 = h48.2.1 70 5 from by rw [hv48e]; exact (g_iI rfl (show u70_5 = h46.2.1 70 5 from by rw [hv46e]; exact (g_iI rfl (show u70_5 = h44.2.1 70 5 from by rw [hv44e]; exact (g_iI rfl (show u70_5 = h42.2.1 70 5 from by rw [hv42e]; exact (g_iI rfl (show u70_5 = h40.2.1 70 5 from by rw [hv40e]; exact (g_iI rfl (show u70_5 = h38.2.1 70 5 from by rw [hv38e]; exact (g_iI rfl (show u70_5 = h36.2.1 70 5 from by rw [hv36e]; exact (g_iI rfl (show u70_5 = h33.2.1 70 5 from by rw [hv33e]; exact (g_iI rfl (show u70_5 = h31.2.1 70 5 from by rw [hv31e]; exact (g_iI rfl (show u70_5 = h29.2.1 70 5 from by rw [hv29e]; exact (g_iI rfl (show u70_5 = h27.2.1 70 5 from by rw [hv27e]; exact (g_iI rfl (show u70_5 = h25.2.1 70 5 from by rw [hv25e]; exact (g_iI rfl u70_5w.symm).symm).symm).symm).symm).symm).symm).symm).symm).symm).symm).symm).symm).symm).symm).symm).symm).symm).symm).symm).symm).symm).symm).symm).symm).symm).symm).symm).symm).symm).symm).symm).symm).symm).symm).symm).symm).symm).symm).symm).symm).symm))] <;> exact (ti_rfl u70_5)
                    have g329 : (h217.2.1 70 4).toInt = (u70_4.toInt + 1) := by rw [← (show v215 = h217.2.1 70 4 from (show v215 = h217.2.1 70 4 from by rw [hv217e]; exact g_iS.symm))] <;> exact e216
                    refine go_invV (pc := 380) (sl := 0) (ihT hv217 v18 (by rw [show (v18 : Int32).toInt = ((130 * v11.toInt) + v16.toInt) from e19]; omega) (by rw [show (v18 : Int32).toInt = ((130 * v11.toInt) + v16.toInt) from e19]; omega) l2 (by rw [show (l2 : Int32).toInt = l2.toInt from (ti_rfl l2)]; omega) (by rw [show (l2 : Int32).toInt = l2.toInt from (ti_rfl l2)]; omega) l3 (by rw [show (l3 : Int32).toInt = l3.toInt from (ti_rfl l3)]; omega) (by rw [show (l3 : Int32).toInt = l3.toInt from (ti_rfl l3)]; omega) (by rw [sM323]; exact (by omega)) (by omega) (by rw [sM323]; exact (by omega)) (by rw [sM323]; exact ⟨i1, by omega, by omega, by rw [ze, x3]; exact i6, by rw [ze]; omega⟩) (by omega)) mL_X8_209 iM_X8_readTest sM_X8_readTest (hv217.sh rfl) rfl rfl rfl (Nat.le_of_ble_eq_true rfl) (show d + 4 + 1 ≤ d + 5 by omega) (show 8 + (4 + 11) + 40 * (d + 4) ≤ 40 * (d + 5) by omega) (g_c0 hv217.ln) (Nat.le_of_ble_eq_true rfl) dX8_readItem_380 ?_
                    intro r h330 hq _
                    obtain ⟨rfl, ⟨Q331, hv330, sq332⟩, f333, f334, f335, f336, f337, f338, f339, f340, f341⟩ := hq
                    rw [sM323] at f335
                    rw [sM323] at f336
                    rw [sM323] at f340
                    have oh330 : OH h.2.1 h330.2.1 S := oh217.trans f340
                    have kp330 : KP h.2.1 h330.2.1 := kp217.trans f339
                    have ck330 : CKF h.2.1 → CKF h330.2.1 := fun z => f341 (ck217 z)
                    have fx330 : FX KRt h h330 := FX.tr fx217 f338
                    rw [show (v18 : Int32).toInt = ((130 * v11.toInt) + v16.toInt) from e19] at f337
                    have k342 := bd_e k315 f337.symm
                    obtain ⟨u343, u343w⟩ : ∃ v : Int32, v = h330.2.1 70 4 := ⟨_, rfl⟩
                    have u343e : (h330.2.1 70 4).toInt = u343.toInt := by rw [u343w]
                    have u343l : 0 ≤ u343.toInt := by rw [u343w]; exact (hv330.2.1 70 4).1
                    have u343u : u343.toInt ≤ 500 := by rw [u343w]; exact (hv330.2.1 70 4).2
                    have k344 := k342
                    obtain ⟨u345, u345w⟩ : ∃ v : Int32, v = h330.2.1 70 5 := ⟨_, rfl⟩
                    have u345e : (h330.2.1 70 5).toInt = u345.toInt := by rw [u345w]
                    have u345l : -2147483648 ≤ u345.toInt := by rw [u345w]; exact (hv330.2.1 70 5).1
                    have u345u : u345.toInt ≤ 2147483647 := by rw [u345w]; exact (hv330.2.1 70 5).2
                    have k346 := k344
                    refine go_goto (pc := 383) (tgt := 410) (by decide) dX8_readItem_383 ?_
                    have g347 : (0 : Int) ≤ (h330.2.1 70 4).toInt := (hv330.2.1 70 4).1
                    have g348 : (h330.2.1 70 4).toInt ≤ 500 := (hv330.2.1 70 4).2
                    have g349 : (-2147483648 : Int) ≤ (h330.2.1 70 5).toInt := (hv330.2.1 70 5).1
                    have g350 : (h330.2.1 70 5).toInt ≤ 2147483647 := (hv330.2.1 70 5).2
                    have g351 : (h330.2.1 70 4).toInt = u343.toInt := by rw [← (show u343 = h330.2.1 70 4 from u343w)] <;> exact (ti_rfl u343)
                    have g352 : (h330.2.1 70 5).toInt = u345.toInt := by rw [← (show u345 = h330.2.1 70 5 from u345w)] <;> exact (ti_rfl u345)
                    have pp353 : (h330.2.1 70 5).toInt = 0 → (h.2.1 70 5).toInt = 0 := (by omega)
                    have pp354 : (h.2.1 70 4).toInt ≤ (h330.2.1 70 4).toInt := (by omega)
                    have pp355 : (h330.2.1 70 5).toInt = 0 → (h.2.1 70 4).toInt + 1 ≤ (h330.2.1 70 4).toInt ∧ 6 * (V h330.2.1 73 S - V h330.2.1 75 S) - (h330.2.1 70 4).toInt ≤ 6 * (V h.2.1 73 S - V h.2.1 75 S) - (h.2.1 70 4).toInt ∧ 2 * V h330.2.1 74 S - (h330.2.1 70 4).toInt ≤ 2 * V h.2.1 74 S - (h.2.1 70 4).toInt := (by omega)
                    have pp356 : (h330.2.1 70 5).toInt = 0 → RI h.2.1 h330.2.1 S a2.toInt a4.toInt := (fun hg => by rw [← x1]; exact RI.of S0 ni (by rw [← ze, ← x3]; exact (f336 (by omega))))
                    have pp357 : st h330 = f_X8_readItem_b g_X8_readTest g_X8_readTry (st h) a2.toInt a3.toInt a4.toInt := (k346.symm.trans kf)
                    have pp358 : FX KRt h h330 := fx330
                    subst hS
                    exact gi_vret (pc := 410) ⟨rfl, ⟨_, hv330, (MW.trans (MW.trans (MW.trans (MW.trans (MW.trans (MW.trans (MW.trans (MW.trans (MW.trans (MW.trans (MW.trans (MW.trans (MW.trans (MW.trans (MW.trans (MW.trans (MW.trans (MW.trans (MW.trans (MW.trans (MW.trans sqx (MW.mz _ _)) (MW.mz _ _)) (MW.mz _ _)) (MW.mz _ _)) (MW.mz _ _)) (MW.mz _ _)) (MW.mz _ _)) (MW.mz _ _)) (MW.mz _ _)) (MW.mz _ _)) (MW.mz _ _)) (MW.mz _ _)) (MW.mz _ _)) (MW.mz _ _)) (MW.mz _ _)) (MW.mz _ _)) (MW.mz _ _)) (MW.mz _ _)) (MW.mz _ _)) (MW.mz _ _)) sq332)⟩, pp353, pp354, pp355, pp356, pp357, pp358, kp330, oh330, ck330⟩ hv330 dX8_readItem_410
              ·
                have k359 := if_f k218 (fun z => z q219)
                refine go_aload_n (pc := 352) rfl dX8_readItem_352 ?_
                refine go_iload (pc := 353) rfl dX8_readItem_353 ?_
                refine go_iload (pc := 355) rfl dX8_readItem_355 ?_
                have EG : h212.2.1 = (w1 (w1 (w1 (w1 (w1 (w1 (w1 (w1 (w1 (w1 (w1 (w1 (w1 (w1 (w1 (w1 (w1 (w1 (w1 (w1 hx.2.1 73 S (v23 : Int32)) 77 (((130 * S) + v16.toInt)) (l5 : Int32)) 78 (((130 * S) + v16.toInt)) ((-1) : Int32)) 79 (((130 * S) + v16.toInt)) (l2 : Int32)) 80 (((130 * S) + v16.toInt)) (l3 : Int32)) 81 (((130 * S) + v16.toInt)) (v35 : Int32)) 82 (((130 * S) + v16.toInt)) (l4 : Int32)) 83 (((130 * S) + v16.toInt)) (0 : Int32)) 84 (((130 * S) + v16.toInt)) ((-2) : Int32)) 85 (((130 * S) + v16.toInt)) ((-1) : Int32)) 86 (((130 * S) + v16.toInt)) ((-1) : Int32)) 87 (((130 * S) + v16.toInt)) ((-1) : Int32)) 88 (((130 * S) + v16.toInt)) (l1 : Int32)) 89 ((2 * ((130 * S) + v16.toInt))) (0 : Int32)) 89 (((2 * ((130 * S) + v16.toInt)) + 1)) (0 : Int32)) 78 (((130 * S) + v16.toInt)) (v183 : Int32)) 93 (((40 * S) + v191.toInt)) (v18 : Int32)) 75 S (v200 : Int32)) 87 v208.toInt (v18 : Int32)) 91 l1.toInt (v18 : Int32)) := by rw [E212, E202, E195, E185, E60]
                have z360 : (v23 : Int32).toInt = (v21.toInt + 1) := e24
                have z361 : ((-1) : Int32).toInt = (-1) := (ti_c (v := (-1)) (a := (-1)) (by decide))
                have z362 : (v35 : Int32).toInt = u70_4.toInt := v35q
                have z363 : (0 : Int32).toInt = 0 := (ti_c (v := 0) (a := 0) (by decide))
                have z364 : ((-2) : Int32).toInt = (-2) := (ti_c (v := (-2)) (a := (-2)) (by decide))
                have z365 : (v18 : Int32).toInt = ((130 * v11.toInt) + v16.toInt) := e19
                have z366 : (v200 : Int32).toInt = (v198.toInt + 1) := e201
                have y73 : V hx.2.1 73 S = V h.2.1 73 S := xve.v (by omega) (by omega)
                have y75 : V hx.2.1 75 S = V h.2.1 75 S := xve.v (by omega) (by omega)
                have ni : NI h.2.1 h217.2.1 S l1.toInt a4.toInt (((130 * S) + v16.toInt)) l5.toInt l4.toInt := NI.cr01 (its := l5.toInt) (nm := l4.toInt) S0 xve EG ve217 (by omega) (by omega) (by omega) (by omega) (by first | omega | decide) (by omega) (by decide) (by decide) (by decide) (by omega) (by decide) (by decide) (by omega) (by omega) (by omega) (by omega) (by omega) (by omega) (by omega) (by omega) (by omega) (by omega) (by omega) (by omega) (by omega) (by omega) (by omega)
                obtain ⟨i1, i2, i3, i4, i5, i6, i7, i8⟩ := ni (ht.1) (by rw [x1]; exact ht.2.1) (by rw [x1]; exact ht.2.2)
                have ze : (v18 : Int32).toInt = ((130 * S) + v16.toInt) := by rw [show (v18 : Int32).toInt = ((130 * v11.toInt) + v16.toInt) from e19]; omega
                have sM367 : (h217.2.1 70 6).toInt = S := (congrArg Int32.toInt oh217.side).trans hS.symm
                have g368 : (0 : Int) ≤ (h217.2.1 70 4).toInt := (hv217.2.1 70 4).1
                have g369 : (h217.2.1 70 4).toInt ≤ 500 := (hv217.2.1 70 4).2
                have g370 : (-2147483648 : Int) ≤ (h217.2.1 70 5).toInt := (hv217.2.1 70 5).1
                have g371 : (h217.2.1 70 5).toInt ≤ 2147483647 := (hv217.2.1 70 5).2
                have g372 : (h217.2.1 70 5).toInt = u70_5.toInt := by rw [← (show u70_5 = h217.2.1 70 5 from (show u70_5 = h217.2.1 70 5 from by rw [hv217e]; exact (g_iI rfl (show u70_5 = h212.2.1 70 5 from by rw [hv212e]; exact (g_iI rfl (show u70_5 = h210.2.1 70 5 from by rw [hv210e]; exact (g_iI rfl (show u70_5 = h202.2.1 70 5 from by rw [hv202e]; exact (g_iI rfl (show u70_5 = h195.2.1 70 5 from by rw [hv195e]; exact (g_iI rfl (show u70_5 = h185.2.1 70 5 from by rw [hv185e]; exact (g_iI rfl (show u70_5 = h60.2.1 70 5 from by rw [hv60e]; exact (g_iI rfl (show u70_5 = h54.2.1 70 5 from by rw [hv54e]; exact (g_iI rfl (show u70_5 = h50.2.1 70 5 from by rw [hv50e]; exact (g_iI rfl (show u70_5 = h48.2.1 70 5 from by rw [hv48e]; exact (g_iI rfl (show u70_5 = h46.2.1 70 5 from by rw [hv46e]; exact (g_iI rfl (show u70_5 = h44.2.1 70 5 from by rw [hv44e]; exact (g_iI rfl (show u70_5 = h42.2.1 70 5 from by rw [hv42e]; exact (g_iI rfl (show u70_5 = h40.2.1 70 5 from by rw [hv40e]; exact (g_iI rfl (show u70_5 = h38.2.1 70 5 from by rw [hv38e]; exact (g_iI rfl (show u70_5 = h36.2.1 70 5 from by rw [hv36e]; exact (g_iI rfl (show u70_5 = h33.2.1 70 5 from by rw [hv33e]; exact (g_iI rfl (show u70_5 = h31.2.1 70 5 from by rw [hv31e]; exact (g_iI rfl (show u70_5 = h29.2.1 70 5 from by rw [hv29e]; exact (g_iI rfl (show u70_5 = h27.2.1 70 5 from by rw [hv27e]; exact (g_iI rfl (show u70_5 = h25.2.1 70 5 from by rw [hv25e]; exact (g_iI rfl u70_5w.symm).symm).symm).symm).symm).symm).symm).symm).symm).symm).symm).symm).symm).symm).symm).symm).symm).symm).symm).symm).symm).symm).symm).symm).symm).symm).symm).symm).symm).symm).symm).symm).symm).symm).symm).symm).symm).symm).symm).symm).symm).symm))] <;> exact (ti_rfl u70_5)
                have g373 : (h217.2.1 70 4).toInt = (u70_4.toInt + 1) := by rw [← (show v215 = h217.2.1 70 4 from (show v215 = h217.2.1 70 4 from by rw [hv217e]; exact g_iS.symm))] <;> exact e216
                refine go_invV (pc := 357) (sl := 0) (s_X8_readSet_f l (d + 0) hv217 v18 (by rw [show (v18 : Int32).toInt = ((130 * v11.toInt) + v16.toInt) from e19]; omega) (by rw [show (v18 : Int32).toInt = ((130 * v11.toInt) + v16.toInt) from e19]; omega) l4 (by rw [show (l4 : Int32).toInt = l4.toInt from (ti_rfl l4)]; omega) (by rw [show (l4 : Int32).toInt = l4.toInt from (ti_rfl l4)]; omega) (by rw [sM367]; exact (by omega))) mL_X8_205 iM_X8_readSet sM_X8_readSet (hv217.sh rfl) rfl rfl rfl (Nat.le_of_ble_eq_true rfl) (show d + 0 + 4 + 1 ≤ d + 5 by omega) (show 8 + (3 + 11) + 40 * (d + 0 + 4) ≤ 40 * (d + 5) by omega) (g_c0 hv217.ln) (Nat.le_of_ble_eq_true rfl) dX8_readItem_357 ?_
                intro r h374 hq _
                obtain ⟨rfl, ⟨Q375, hv374, sq376⟩, f377, f378, f379, f380, f381, f382, f383, f384, f385, f386, f387⟩ := hq
                rw [sM367] at f379
                rw [sM367] at f380
                rw [sM367] at f381
                rw [sM367] at f382
                rw [sM367] at f386
                have oh374 : OH h.2.1 h374.2.1 S := oh217.trans f386
                have kp374 : KP h.2.1 h374.2.1 := kp217.trans f385
                have ck374 : CKF h.2.1 → CKF h374.2.1 := fun z => f387 (ck217 z)
                have fx374 : FX KRt h h374 := FX.tr fx217 f384
                rw [show (v18 : Int32).toInt = ((130 * v11.toInt) + v16.toInt) from e19] at f383
                have k388 := bd_e k359 f383.symm
                obtain ⟨u389, u389w⟩ : ∃ v : Int32, v = h374.2.1 70 4 := ⟨_, rfl⟩
                have u389e : (h374.2.1 70 4).toInt = u389.toInt := by rw [u389w]
                have u389l : 0 ≤ u389.toInt := by rw [u389w]; exact (hv374.2.1 70 4).1
                have u389u : u389.toInt ≤ 500 := by rw [u389w]; exact (hv374.2.1 70 4).2
                have k390 := k388
                obtain ⟨u391, u391w⟩ : ∃ v : Int32, v = h374.2.1 70 5 := ⟨_, rfl⟩
                have u391e : (h374.2.1 70 5).toInt = u391.toInt := by rw [u391w]
                have u391l : -2147483648 ≤ u391.toInt := by rw [u391w]; exact (hv374.2.1 70 5).1
                have u391u : u391.toInt ≤ 2147483647 := by rw [u391w]; exact (hv374.2.1 70 5).2
                have k392 := k390
                refine go_goto (pc := 360) (tgt := 410) (by decide) dX8_readItem_360 ?_
                have g393 : (0 : Int) ≤ (h374.2.1 70 4).toInt := (hv374.2.1 70 4).1
                have g394 : (h374.2.1 70 4).toInt ≤ 500 := (hv374.2.1 70 4).2
                have g395 : (-2147483648 : Int) ≤ (h374.2.1 70 5).toInt := (hv374.2.1 70 5).1
                have g396 : (h374.2.1 70 5).toInt ≤ 2147483647 := (hv374.2.1 70 5).2
                have g397 : (h374.2.1 70 4).toInt = u389.toInt := by rw [← (show u389 = h374.2.1 70 4 from u389w)] <;> exact (ti_rfl u389)
                have g398 : (h374.2.1 70 5).toInt = u391.toInt := by rw [← (show u391 = h374.2.1 70 5 from u391w)] <;> exact (ti_rfl u391)
                have pp399 : (h374.2.1 70 5).toInt = 0 → (h.2.1 70 5).toInt = 0 := (by omega)
                have pp400 : (h.2.1 70 4).toInt ≤ (h374.2.1 70 4).toInt := (by omega)
                have pp401 : (h374.2.1 70 5).toInt = 0 → (h.2.1 70 4).toInt + 1 ≤ (h374.2.1 70 4).toInt ∧ 6 * (V h374.2.1 73 S - V h374.2.1 75 S) - (h374.2.1 70 4).toInt ≤ 6 * (V h.2.1 73 S - V h.2.1 75 S) - (h.2.1 70 4).toInt ∧ 2 * V h374.2.1 74 S - (h374.2.1 70 4).toInt ≤ 2 * V h.2.1 74 S - (h.2.1 70 4).toInt := (by omega)
                have pp402 : (h374.2.1 70 5).toInt = 0 → RI h.2.1 h374.2.1 S a2.toInt a4.toInt := (fun hg => by rw [← x1]; exact RI.of S0 ni (by rw [← ze, ← x3]; exact (f382 (by omega) l3.toInt (by rw [ze]; omega) (by rw [ze]; omega))))
                have pp403 : st h374 = f_X8_readItem_b g_X8_readTest g_X8_readTry (st h) a2.toInt a3.toInt a4.toInt := (k392.symm.trans kf)
                have pp404 : FX KRt h h374 := fx374
                subst hS
                exact gi_vret (pc := 410) ⟨rfl, ⟨_, hv374, (MW.trans (MW.trans (MW.trans (MW.trans (MW.trans (MW.trans (MW.trans (MW.trans (MW.trans (MW.trans (MW.trans (MW.trans (MW.trans (MW.trans (MW.trans (MW.trans (MW.trans (MW.trans (MW.trans (MW.trans (MW.trans sqx (MW.mz _ _)) (MW.mz _ _)) (MW.mz _ _)) (MW.mz _ _)) (MW.mz _ _)) (MW.mz _ _)) (MW.mz _ _)) (MW.mz _ _)) (MW.mz _ _)) (MW.mz _ _)) (MW.mz _ _)) (MW.mz _ _)) (MW.mz _ _)) (MW.mz _ _)) (MW.mz _ _)) (MW.mz _ _)) (MW.mz _ _)) (MW.mz _ _)) (MW.mz _ _)) (MW.mz _ _)) sq376)⟩, pp399, pp400, pp401, pp402, pp403, pp404, kp374, oh374, ck374⟩ hv374 dX8_readItem_410
            ·
              have k405 := if_f k205 (fun z => z q206)
              refine go_aload_n (pc := 305) rfl dX8_readItem_305 ?_
              refine gi_getF (pc := 306) (q := 90) hv202 fL_X8_68 rfl (Nat.le_of_ble_eq_true rfl) rfl (hv202.rf (by decide)) dX8_readItem_306 ?_
              refine go_iload_n (pc := 309) rfl dX8_readItem_309 ?_
              refine go_iload (pc := 310) rfl dX8_readItem_310 ?_
              refine gi_fst (pc := 312) (lo := -1) (hi := 259) (len := 560) hv202 (ti_rfl l1) e19 rfl (by omega) (by omega) (fun _ => rfl) (by omega) (by omega) (by omega) dX8_readItem_312 (fun h406 hv406 hv406e => ?_)
              have fx406 : FX KRt h h406 := FX.pI fx202 hv406e (by unfold KRt; omega)
              have k407 := bd_e k405 (st_I hv406e e19)
              refine go_goto (pc := 313) (tgt := 329) (by decide) dX8_readItem_313 ?_
              refine go_aload_n (pc := 329) rfl dX8_readItem_329 ?_
              refine gi_getF (pc := 330) (q := 91) hv406 fL_X8_71 rfl (Nat.le_of_ble_eq_true rfl) rfl (hv406.rf (by decide)) dX8_readItem_330 ?_
              refine go_iload_n (pc := 333) rfl dX8_readItem_333 ?_
              refine go_iload (pc := 334) rfl dX8_readItem_334 ?_
              refine gi_fst (pc := 336) (lo := -1) (hi := 259) (len := 560) hv406 (ti_rfl l1) e19 rfl (by omega) (by omega) (fun _ => rfl) (by omega) (by omega) (by omega) dX8_readItem_336 (fun h408 hv408 hv408e => ?_)
              have fx408 : FX KRt h h408 := FX.pI fx406 hv408e (by unfold KRt; omega)
              have k409 := bd_e k407 (st_I hv408e e19)
              refine go_aload_n (pc := 337) rfl dX8_readItem_337 ?_
              refine go_dup (pc := 338) rfl dX8_readItem_338 ?_
              refine gi_get (pc := 339) (lo := 0) (hi := 500) hv408 fL_X8_163 rfl (Nat.le_of_ble_eq_true rfl) rfl rfl dX8_readItem_339 (fun v410 v410l v410u v410w => ?_)
              have v410r : u70_4 = h408.2.1 70 4 := (show u70_4 = h408.2.1 70 4 from by rw [hv408e]; exact (g_iI rfl (show u70_4 = h406.2.1 70 4 from by rw [hv406e]; exact (g_iI rfl (show u70_4 = h202.2.1 70 4 from by rw [hv202e]; exact (g_iI rfl (show u70_4 = h195.2.1 70 4 from by rw [hv195e]; exact (g_iI rfl (show u70_4 = h185.2.1 70 4 from by rw [hv185e]; exact (g_iI rfl (show u70_4 = h60.2.1 70 4 from by rw [hv60e]; exact (g_iI rfl (show u70_4 = h54.2.1 70 4 from by rw [hv54e]; exact (g_iI rfl (show u70_4 = h50.2.1 70 4 from by rw [hv50e]; exact (g_iI rfl (show u70_4 = h48.2.1 70 4 from by rw [hv48e]; exact (g_iI rfl (show u70_4 = h46.2.1 70 4 from by rw [hv46e]; exact (g_iI rfl (show u70_4 = h44.2.1 70 4 from by rw [hv44e]; exact (g_iI rfl (show u70_4 = h42.2.1 70 4 from by rw [hv42e]; exact (g_iI rfl (show u70_4 = h40.2.1 70 4 from by rw [hv40e]; exact (g_iI rfl (show u70_4 = h38.2.1 70 4 from by rw [hv38e]; exact (g_iI rfl (show u70_4 = h36.2.1 70 4 from by rw [hv36e]; exact (g_iI rfl (show u70_4 = h33.2.1 70 4 from by rw [hv33e]; exact (g_iI rfl (show u70_4 = h31.2.1 70 4 from by rw [hv31e]; exact (g_iI rfl (show u70_4 = h29.2.1 70 4 from by rw [hv29e]; exact (g_iI rfl (show u70_4 = h27.2.1 70 4 from by rw [hv27e]; exact (g_iI rfl (show u70_4 = h25.2.1 70 4 from by rw [hv25e]; exact (g_iI rfl u70_4w.symm).symm).symm).symm).symm).symm).symm).symm).symm).symm).symm).symm).symm).symm).symm).symm).symm).symm).symm).symm).symm).symm).symm).symm).symm).symm).symm).symm).symm).symm).symm).symm).symm).symm).symm).symm).symm).symm).symm).symm)
              have v410q : TI v410 u70_4.toInt := by rw [v410w.trans v410r.symm]; exact (ti_rfl u70_4)
              refine go_iconst (pc := 342) (v := 1) (by decide) dX8_readItem_342 ?_
              refine gf_iadd (pc := 343) v410q (ti_c (v := 1) (a := 1) (by decide)) (by omega) (by omega) dX8_readItem_343 (fun v411 e412 => ?_)
              have E408 : h408.2.1 = (w1 (w1 h202.2.1 90 l1.toInt (v18 : Int32)) 91 l1.toInt (v18 : Int32)) := by
                rw [hv408e, hv406e]
                rfl
              have oh408 : OH h.2.1 h408.2.1 S := by rw [E408]; exact ((oh202.trans (OH.w 280 rfl (by omega) (by omega) (by omega) (by omega))).trans (OH.w 280 rfl (by omega) (by omega) (by omega) (by omega)))
              have kp408 : KP h.2.1 h408.2.1 := by rw [E408]; exact ((kp202.trans (KP.w (by omega))).trans (KP.w (by omega)))
              have n73_408 : V h408.2.1 73 S = V h202.2.1 73 S := by rw [E408, V_ne (by omega), V_ne (by omega)]
              have n74_408 : V h408.2.1 74 S = V h202.2.1 74 S := by rw [E408, V_ne (by omega), V_ne (by omega)]
              have n75_408 : V h408.2.1 75 S = V h202.2.1 75 S := by rw [E408, V_ne (by omega), V_ne (by omega)]
              have ck408 : CKF h.2.1 → CKF h408.2.1 := fun z => by rw [E408]; exact (CKF.w (by omega) (CKF.w (by omega) (ck202 z)))
              refine gi_put (pc := 344) (lo := 0) (hi := 500) hv408 e412 (fP_X8_163 _) rfl (Nat.le_of_ble_eq_true rfl) rfl rfl (by omega) (by omega) rfl rfl (by decide) (by decide) (by decide) (by decide) dX8_readItem_344 (fun h413 hv413 hv413e => ?_)
              have fx413 : FX KRt h h413 := FX.pI fx408 hv413e (by unfold KRt; omega)
              have k414 := bd_e k409 (st_I hv413e e412)
              have ve413 : VE h408.2.1 h413.2.1 := VE.of hv408 hv413
              have oh413 : OH h.2.1 h413.2.1 S := oh408.trans (OH.of hv408 hv413 S)
              have kp413 : KP h.2.1 h413.2.1 := kp408.trans (KP.ve ve413)
              have ck413 : CKF h.2.1 → CKF h413.2.1 := fun z => CKF.ve ve413 (ck408 z)
              have n73_413 : V h413.2.1 73 S = V h408.2.1 73 S := ve413.v (by omega) (by omega)
              have n74_413 : V h413.2.1 74 S = V h408.2.1 74 S := ve413.v (by omega) (by omega)
              have n75_413 : V h413.2.1 75 S = V h408.2.1 75 S := ve413.v (by omega) (by omega)
              refine go_iload (pc := 347) rfl dX8_readItem_347 ?_
              refine gf_if_ne (pc := 349) (tgt := 363) (ti_rfl l5) (by decide) dX8_readItem_349 (fun q415 => ?_) (fun q415 => ?_)
              ·
                have k416 := if_t k414 q415
                refine go_iload (pc := 363) rfl dX8_readItem_363 ?_
                refine go_iconst (pc := 365) (v := 2) (by decide) dX8_readItem_365 ?_
                refine gf_icmp_eq (pc := 366) (tgt := 375) (ti_rfl l5) (ti_c (v := 2) (a := 2) (by decide)) (by decide) dX8_readItem_366 (fun q417 => ?_) (fun q417 => ?_)
                ·
                  have k418 := if_t k416 q417
                  refine go_aload_n (pc := 375) rfl dX8_readItem_375 ?_
                  refine go_iload (pc := 376) rfl dX8_readItem_376 ?_
                  refine go_iload_n (pc := 378) rfl dX8_readItem_378 ?_
                  refine go_iload_n (pc := 379) rfl dX8_readItem_379 ?_
                  have EG : h408.2.1 = (w1 (w1 (w1 (w1 (w1 (w1 (w1 (w1 (w1 (w1 (w1 (w1 (w1 (w1 (w1 (w1 (w1 (w1 (w1 (w1 hx.2.1 73 S (v23 : Int32)) 77 (((130 * S) + v16.toInt)) (l5 : Int32)) 78 (((130 * S) + v16.toInt)) ((-1) : Int32)) 79 (((130 * S) + v16.toInt)) (l2 : Int32)) 80 (((130 * S) + v16.toInt)) (l3 : Int32)) 81 (((130 * S) + v16.toInt)) (v35 : Int32)) 82 (((130 * S) + v16.toInt)) (l4 : Int32)) 83 (((130 * S) + v16.toInt)) (0 : Int32)) 84 (((130 * S) + v16.toInt)) ((-2) : Int32)) 85 (((130 * S) + v16.toInt)) ((-1) : Int32)) 86 (((130 * S) + v16.toInt)) ((-1) : Int32)) 87 (((130 * S) + v16.toInt)) ((-1) : Int32)) 88 (((130 * S) + v16.toInt)) (l1 : Int32)) 89 ((2 * ((130 * S) + v16.toInt))) (0 : Int32)) 89 (((2 * ((130 * S) + v16.toInt)) + 1)) (0 : Int32)) 78 (((130 * S) + v16.toInt)) (v183 : Int32)) 93 (((40 * S) + v191.toInt)) (v18 : Int32)) 75 S (v200 : Int32)) 90 l1.toInt (v18 : Int32)) 91 l1.toInt (v18 : Int32)) := by rw [E408, E202, E195, E185, E60]
                  have z419 : (v23 : Int32).toInt = (v21.toInt + 1) := e24
                  have z420 : ((-1) : Int32).toInt = (-1) := (ti_c (v := (-1)) (a := (-1)) (by decide))
                  have z421 : (v35 : Int32).toInt = u70_4.toInt := v35q
                  have z422 : (0 : Int32).toInt = 0 := (ti_c (v := 0) (a := 0) (by decide))
                  have z423 : ((-2) : Int32).toInt = (-2) := (ti_c (v := (-2)) (a := (-2)) (by decide))
                  have z424 : (v18 : Int32).toInt = ((130 * v11.toInt) + v16.toInt) := e19
                  have z425 : (v200 : Int32).toInt = (v198.toInt + 1) := e201
                  have y73 : V hx.2.1 73 S = V h.2.1 73 S := xve.v (by omega) (by omega)
                  have y75 : V hx.2.1 75 S = V h.2.1 75 S := xve.v (by omega) (by omega)
                  have ni : NI h.2.1 h413.2.1 S l1.toInt a4.toInt (((130 * S) + v16.toInt)) l5.toInt l4.toInt := NI.cr00 (its := l5.toInt) (nm := l4.toInt) S0 xve EG ve413 (by omega) (by omega) (by omega) (by omega) (by first | omega | decide) (by omega) (by decide) (by decide) (by decide) (by omega) (by decide) (by decide) (by omega) (by omega) (by omega) (by omega) (by omega) (by omega) (by omega) (by omega) (by omega) (by omega) (by omega) (by omega)
                  obtain ⟨i1, i2, i3, i4, i5, i6, i7, i8⟩ := ni (ht.1) (by rw [x1]; exact ht.2.1) (by rw [x1]; exact ht.2.2)
                  have ze : (v18 : Int32).toInt = ((130 * S) + v16.toInt) := by rw [show (v18 : Int32).toInt = ((130 * v11.toInt) + v16.toInt) from e19]; omega
                  have sM426 : (h413.2.1 70 6).toInt = S := (congrArg Int32.toInt oh413.side).trans hS.symm
                  have g427 : (0 : Int) ≤ (h413.2.1 70 4).toInt := (hv413.2.1 70 4).1
                  have g428 : (h413.2.1 70 4).toInt ≤ 500 := (hv413.2.1 70 4).2
                  have g429 : (-2147483648 : Int) ≤ (h413.2.1 70 5).toInt := (hv413.2.1 70 5).1
                  have g430 : (h413.2.1 70 5).toInt ≤ 2147483647 := (hv413.2.1 70 5).2
                  have g431 : (h413.2.1 70 5).toInt = u70_5.toInt := by rw [← (show u70_5 = h413.2.1 70 5 from (show u70_5 = h413.2.1 70 5 from by rw [hv413e]; exact (g_iI rfl (show u70_5 = h408.2.1 70 5 from by rw [hv408e]; exact (g_iI rfl (show u70_5 = h406.2.1 70 5 from by rw [hv406e]; exact (g_iI rfl (show u70_5 = h202.2.1 70 5 from by rw [hv202e]; exact (g_iI rfl (show u70_5 = h195.2.1 70 5 from by rw [hv195e]; exact (g_iI rfl (show u70_5 = h185.2.1 70 5 from by rw [hv185e]; exact (g_iI rfl (show u70_5 = h60.2.1 70 5 from by rw [hv60e]; exact (g_iI rfl (show u70_5 = h54.2.1 70 5 from by rw [hv54e]; exact (g_iI rfl (show u70_5 = h50.2.1 70 5 from by rw [hv50e]; exact (g_iI rfl (show u70_5 = h48.2.1 70 5 from by rw [hv48e]; exact (g_iI rfl (show u70_5 = h46.2.1 70 5 from by rw [hv46e]; exact (g_iI rfl (show u70_5 = h44.2.1 70 5 from by rw [hv44e]; exact (g_iI rfl (show u70_5 = h42.2.1 70 5 from by rw [hv42e]; exact (g_iI rfl (show u70_5 = h40.2.1 70 5 from by rw [hv40e]; exact (g_iI rfl (show u70_5 = h38.2.1 70 5 from by rw [hv38e]; exact (g_iI rfl (show u70_5 = h36.2.1 70 5 from by rw [hv36e]; exact (g_iI rfl (show u70_5 = h33.2.1 70 5 from by rw [hv33e]; exact (g_iI rfl (show u70_5 = h31.2.1 70 5 from by rw [hv31e]; exact (g_iI rfl (show u70_5 = h29.2.1 70 5 from by rw [hv29e]; exact (g_iI rfl (show u70_5 = h27.2.1 70 5 from by rw [hv27e]; exact (g_iI rfl (show u70_5 = h25.2.1 70 5 from by rw [hv25e]; exact (g_iI rfl u70_5w.symm).symm).symm).symm).symm).symm).symm).symm).symm).symm).symm).symm).symm).symm).symm).symm).symm).symm).symm).symm).symm).symm).symm).symm).symm).symm).symm).symm).symm).symm).symm).symm).symm).symm).symm).symm).symm).symm).symm).symm).symm).symm))] <;> exact (ti_rfl u70_5)
                  have g432 : (h413.2.1 70 4).toInt = (u70_4.toInt + 1) := by rw [← (show v411 = h413.2.1 70 4 from (show v411 = h413.2.1 70 4 from by rw [hv413e]; exact g_iS.symm))] <;> exact e412
                  refine go_invV (pc := 380) (sl := 0) (ihT hv413 v18 (by rw [show (v18 : Int32).toInt = ((130 * v11.toInt) + v16.toInt) from e19]; omega) (by rw [show (v18 : Int32).toInt = ((130 * v11.toInt) + v16.toInt) from e19]; omega) l2 (by rw [show (l2 : Int32).toInt = l2.toInt from (ti_rfl l2)]; omega) (by rw [show (l2 : Int32).toInt = l2.toInt from (ti_rfl l2)]; omega) l3 (by rw [show (l3 : Int32).toInt = l3.toInt from (ti_rfl l3)]; omega) (by rw [show (l3 : Int32).toInt = l3.toInt from (ti_rfl l3)]; omega) (by rw [sM426]; exact (by omega)) (by omega) (by rw [sM426]; exact (by omega)) (by rw [sM426]; exact ⟨i1, by omega, by omega, by rw [ze, x3]; exact i6, by rw [ze]; omega⟩) (by omega)) mL_X8_209 iM_X8_readTest sM_X8_readTest (hv413.sh rfl) rfl rfl rfl (Nat.le_of_ble_eq_true rfl) (show d + 4 + 1 ≤ d + 5 by omega) (show 8 + (4 + 11) + 40 * (d + 4) ≤ 40 * (d + 5) by omega) (g_c0 hv413.ln) (Nat.le_of_ble_eq_true rfl) dX8_readItem_380 ?_
                  intro r h433 hq _
                  obtain ⟨rfl, ⟨Q434, hv433, sq435⟩, f436, f437, f438, f439, f440, f441, f442, f443, f444⟩ := hq
                  rw [sM426] at f438
                  rw [sM426] at f439
                  rw [sM426] at f443
                  have oh433 : OH h.2.1 h433.2.1 S := oh413.trans f443
                  have kp433 : KP h.2.1 h433.2.1 := kp413.trans f442
                  have ck433 : CKF h.2.1 → CKF h433.2.1 := fun z => f444 (ck413 z)
                  have fx433 : FX KRt h h433 := FX.tr fx413 f441
                  rw [show (v18 : Int32).toInt = ((130 * v11.toInt) + v16.toInt) from e19] at f440
                  have k445 := bd_e k418 f440.symm
                  obtain ⟨u446, u446w⟩ : ∃ v : Int32, v = h433.2.1 70 4 := ⟨_, rfl⟩
                  have u446e : (h433.2.1 70 4).toInt = u446.toInt := by rw [u446w]
                  have u446l : 0 ≤ u446.toInt := by rw [u446w]; exact (hv433.2.1 70 4).1
                  have u446u : u446.toInt ≤ 500 := by rw [u446w]; exact (hv433.2.1 70 4).2
                  have k447 := k445
                  obtain ⟨u448, u448w⟩ : ∃ v : Int32, v = h433.2.1 70 5 := ⟨_, rfl⟩
                  have u448e : (h433.2.1 70 5).toInt = u448.toInt := by rw [u448w]
                  have u448l : -2147483648 ≤ u448.toInt := by rw [u448w]; exact (hv433.2.1 70 5).1
                  have u448u : u448.toInt ≤ 2147483647 := by rw [u448w]; exact (hv433.2.1 70 5).2
                  have k449 := k447
                  refine go_goto (pc := 383) (tgt := 410) (by decide) dX8_readItem_383 ?_
                  have g450 : (0 : Int) ≤ (h433.2.1 70 4).toInt := (hv433.2.1 70 4).1
                  have g451 : (h433.2.1 70 4).toInt ≤ 500 := (hv433.2.1 70 4).2
                  have g452 : (-2147483648 : Int) ≤ (h433.2.1 70 5).toInt := (hv433.2.1 70 5).1
                  have g453 : (h433.2.1 70 5).toInt ≤ 2147483647 := (hv433.2.1 70 5).2
                  have g454 : (h433.2.1 70 4).toInt = u446.toInt := by rw [← (show u446 = h433.2.1 70 4 from u446w)] <;> exact (ti_rfl u446)
                  have g455 : (h433.2.1 70 5).toInt = u448.toInt := by rw [← (show u448 = h433.2.1 70 5 from u448w)] <;> exact (ti_rfl u448)
                  have pp456 : (h433.2.1 70 5).toInt = 0 → (h.2.1 70 5).toInt = 0 := (by omega)
                  have pp457 : (h.2.1 70 4).toInt ≤ (h433.2.1 70 4).toInt := (by omega)
                  have pp458 : (h433.2.1 70 5).toInt = 0 → (h.2.1 70 4).toInt + 1 ≤ (h433.2.1 70 4).toInt ∧ 6 * (V h433.2.1 73 S - V h433.2.1 75 S) - (h433.2.1 70 4).toInt ≤ 6 * (V h.2.1 73 S - V h.2.1 75 S) - (h.2.1 70 4).toInt ∧ 2 * V h433.2.1 74 S - (h433.2.1 70 4).toInt ≤ 2 * V h.2.1 74 S - (h.2.1 70 4).toInt := (by omega)
                  have pp459 : (h433.2.1 70 5).toInt = 0 → RI h.2.1 h433.2.1 S a2.toInt a4.toInt := (fun hg => by rw [← x1]; exact RI.of S0 ni (by rw [← ze, ← x3]; exact (f439 (by omega))))
                  have pp460 : st h433 = f_X8_readItem_b g_X8_readTest g_X8_readTry (st h) a2.toInt a3.toInt a4.toInt := (k449.symm.trans kf)
                  have pp461 : FX KRt h h433 := fx433
                  subst hS
                  exact gi_vret (pc := 410) ⟨rfl, ⟨_, hv433, (MW.trans (MW.trans (MW.trans (MW.trans (MW.trans (MW.trans (MW.trans (MW.trans (MW.trans (MW.trans (MW.trans (MW.trans (MW.trans (MW.trans (MW.trans (MW.trans (MW.trans (MW.trans (MW.trans (MW.trans (MW.trans sqx (MW.mz _ _)) (MW.mz _ _)) (MW.mz _ _)) (MW.mz _ _)) (MW.mz _ _)) (MW.mz _ _)) (MW.mz _ _)) (MW.mz _ _)) (MW.mz _ _)) (MW.mz _ _)) (MW.mz _ _)) (MW.mz _ _)) (MW.mz _ _)) (MW.mz _ _)) (MW.mz _ _)) (MW.mz _ _)) (MW.mz _ _)) (MW.mz _ _)) (MW.mz _ _)) (MW.mz _ _)) sq435)⟩, pp456, pp457, pp458, pp459, pp460, pp461, kp433, oh433, ck433⟩ hv433 dX8_readItem_410
                ·
                  have k462 := if_f k416 q417
                  refine go_iload (pc := 369) rfl dX8_readItem_369 ?_
                  refine go_iconst (pc := 371) (v := 3) (by decide) dX8_readItem_371 ?_
                  refine gf_icmp_ne (pc := 372) (tgt := 386) (ti_rfl l5) (ti_c (v := 3) (a := 3) (by decide)) (by decide) dX8_readItem_372 (fun q463 => ?_) (fun q463 => ?_)
                  ·
                    have k464 := if_t k462 q463
                    refine go_iload (pc := 386) rfl dX8_readItem_386 ?_
                    refine go_bipush (pc := 388) (v := 6) (by decide) dX8_readItem_388 ?_
                    refine gf_icmp_ne (pc := 390) (tgt := 404) (ti_rfl l5) (ti_c (v := 6) (a := 6) (by decide)) (by decide) dX8_readItem_390 (fun q465 => ?_) (fun q465 => False.elim (by omega))
                    refine go_aload_n (pc := 404) rfl dX8_readItem_404 ?_
                    refine go_iload (pc := 405) rfl dX8_readItem_405 ?_
                    have EG : h408.2.1 = (w1 (w1 (w1 (w1 (w1 (w1 (w1 (w1 (w1 (w1 (w1 (w1 (w1 (w1 (w1 (w1 (w1 (w1 (w1 (w1 hx.2.1 73 S (v23 : Int32)) 77 (((130 * S) + v16.toInt)) (l5 : Int32)) 78 (((130 * S) + v16.toInt)) ((-1) : Int32)) 79 (((130 * S) + v16.toInt)) (l2 : Int32)) 80 (((130 * S) + v16.toInt)) (l3 : Int32)) 81 (((130 * S) + v16.toInt)) (v35 : Int32)) 82 (((130 * S) + v16.toInt)) (l4 : Int32)) 83 (((130 * S) + v16.toInt)) (0 : Int32)) 84 (((130 * S) + v16.toInt)) ((-2) : Int32)) 85 (((130 * S) + v16.toInt)) ((-1) : Int32)) 86 (((130 * S) + v16.toInt)) ((-1) : Int32)) 87 (((130 * S) + v16.toInt)) ((-1) : Int32)) 88 (((130 * S) + v16.toInt)) (l1 : Int32)) 89 ((2 * ((130 * S) + v16.toInt))) (0 : Int32)) 89 (((2 * ((130 * S) + v16.toInt)) + 1)) (0 : Int32)) 78 (((130 * S) + v16.toInt)) (v183 : Int32)) 93 (((40 * S) + v191.toInt)) (v18 : Int32)) 75 S (v200 : Int32)) 90 l1.toInt (v18 : Int32)) 91 l1.toInt (v18 : Int32)) := by rw [E408, E202, E195, E185, E60]
                    have z466 : (v23 : Int32).toInt = (v21.toInt + 1) := e24
                    have z467 : ((-1) : Int32).toInt = (-1) := (ti_c (v := (-1)) (a := (-1)) (by decide))
                    have z468 : (v35 : Int32).toInt = u70_4.toInt := v35q
                    have z469 : (0 : Int32).toInt = 0 := (ti_c (v := 0) (a := 0) (by decide))
                    have z470 : ((-2) : Int32).toInt = (-2) := (ti_c (v := (-2)) (a := (-2)) (by decide))
                    have z471 : (v18 : Int32).toInt = ((130 * v11.toInt) + v16.toInt) := e19
                    have z472 : (v200 : Int32).toInt = (v198.toInt + 1) := e201
                    have y73 : V hx.2.1 73 S = V h.2.1 73 S := xve.v (by omega) (by omega)
                    have y75 : V hx.2.1 75 S = V h.2.1 75 S := xve.v (by omega) (by omega)
                    have ni : NI h.2.1 h413.2.1 S l1.toInt a4.toInt (((130 * S) + v16.toInt)) l5.toInt l4.toInt := NI.cr00 (its := l5.toInt) (nm := l4.toInt) S0 xve EG ve413 (by omega) (by omega) (by omega) (by omega) (by first | omega | decide) (by omega) (by decide) (by decide) (by decide) (by omega) (by decide) (by decide) (by omega) (by omega) (by omega) (by omega) (by omega) (by omega) (by omega) (by omega) (by omega) (by omega) (by omega) (by omega)
                    obtain ⟨i1, i2, i3, i4, i5, i6, i7, i8⟩ := ni (ht.1) (by rw [x1]; exact ht.2.1) (by rw [x1]; exact ht.2.2)
                    have ze : (v18 : Int32).toInt = ((130 * S) + v16.toInt) := by rw [show (v18 : Int32).toInt = ((130 * v11.toInt) + v16.toInt) from e19]; omega
                    have sM473 : (h413.2.1 70 6).toInt = S := (congrArg Int32.toInt oh413.side).trans hS.symm
                    have g474 : (0 : Int) ≤ (h413.2.1 70 4).toInt := (hv413.2.1 70 4).1
                    have g475 : (h413.2.1 70 4).toInt ≤ 500 := (hv413.2.1 70 4).2
                    have g476 : (-2147483648 : Int) ≤ (h413.2.1 70 5).toInt := (hv413.2.1 70 5).1
                    have g477 : (h413.2.1 70 5).toInt ≤ 2147483647 := (hv413.2.1 70 5).2
                    have g478 : (h413.2.1 70 5).toInt = u70_5.toInt := by rw [← (show u70_5 = h413.2.1 70 5 from (show u70_5 = h413.2.1 70 5 from by rw [hv413e]; exact (g_iI rfl (show u70_5 = h408.2.1 70 5 from by rw [hv408e]; exact (g_iI rfl (show u70_5 = h406.2.1 70 5 from by rw [hv406e]; exact (g_iI rfl (show u70_5 = h202.2.1 70 5 from by rw [hv202e]; exact (g_iI rfl (show u70_5 = h195.2.1 70 5 from by rw [hv195e]; exact (g_iI rfl (show u70_5 = h185.2.1 70 5 from by rw [hv185e]; exact (g_iI rfl (show u70_5 = h60.2.1 70 5 from by rw [hv60e]; exact (g_iI rfl (show u70_5 = h54.2.1 70 5 from by rw [hv54e]; exact (g_iI rfl (show u70_5 = h50.2.1 70 5 from by rw [hv50e]; exact (g_iI rfl (show u70_5 = h48.2.1 70 5 from by rw [hv48e]; exact (g_iI rfl (show u70_5 = h46.2.1 70 5 from by rw [hv46e]; exact (g_iI rfl (show u70_5 = h44.2.1 70 5 from by rw [hv44e]; exact (g_iI rfl (show u70_5 = h42.2.1 70 5 from by rw [hv42e]; exact (g_iI rfl (show u70_5 = h40.2.1 70 5 from by rw [hv40e]; exact (g_iI rfl (show u70_5 = h38.2.1 70 5 from by rw [hv38e]; exact (g_iI rfl (show u70_5 = h36.2.1 70 5 from by rw [hv36e]; exact (g_iI rfl (show u70_5 = h33.2.1 70 5 from by rw [hv33e]; exact (g_iI rfl (show u70_5 = h31.2.1 70 5 from by rw [hv31e]; exact (g_iI rfl (show u70_5 = h29.2.1 70 5 from by rw [hv29e]; exact (g_iI rfl (show u70_5 = h27.2.1 70 5 from by rw [hv27e]; exact (g_iI rfl (show u70_5 = h25.2.1 70 5 from by rw [hv25e]; exact (g_iI rfl u70_5w.symm).symm).symm).symm).symm).symm).symm).symm).symm).symm).symm).symm).symm).symm).symm).symm).symm).symm).symm).symm).symm).symm).symm).symm).symm).symm).symm).symm).symm).symm).symm).symm).symm).symm).symm).symm).symm).symm).symm).symm).symm).symm))] <;> exact (ti_rfl u70_5)
                    have g479 : (h413.2.1 70 4).toInt = (u70_4.toInt + 1) := by rw [← (show v411 = h413.2.1 70 4 from (show v411 = h413.2.1 70 4 from by rw [hv413e]; exact g_iS.symm))] <;> exact e412
                    refine go_invV (pc := 407) (sl := 0) (s_X8_readEnd_f l (d + 0) hv413 v18 (by rw [show (v18 : Int32).toInt = ((130 * v11.toInt) + v16.toInt) from e19]; omega) (by rw [show (v18 : Int32).toInt = ((130 * v11.toInt) + v16.toInt) from e19]; omega) (by rw [sM473]; exact (by omega))) mL_X8_215 iM_X8_readEnd sM_X8_readEnd (hv413.sh rfl) rfl rfl rfl (Nat.le_of_ble_eq_true rfl) (show d + 0 + 4 + 1 ≤ d + 5 by omega) (show 8 + (2 + 11) + 40 * (d + 0 + 4) ≤ 40 * (d + 5) by omega) (g_c0 hv413.ln) (Nat.le_of_ble_eq_true rfl) dX8_readItem_407 ?_
                    intro r h480 hq _
                    obtain ⟨rfl, ⟨Q481, hv480, sq482⟩, f483, f484, f485, f486, f487, f488, f489, f490, f491, f492, f493⟩ := hq
                    rw [sM473] at f485
                    rw [sM473] at f486
                    rw [sM473] at f487
                    rw [sM473] at f488
                    rw [sM473] at f492
                    have oh480 : OH h.2.1 h480.2.1 S := oh413.trans f492
                    have kp480 : KP h.2.1 h480.2.1 := kp413.trans f491
                    have ck480 : CKF h.2.1 → CKF h480.2.1 := fun z => f493 (ck413 z)
                    have fx480 : FX KRt h h480 := FX.tr fx413 f490
                    rw [show (v18 : Int32).toInt = ((130 * v11.toInt) + v16.toInt) from e19] at f489
                    have k494 := bd_e k464 f489.symm
                    obtain ⟨u495, u495w⟩ : ∃ v : Int32, v = h480.2.1 70 4 := ⟨_, rfl⟩
                    have u495e : (h480.2.1 70 4).toInt = u495.toInt := by rw [u495w]
                    have u495l : 0 ≤ u495.toInt := by rw [u495w]; exact (hv480.2.1 70 4).1
                    have u495u : u495.toInt ≤ 500 := by rw [u495w]; exact (hv480.2.1 70 4).2
                    have k496 := k494
                    obtain ⟨u497, u497w⟩ : ∃ v : Int32, v = h480.2.1 70 5 := ⟨_, rfl⟩
                    have u497e : (h480.2.1 70 5).toInt = u497.toInt := by rw [u497w]
                    have u497l : -2147483648 ≤ u497.toInt := by rw [u497w]; exact (hv480.2.1 70 5).1
                    have u497u : u497.toInt ≤ 2147483647 := by rw [u497w]; exact (hv480.2.1 70 5).2
                    have k498 := k496
                    have g499 : (0 : Int) ≤ (h480.2.1 70 4).toInt := (hv480.2.1 70 4).1
                    have g500 : (h480.2.1 70 4).toInt ≤ 500 := (hv480.2.1 70 4).2
                    have g501 : (-2147483648 : Int) ≤ (h480.2.1 70 5).toInt := (hv480.2.1 70 5).1
                    have g502 : (h480.2.1 70 5).toInt ≤ 2147483647 := (hv480.2.1 70 5).2
                    have g503 : (h480.2.1 70 4).toInt = u495.toInt := by rw [← (show u495 = h480.2.1 70 4 from u495w)] <;> exact (ti_rfl u495)
                    have g504 : (h480.2.1 70 5).toInt = u497.toInt := by rw [← (show u497 = h480.2.1 70 5 from u497w)] <;> exact (ti_rfl u497)
                    have pp505 : (h480.2.1 70 5).toInt = 0 → (h.2.1 70 5).toInt = 0 := (by omega)
                    have pp506 : (h.2.1 70 4).toInt ≤ (h480.2.1 70 4).toInt := (by omega)
                    have pp507 : (h480.2.1 70 5).toInt = 0 → (h.2.1 70 4).toInt + 1 ≤ (h480.2.1 70 4).toInt ∧ 6 * (V h480.2.1 73 S - V h480.2.1 75 S) - (h480.2.1 70 4).toInt ≤ 6 * (V h.2.1 73 S - V h.2.1 75 S) - (h.2.1 70 4).toInt ∧ 2 * V h480.2.1 74 S - (h480.2.1 70 4).toInt ≤ 2 * V h.2.1 74 S - (h.2.1 70 4).toInt := (by omega)
                    have pp508 : (h480.2.1 70 5).toInt = 0 → RI h.2.1 h480.2.1 S a2.toInt a4.toInt := (fun hg => by rw [← x1]; exact RI.of S0 ni (by rw [← ze, ← x3]; exact (f488 (by omega) l3.toInt (by rw [ze]; omega) (by rw [ze]; omega) (by rw [ze]; omega))))
                    have pp509 : st h480 = f_X8_readItem_b g_X8_readTest g_X8_readTry (st h) a2.toInt a3.toInt a4.toInt := (k498.symm.trans kf)
                    have pp510 : FX KRt h h480 := fx480
                    subst hS
                    exact gi_vret (pc := 410) ⟨rfl, ⟨_, hv480, (MW.trans (MW.trans (MW.trans (MW.trans (MW.trans (MW.trans (MW.trans (MW.trans (MW.trans (MW.trans (MW.trans (MW.trans (MW.trans (MW.trans (MW.trans (MW.trans (MW.trans (MW.trans (MW.trans (MW.trans (MW.trans sqx (MW.mz _ _)) (MW.mz _ _)) (MW.mz _ _)) (MW.mz _ _)) (MW.mz _ _)) (MW.mz _ _)) (MW.mz _ _)) (MW.mz _ _)) (MW.mz _ _)) (MW.mz _ _)) (MW.mz _ _)) (MW.mz _ _)) (MW.mz _ _)) (MW.mz _ _)) (MW.mz _ _)) (MW.mz _ _)) (MW.mz _ _)) (MW.mz _ _)) (MW.mz _ _)) (MW.mz _ _)) sq482)⟩, pp505, pp506, pp507, pp508, pp509, pp510, kp480, oh480, ck480⟩ hv480 dX8_readItem_410
                  ·
                    have k511 := if_f k462 (fun z => z q463)
                    refine go_aload_n (pc := 375) rfl dX8_readItem_375 ?_
                    refine go_iload (pc := 376) rfl dX8_readItem_376 ?_
                    refine go_iload_n (pc := 378) rfl dX8_readItem_378 ?_
                    refine go_iload_n (pc := 379) rfl dX8_readItem_379 ?_
                    have EG : h408.2.1 = (w1 (w1 (w1 (w1 (w1 (w1 (w1 (w1 (w1 (w1 (w1 (w1 (w1 (w1 (w1 (w1 (w1 (w1 (w1 (w1 hx.2.1 73 S (v23 : Int32)) 77 (((130 * S) + v16.toInt)) (l5 : Int32)) 78 (((130 * S) + v16.toInt)) ((-1) : Int32)) 79 (((130 * S) + v16.toInt)) (l2 : Int32)) 80 (((130 * S) + v16.toInt)) (l3 : Int32)) 81 (((130 * S) + v16.toInt)) (v35 : Int32)) 82 (((130 * S) + v16.toInt)) (l4 : Int32)) 83 (((130 * S) + v16.toInt)) (0 : Int32)) 84 (((130 * S) + v16.toInt)) ((-2) : Int32)) 85 (((130 * S) + v16.toInt)) ((-1) : Int32)) 86 (((130 * S) + v16.toInt)) ((-1) : Int32)) 87 (((130 * S) + v16.toInt)) ((-1) : Int32)) 88 (((130 * S) + v16.toInt)) (l1 : Int32)) 89 ((2 * ((130 * S) + v16.toInt))) (0 : Int32)) 89 (((2 * ((130 * S) + v16.toInt)) + 1)) (0 : Int32)) 78 (((130 * S) + v16.toInt)) (v183 : Int32)) 93 (((40 * S) + v191.toInt)) (v18 : Int32)) 75 S (v200 : Int32)) 90 l1.toInt (v18 : Int32)) 91 l1.toInt (v18 : Int32)) := by rw [E408, E202, E195, E185, E60]
                    have z512 : (v23 : Int32).toInt = (v21.toInt + 1) := e24
                    have z513 : ((-1) : Int32).toInt = (-1) := (ti_c (v := (-1)) (a := (-1)) (by decide))
                    have z514 : (v35 : Int32).toInt = u70_4.toInt := v35q
                    have z515 : (0 : Int32).toInt = 0 := (ti_c (v := 0) (a := 0) (by decide))
                    have z516 : ((-2) : Int32).toInt = (-2) := (ti_c (v := (-2)) (a := (-2)) (by decide))
                    have z517 : (v18 : Int32).toInt = ((130 * v11.toInt) + v16.toInt) := e19
                    have z518 : (v200 : Int32).toInt = (v198.toInt + 1) := e201
                    have y73 : V hx.2.1 73 S = V h.2.1 73 S := xve.v (by omega) (by omega)
                    have y75 : V hx.2.1 75 S = V h.2.1 75 S := xve.v (by omega) (by omega)
                    have ni : NI h.2.1 h413.2.1 S l1.toInt a4.toInt (((130 * S) + v16.toInt)) l5.toInt l4.toInt := NI.cr00 (its := l5.toInt) (nm := l4.toInt) S0 xve EG ve413 (by omega) (by omega) (by omega) (by omega) (by first | omega | decide) (by omega) (by decide) (by decide) (by decide) (by omega) (by decide) (by decide) (by omega) (by omega) (by omega) (by omega) (by omega) (by omega) (by omega) (by omega) (by omega) (by omega) (by omega) (by omega)
                    obtain ⟨i1, i2, i3, i4, i5, i6, i7, i8⟩ := ni (ht.1) (by rw [x1]; exact ht.2.1) (by rw [x1]; exact ht.2.2)
                    have ze : (v18 : Int32).toInt = ((130 * S) + v16.toInt) := by rw [show (v18 : Int32).toInt = ((130 * v11.toInt) + v16.toInt) from e19]; omega
                    have sM519 : (h413.2.1 70 6).toInt = S := (congrArg Int32.toInt oh413.side).trans hS.symm
                    have g520 : (0 : Int) ≤ (h413.2.1 70 4).toInt := (hv413.2.1 70 4).1
                    have g521 : (h413.2.1 70 4).toInt ≤ 500 := (hv413.2.1 70 4).2
                    have g522 : (-2147483648 : Int) ≤ (h413.2.1 70 5).toInt := (hv413.2.1 70 5).1
                    have g523 : (h413.2.1 70 5).toInt ≤ 2147483647 := (hv413.2.1 70 5).2
                    have g524 : (h413.2.1 70 5).toInt = u70_5.toInt := by rw [← (show u70_5 = h413.2.1 70 5 from (show u70_5 = h413.2.1 70 5 from by rw [hv413e]; exact (g_iI rfl (show u70_5 = h408.2.1 70 5 from by rw [hv408e]; exact (g_iI rfl (show u70_5 = h406.2.1 70 5 from by rw [hv406e]; exact (g_iI rfl (show u70_5 = h202.2.1 70 5 from by rw [hv202e]; exact (g_iI rfl (show u70_5 = h195.2.1 70 5 from by rw [hv195e]; exact (g_iI rfl (show u70_5 = h185.2.1 70 5 from by rw [hv185e]; exact (g_iI rfl (show u70_5 = h60.2.1 70 5 from by rw [hv60e]; exact (g_iI rfl (show u70_5 = h54.2.1 70 5 from by rw [hv54e]; exact (g_iI rfl (show u70_5 = h50.2.1 70 5 from by rw [hv50e]; exact (g_iI rfl (show u70_5 = h48.2.1 70 5 from by rw [hv48e]; exact (g_iI rfl (show u70_5 = h46.2.1 70 5 from by rw [hv46e]; exact (g_iI rfl (show u70_5 = h44.2.1 70 5 from by rw [hv44e]; exact (g_iI rfl (show u70_5 = h42.2.1 70 5 from by rw [hv42e]; exact (g_iI rfl (show u70_5 = h40.2.1 70 5 from by rw [hv40e]; exact (g_iI rfl (show u70_5 = h38.2.1 70 5 from by rw [hv38e]; exact (g_iI rfl (show u70_5 = h36.2.1 70 5 from by rw [hv36e]; exact (g_iI rfl (show u70_5 = h33.2.1 70 5 from by rw [hv33e]; exact (g_iI rfl (show u70_5 = h31.2.1 70 5 from by rw [hv31e]; exact (g_iI rfl (show u70_5 = h29.2.1 70 5 from by rw [hv29e]; exact (g_iI rfl (show u70_5 = h27.2.1 70 5 from by rw [hv27e]; exact (g_iI rfl (show u70_5 = h25.2.1 70 5 from by rw [hv25e]; exact (g_iI rfl u70_5w.symm).symm).symm).symm).symm).symm).symm).symm).symm).symm).symm).symm).symm).symm).symm).symm).symm).symm).symm).symm).symm).symm).symm).symm).symm).symm).symm).symm).symm).symm).symm).symm).symm).symm).symm).symm).symm).symm).symm).symm).symm).symm))] <;> exact (ti_rfl u70_5)
                    have g525 : (h413.2.1 70 4).toInt = (u70_4.toInt + 1) := by rw [← (show v411 = h413.2.1 70 4 from (show v411 = h413.2.1 70 4 from by rw [hv413e]; exact g_iS.symm))] <;> exact e412
                    refine go_invV (pc := 380) (sl := 0) (ihT hv413 v18 (by rw [show (v18 : Int32).toInt = ((130 * v11.toInt) + v16.toInt) from e19]; omega) (by rw [show (v18 : Int32).toInt = ((130 * v11.toInt) + v16.toInt) from e19]; omega) l2 (by rw [show (l2 : Int32).toInt = l2.toInt from (ti_rfl l2)]; omega) (by rw [show (l2 : Int32).toInt = l2.toInt from (ti_rfl l2)]; omega) l3 (by rw [show (l3 : Int32).toInt = l3.toInt from (ti_rfl l3)]; omega) (by rw [show (l3 : Int32).toInt = l3.toInt from (ti_rfl l3)]; omega) (by rw [sM519]; exact (by omega)) (by omega) (by rw [sM519]; exact (by omega)) (by rw [sM519]; exact ⟨i1, by omega, by omega, by rw [ze, x3]; exact i6, by rw [ze]; omega⟩) (by omega)) mL_X8_209 iM_X8_readTest sM_X8_readTest (hv413.sh rfl) rfl rfl rfl (Nat.le_of_ble_eq_true rfl) (show d + 4 + 1 ≤ d + 5 by omega) (show 8 + (4 + 11) + 40 * (d + 4) ≤ 40 * (d + 5) by omega) (g_c0 hv413.ln) (Nat.le_of_ble_eq_true rfl) dX8_readItem_380 ?_
                    intro r h526 hq _
                    obtain ⟨rfl, ⟨Q527, hv526, sq528⟩, f529, f530, f531, f532, f533, f534, f535, f536, f537⟩ := hq
                    rw [sM519] at f531
                    rw [sM519] at f532
                    rw [sM519] at f536
                    have oh526 : OH h.2.1 h526.2.1 S := oh413.trans f536
                    have kp526 : KP h.2.1 h526.2.1 := kp413.trans f535
                    have ck526 : CKF h.2.1 → CKF h526.2.1 := fun z => f537 (ck413 z)
                    have fx526 : FX KRt h h526 := FX.tr fx413 f534
                    rw [show (v18 : Int32).toInt = ((130 * v11.toInt) + v16.toInt) from e19] at f533
                    have k538 := bd_e k511 f533.symm
                    obtain ⟨u539, u539w⟩ : ∃ v : Int32, v = h526.2.1 70 4 := ⟨_, rfl⟩
                    have u539e : (h526.2.1 70 4).toInt = u539.toInt := by rw [u539w]
                    have u539l : 0 ≤ u539.toInt := by rw [u539w]; exact (hv526.2.1 70 4).1
                    have u539u : u539.toInt ≤ 500 := by rw [u539w]; exact (hv526.2.1 70 4).2
                    have k540 := k538
                    obtain ⟨u541, u541w⟩ : ∃ v : Int32, v = h526.2.1 70 5 := ⟨_, rfl⟩
                    have u541e : (h526.2.1 70 5).toInt = u541.toInt := by rw [u541w]
                    have u541l : -2147483648 ≤ u541.toInt := by rw [u541w]; exact (hv526.2.1 70 5).1
                    have u541u : u541.toInt ≤ 2147483647 := by rw [u541w]; exact (hv526.2.1 70 5).2
                    have k542 := k540
                    refine go_goto (pc := 383) (tgt := 410) (by decide) dX8_readItem_383 ?_
                    have g543 : (0 : Int) ≤ (h526.2.1 70 4).toInt := (hv526.2.1 70 4).1
                    have g544 : (h526.2.1 70 4).toInt ≤ 500 := (hv526.2.1 70 4).2
                    have g545 : (-2147483648 : Int) ≤ (h526.2.1 70 5).toInt := (hv526.2.1 70 5).1
                    have g546 : (h526.2.1 70 5).toInt ≤ 2147483647 := (hv526.2.1 70 5).2
                    have g547 : (h526.2.1 70 4).toInt = u539.toInt := by rw [← (show u539 = h526.2.1 70 4 from u539w)] <;> exact (ti_rfl u539)
                    have g548 : (h526.2.1 70 5).toInt = u541.toInt := by rw [← (show u541 = h526.2.1 70 5 from u541w)] <;> exact (ti_rfl u541)
                    have pp549 : (h526.2.1 70 5).toInt = 0 → (h.2.1 70 5).toInt = 0 := (by omega)
                    have pp550 : (h.2.1 70 4).toInt ≤ (h526.2.1 70 4).toInt := (by omega)
                    have pp551 : (h526.2.1 70 5).toInt = 0 → (h.2.1 70 4).toInt + 1 ≤ (h526.2.1 70 4).toInt ∧ 6 * (V h526.2.1 73 S - V h526.2.1 75 S) - (h526.2.1 70 4).toInt ≤ 6 * (V h.2.1 73 S - V h.2.1 75 S) - (h.2.1 70 4).toInt ∧ 2 * V h526.2.1 74 S - (h526.2.1 70 4).toInt ≤ 2 * V h.2.1 74 S - (h.2.1 70 4).toInt := (by omega)
                    have pp552 : (h526.2.1 70 5).toInt = 0 → RI h.2.1 h526.2.1 S a2.toInt a4.toInt := (fun hg => by rw [← x1]; exact RI.of S0 ni (by rw [← ze, ← x3]; exact (f532 (by omega))))
                    have pp553 : st h526 = f_X8_readItem_b g_X8_readTest g_X8_readTry (st h) a2.toInt a3.toInt a4.toInt := (k542.symm.trans kf)
                    have pp554 : FX KRt h h526 := fx526
                    subst hS
                    exact gi_vret (pc := 410) ⟨rfl, ⟨_, hv526, (MW.trans (MW.trans (MW.trans (MW.trans (MW.trans (MW.trans (MW.trans (MW.trans (MW.trans (MW.trans (MW.trans (MW.trans (MW.trans (MW.trans (MW.trans (MW.trans (MW.trans (MW.trans (MW.trans (MW.trans (MW.trans sqx (MW.mz _ _)) (MW.mz _ _)) (MW.mz _ _)) (MW.mz _ _)) (MW.mz _ _)) (MW.mz _ _)) (MW.mz _ _)) (MW.mz _ _)) (MW.mz _ _)) (MW.mz _ _)) (MW.mz _ _)) (MW.mz _ _)) (MW.mz _ _)) (MW.mz _ _)) (MW.mz _ _)) (MW.mz _ _)) (MW.mz _ _)) (MW.mz _ _)) (MW.mz _ _)) (MW.mz _ _)) sq528)⟩, pp549, pp550, pp551, pp552, pp553, pp554, kp526, oh526, ck526⟩ hv526 dX8_readItem_410
              ·
                have k555 := if_f k414 (fun z => z q415)
                refine go_aload_n (pc := 352) rfl dX8_readItem_352 ?_
                refine go_iload (pc := 353) rfl dX8_readItem_353 ?_
                refine go_iload (pc := 355) rfl dX8_readItem_355 ?_
                have EG : h408.2.1 = (w1 (w1 (w1 (w1 (w1 (w1 (w1 (w1 (w1 (w1 (w1 (w1 (w1 (w1 (w1 (w1 (w1 (w1 (w1 (w1 hx.2.1 73 S (v23 : Int32)) 77 (((130 * S) + v16.toInt)) (l5 : Int32)) 78 (((130 * S) + v16.toInt)) ((-1) : Int32)) 79 (((130 * S) + v16.toInt)) (l2 : Int32)) 80 (((130 * S) + v16.toInt)) (l3 : Int32)) 81 (((130 * S) + v16.toInt)) (v35 : Int32)) 82 (((130 * S) + v16.toInt)) (l4 : Int32)) 83 (((130 * S) + v16.toInt)) (0 : Int32)) 84 (((130 * S) + v16.toInt)) ((-2) : Int32)) 85 (((130 * S) + v16.toInt)) ((-1) : Int32)) 86 (((130 * S) + v16.toInt)) ((-1) : Int32)) 87 (((130 * S) + v16.toInt)) ((-1) : Int32)) 88 (((130 * S) + v16.toInt)) (l1 : Int32)) 89 ((2 * ((130 * S) + v16.toInt))) (0 : Int32)) 89 (((2 * ((130 * S) + v16.toInt)) + 1)) (0 : Int32)) 78 (((130 * S) + v16.toInt)) (v183 : Int32)) 93 (((40 * S) + v191.toInt)) (v18 : Int32)) 75 S (v200 : Int32)) 90 l1.toInt (v18 : Int32)) 91 l1.toInt (v18 : Int32)) := by rw [E408, E202, E195, E185, E60]
                have z556 : (v23 : Int32).toInt = (v21.toInt + 1) := e24
                have z557 : ((-1) : Int32).toInt = (-1) := (ti_c (v := (-1)) (a := (-1)) (by decide))
                have z558 : (v35 : Int32).toInt = u70_4.toInt := v35q
                have z559 : (0 : Int32).toInt = 0 := (ti_c (v := 0) (a := 0) (by decide))
                have z560 : ((-2) : Int32).toInt = (-2) := (ti_c (v := (-2)) (a := (-2)) (by decide))
                have z561 : (v18 : Int32).toInt = ((130 * v11.toInt) + v16.toInt) := e19
                have z562 : (v200 : Int32).toInt = (v198.toInt + 1) := e201
                have y73 : V hx.2.1 73 S = V h.2.1 73 S := xve.v (by omega) (by omega)
                have y75 : V hx.2.1 75 S = V h.2.1 75 S := xve.v (by omega) (by omega)
                have ni : NI h.2.1 h413.2.1 S l1.toInt a4.toInt (((130 * S) + v16.toInt)) l5.toInt l4.toInt := NI.cr00 (its := l5.toInt) (nm := l4.toInt) S0 xve EG ve413 (by omega) (by omega) (by omega) (by omega) (by first | omega | decide) (by omega) (by decide) (by decide) (by decide) (by omega) (by decide) (by decide) (by omega) (by omega) (by omega) (by omega) (by omega) (by omega) (by omega) (by omega) (by omega) (by omega) (by omega) (by omega)
                obtain ⟨i1, i2, i3, i4, i5, i6, i7, i8⟩ := ni (ht.1) (by rw [x1]; exact ht.2.1) (by rw [x1]; exact ht.2.2)
                have ze : (v18 : Int32).toInt = ((130 * S) + v16.toInt) := by rw [show (v18 : Int32).toInt = ((130 * v11.toInt) + v16.toInt) from e19]; omega
                have sM563 : (h413.2.1 70 6).toInt = S := (congrArg Int32.toInt oh413.side).trans hS.symm
                have g564 : (0 : Int) ≤ (h413.2.1 70 4).toInt := (hv413.2.1 70 4).1
                have g565 : (h413.2.1 70 4).toInt ≤ 500 := (hv413.2.1 70 4).2
                have g566 : (-2147483648 : Int) ≤ (h413.2.1 70 5).toInt := (hv413.2.1 70 5).1
                have g567 : (h413.2.1 70 5).toInt ≤ 2147483647 := (hv413.2.1 70 5).2
                have g568 : (h413.2.1 70 5).toInt = u70_5.toInt := by rw [← (show u70_5 = h413.2.1 70 5 from (show u70_5 = h413.2.1 70 5 from by rw [hv413e]; exact (g_iI rfl (show u70_5 = h408.2.1 70 5 from by rw [hv408e]; exact (g_iI rfl (show u70_5 = h406.2.1 70 5 from by rw [hv406e]; exact (g_iI rfl (show u70_5 = h202.2.1 70 5 from by rw [hv202e]; exact (g_iI rfl (show u70_5 = h195.2.1 70 5 from by rw [hv195e]; exact (g_iI rfl (show u70_5 = h185.2.1 70 5 from by rw [hv185e]; exact (g_iI rfl (show u70_5 = h60.2.1 70 5 from by rw [hv60e]; exact (g_iI rfl (show u70_5 = h54.2.1 70 5 from by rw [hv54e]; exact (g_iI rfl (show u70_5 = h50.2.1 70 5 from by rw [hv50e]; exact (g_iI rfl (show u70_5 = h48.2.1 70 5 from by rw [hv48e]; exact (g_iI rfl (show u70_5 = h46.2.1 70 5 from by rw [hv46e]; exact (g_iI rfl (show u70_5 = h44.2.1 70 5 from by rw [hv44e]; exact (g_iI rfl (show u70_5 = h42.2.1 70 5 from by rw [hv42e]; exact (g_iI rfl (show u70_5 = h40.2.1 70 5 from by rw [hv40e]; exact (g_iI rfl (show u70_5 = h38.2.1 70 5 from by rw [hv38e]; exact (g_iI rfl (show u70_5 = h36.2.1 70 5 from by rw [hv36e]; exact (g_iI rfl (show u70_5 = h33.2.1 70 5 from by rw [hv33e]; exact (g_iI rfl (show u70_5 = h31.2.1 70 5 from by rw [hv31e]; exact (g_iI rfl (show u70_5 = h29.2.1 70 5 from by rw [hv29e]; exact (g_iI rfl (show u70_5 = h27.2.1 70 5 from by rw [hv27e]; exact (g_iI rfl (show u70_5 = h25.2.1 70 5 from by rw [hv25e]; exact (g_iI rfl u70_5w.symm).symm).symm).symm).symm).symm).symm).symm).symm).symm).symm).symm).symm).symm).symm).symm).symm).symm).symm).symm).symm).symm).symm).symm).symm).symm).symm).symm).symm).symm).symm).symm).symm).symm).symm).symm).symm).symm).symm).symm).symm).symm))] <;> exact (ti_rfl u70_5)
                have g569 : (h413.2.1 70 4).toInt = (u70_4.toInt + 1) := by rw [← (show v411 = h413.2.1 70 4 from (show v411 = h413.2.1 70 4 from by rw [hv413e]; exact g_iS.symm))] <;> exact e412
                refine go_invV (pc := 357) (sl := 0) (s_X8_readSet_f l (d + 0) hv413 v18 (by rw [show (v18 : Int32).toInt = ((130 * v11.toInt) + v16.toInt) from e19]; omega) (by rw [show (v18 : Int32).toInt = ((130 * v11.toInt) + v16.toInt) from e19]; omega) l4 (by rw [show (l4 : Int32).toInt = l4.toInt from (ti_rfl l4)]; omega) (by rw [show (l4 : Int32).toInt = l4.toInt from (ti_rfl l4)]; omega) (by rw [sM563]; exact (by omega))) mL_X8_205 iM_X8_readSet sM_X8_readSet (hv413.sh rfl) rfl rfl rfl (Nat.le_of_ble_eq_true rfl) (show d + 0 + 4 + 1 ≤ d + 5 by omega) (show 8 + (3 + 11) + 40 * (d + 0 + 4) ≤ 40 * (d + 5) by omega) (g_c0 hv413.ln) (Nat.le_of_ble_eq_true rfl) dX8_readItem_357 ?_
                intro r h570 hq _
                obtain ⟨rfl, ⟨Q571, hv570, sq572⟩, f573, f574, f575, f576, f577, f578, f579, f580, f581, f582, f583⟩ := hq
                rw [sM563] at f575
                rw [sM563] at f576
                rw [sM563] at f577
                rw [sM563] at f578
                rw [sM563] at f582
                have oh570 : OH h.2.1 h570.2.1 S := oh413.trans f582
                have kp570 : KP h.2.1 h570.2.1 := kp413.trans f581
                have ck570 : CKF h.2.1 → CKF h570.2.1 := fun z => f583 (ck413 z)
                have fx570 : FX KRt h h570 := FX.tr fx413 f580
                rw [show (v18 : Int32).toInt = ((130 * v11.toInt) + v16.toInt) from e19] at f579
                have k584 := bd_e k555 f579.symm
                obtain ⟨u585, u585w⟩ : ∃ v : Int32, v = h570.2.1 70 4 := ⟨_, rfl⟩
                have u585e : (h570.2.1 70 4).toInt = u585.toInt := by rw [u585w]
                have u585l : 0 ≤ u585.toInt := by rw [u585w]; exact (hv570.2.1 70 4).1
                have u585u : u585.toInt ≤ 500 := by rw [u585w]; exact (hv570.2.1 70 4).2
                have k586 := k584
                obtain ⟨u587, u587w⟩ : ∃ v : Int32, v = h570.2.1 70 5 := ⟨_, rfl⟩
                have u587e : (h570.2.1 70 5).toInt = u587.toInt := by rw [u587w]
                have u587l : -2147483648 ≤ u587.toInt := by rw [u587w]; exact (hv570.2.1 70 5).1
                have u587u : u587.toInt ≤ 2147483647 := by rw [u587w]; exact (hv570.2.1 70 5).2
                have k588 := k586
                refine go_goto (pc := 360) (tgt := 410) (by decide) dX8_readItem_360 ?_
                have g589 : (0 : Int) ≤ (h570.2.1 70 4).toInt := (hv570.2.1 70 4).1
                have g590 : (h570.2.1 70 4).toInt ≤ 500 := (hv570.2.1 70 4).2
                have g591 : (-2147483648 : Int) ≤ (h570.2.1 70 5).toInt := (hv570.2.1 70 5).1
                have g592 : (h570.2.1 70 5).toInt ≤ 2147483647 := (hv570.2.1 70 5).2
                have g593 : (h570.2.1 70 4).toInt = u585.toInt := by rw [← (show u585 = h570.2.1 70 4 from u585w)] <;> exact (ti_rfl u585)
                have g594 : (h570.2.1 70 5).toInt = u587.toInt := by rw [← (show u587 = h570.2.1 70 5 from u587w)] <;> exact (ti_rfl u587)
                have pp595 : (h570.2.1 70 5).toInt = 0 → (h.2.1 70 5).toInt = 0 := (by omega)
                have pp596 : (h.2.1 70 4).toInt ≤ (h570.2.1 70 4).toInt := (by omega)
                have pp597 : (h570.2.1 70 5).toInt = 0 → (h.2.1 70 4).toInt + 1 ≤ (h570.2.1 70 4).toInt ∧ 6 * (V h570.2.1 73 S - V h570.2.1 75 S) - (h570.2.1 70 4).toInt ≤ 6 * (V h.2.1 73 S - V h.2.1 75 S) - (h.2.1 70 4).toInt ∧ 2 * V h570.2.1 74 S - (h570.2.1 70 4).toInt ≤ 2 * V h.2.1 74 S - (h.2.1 70 4).toInt := (by omega)
                have pp598 : (h570.2.1 70 5).toInt = 0 → RI h.2.1 h570.2.1 S a2.toInt a4.toInt := (fun hg => by rw [← x1]; exact RI.of S0 ni (by rw [← ze, ← x3]; exact (f578 (by omega) l3.toInt (by rw [ze]; omega) (by rw [ze]; omega))))
                have pp599 : st h570 = f_X8_readItem_b g_X8_readTest g_X8_readTry (st h) a2.toInt a3.toInt a4.toInt := (k588.symm.trans kf)
                have pp600 : FX KRt h h570 := fx570
                subst hS
                exact gi_vret (pc := 410) ⟨rfl, ⟨_, hv570, (MW.trans (MW.trans (MW.trans (MW.trans (MW.trans (MW.trans (MW.trans (MW.trans (MW.trans (MW.trans (MW.trans (MW.trans (MW.trans (MW.trans (MW.trans (MW.trans (MW.trans (MW.trans (MW.trans (MW.trans (MW.trans sqx (MW.mz _ _)) (MW.mz _ _)) (MW.mz _ _)) (MW.mz _ _)) (MW.mz _ _)) (MW.mz _ _)) (MW.mz _ _)) (MW.mz _ _)) (MW.mz _ _)) (MW.mz _ _)) (MW.mz _ _)) (MW.mz _ _)) (MW.mz _ _)) (MW.mz _ _)) (MW.mz _ _)) (MW.mz _ _)) (MW.mz _ _)) (MW.mz _ _)) (MW.mz _ _)) (MW.mz _ _)) sq572)⟩, pp595, pp596, pp597, pp598, pp599, pp600, kp570, oh570, ck570⟩ hv570 dX8_readItem_410
        ·
          have k601 := if_f k8 (fun z => z q9)
          have g602 : (0 : Int) ≤ (hx.2.1 70 4).toInt := (hvx.2.1 70 4).1
          have g603 : (hx.2.1 70 4).toInt ≤ 500 := (hvx.2.1 70 4).2
          have g604 : (-2147483648 : Int) ≤ (hx.2.1 70 5).toInt := (hvx.2.1 70 5).1
          have g605 : (hx.2.1 70 5).toInt ≤ 2147483647 := (hvx.2.1 70 5).2
          have g606 : (hx.2.1 70 4).toInt = u70_4.toInt := by rw [← (show u70_4 = hx.2.1 70 4 from u70_4w)] <;> exact (ti_rfl u70_4)
          have g607 : (hx.2.1 70 5).toInt = u70_5.toInt := by rw [← (show u70_5 = hx.2.1 70 5 from u70_5w)] <;> exact (ti_rfl u70_5)
          have pp608 : (hx.2.1 70 5).toInt = 0 → (h.2.1 70 5).toInt = 0 := (by omega)
          have pp609 : (h.2.1 70 4).toInt ≤ (hx.2.1 70 4).toInt := (by omega)
          have pp610 : (hx.2.1 70 5).toInt = 0 → (h.2.1 70 4).toInt + 1 ≤ (hx.2.1 70 4).toInt ∧ 6 * (V hx.2.1 73 S - V hx.2.1 75 S) - (hx.2.1 70 4).toInt ≤ 6 * (V h.2.1 73 S - V h.2.1 75 S) - (h.2.1 70 4).toInt ∧ 2 * V hx.2.1 74 S - (hx.2.1 70 4).toInt ≤ 2 * V h.2.1 74 S - (h.2.1 70 4).toInt := (by omega)
          have pp611 : (hx.2.1 70 5).toInt = 0 → RI h.2.1 hx.2.1 S a2.toInt a4.toInt := (fun hg => absurd hg (by omega))
          have pp612 : st hx = f_X8_readItem_b g_X8_readTest g_X8_readTry (st h) a2.toInt a3.toInt a4.toInt := (k601.symm.trans kf)
          have pp613 : FX KRt h hx := fxx
          subst hS
          exact gi_vret (pc := 77) ⟨rfl, ⟨_, hvx, sqx⟩, pp608, pp609, pp610, pp611, pp612, pp613, kpx, ohx, ckx⟩ hvx dX8_readItem_77
  refine go_aload_n (pc := 0) rfl dX8_readItem_0 ?_
  refine go_iconst (pc := 1) (v := 1) (by decide) dX8_readItem_1 ?_
  have g614 : (0 : Int) ≤ (h.2.1 70 4).toInt := (hv.2.1 70 4).1
  have g615 : (h.2.1 70 4).toInt ≤ 500 := (hv.2.1 70 4).2
  have g616 : (-2147483648 : Int) ≤ (h.2.1 70 5).toInt := (hv.2.1 70 5).1
  have g617 : (h.2.1 70 5).toInt ≤ 2147483647 := (hv.2.1 70 5).2
  refine go_invV (pc := 2) (sl := 0) (s_X8_nameHere_f l (d + 2) hv 1 (by rw [show (1 : Int32).toInt = 1 from (ti_c (v := 1) (a := 1) (by decide))]; omega) (by rw [show (1 : Int32).toInt = 1 from (ti_c (v := 1) (a := 1) (by decide))]; omega)) mL_X8_183 iM_X8_nameHere sM_X8_nameHere (hv.sh rfl) rfl rfl rfl (Nat.le_of_ble_eq_true rfl) (show d + 2 + 2 + 1 ≤ d + 5 by omega) (show 8 + (3 + 11) + 40 * (d + 2 + 2) ≤ 40 * (d + 5) by omega) (g_c0 hv.ln) (Nat.le_of_ble_eq_true rfl) dX8_readItem_2 ?_
  intro r h618 hq _
  obtain ⟨v626, rfl, v626l, v626u, hv618, f619, f620, f621, f622, f623, f624, f625⟩ := hq
  try rw [show (1 : Int32).toInt = 1 from (ti_c (v := 1) (a := 1) (by decide))] at f619
  try rw [show (1 : Int32).toInt = 1 from (ti_c (v := 1) (a := 1) (by decide))] at f620
  try rw [show (1 : Int32).toInt = 1 from (ti_c (v := 1) (a := 1) (by decide))] at f621
  try rw [show (1 : Int32).toInt = 1 from (ti_c (v := 1) (a := 1) (by decide))] at f622
  try rw [show (1 : Int32).toInt = 1 from (ti_c (v := 1) (a := 1) (by decide))] at f623
  try rw [show (1 : Int32).toInt = 1 from (ti_c (v := 1) (a := 1) (by decide))] at f624
  try rw [show (1 : Int32).toInt = 1 from (ti_c (v := 1) (a := 1) (by decide))] at f625
  have fx618 : FX KRt h h618 := FX.tr fx f625
  have k627 := bd2_e k0 f624
  have ve618 : VE h.2.1 h618.2.1 := VE.of hv hv618
  have oh618 : OH h.2.1 h618.2.1 S := oh.trans (OH.of hv hv618 S)
  have kp618 : KP h.2.1 h618.2.1 := kp.trans (KP.ve ve618)
  have ck618 : CKF h.2.1 → CKF h618.2.1 := fun z => CKF.ve ve618 (ck z)
  have n73_618 : V h618.2.1 73 S = V h.2.1 73 S := ve618.v (by omega) (by omega)
  have n74_618 : V h618.2.1 74 S = V h.2.1 74 S := ve618.v (by omega) (by omega)
  have n75_618 : V h618.2.1 75 S = V h.2.1 75 S := ve618.v (by omega) (by omega)
  obtain ⟨u628, u628w⟩ : ∃ v : Int32, v = h618.2.1 70 4 := ⟨_, rfl⟩
  have u628e : (h618.2.1 70 4).toInt = u628.toInt := by rw [u628w]
  have u628l : 0 ≤ u628.toInt := by rw [u628w]; exact (hv618.2.1 70 4).1
  have u628u : u628.toInt ≤ 500 := by rw [u628w]; exact (hv618.2.1 70 4).2
  have k629 := k627
  obtain ⟨u630, u630w⟩ : ∃ v : Int32, v = h618.2.1 70 5 := ⟨_, rfl⟩
  have u630e : (h618.2.1 70 5).toInt = u630.toInt := by rw [u630w]
  have u630l : -2147483648 ≤ u630.toInt := by rw [u630w]; exact (hv618.2.1 70 5).1
  have u630u : u630.toInt ≤ 2147483647 := by rw [u630w]; exact (hv618.2.1 70 5).2
  have k631 := k629
  refine go_istore (pc := 5) (Nat.le_of_ble_eq_true rfl) dX8_readItem_5 (go_lv (lv2 := [(0, .ref 70), (1, .int a2), (2, .int a3), (3, .int a4), (4, .int v626)]) rfl ?_)
  refine go_iload (pc := 7) rfl dX8_readItem_7 ?_
  refine go_iconst (pc := 9) (v := (-1)) (by decide) dX8_readItem_9 ?_
  refine gf_icmp_eq (pc := 10) (tgt := 17) (ti_rfl v626) (ti_c (v := (-1)) (a := (-1)) (by decide)) (by decide) dX8_readItem_10 (fun q632 => ?_) (fun q632 => ?_)
  ·
    have k633 := if_t k631 q632
    refine go_aload_n (pc := 17) rfl dX8_readItem_17 ?_
    have g634 : (0 : Int) ≤ (h618.2.1 70 4).toInt := (hv618.2.1 70 4).1
    have g635 : (h618.2.1 70 4).toInt ≤ 500 := (hv618.2.1 70 4).2
    have g636 : (-2147483648 : Int) ≤ (h618.2.1 70 5).toInt := (hv618.2.1 70 5).1
    have g637 : (h618.2.1 70 5).toInt ≤ 2147483647 := (hv618.2.1 70 5).2
    have g638 : (h618.2.1 70 4).toInt = u628.toInt := by rw [← (show u628 = h618.2.1 70 4 from u628w)] <;> exact (ti_rfl u628)
    have g639 : (h618.2.1 70 5).toInt = u630.toInt := by rw [← (show u630 = h618.2.1 70 5 from u630w)] <;> exact (ti_rfl u630)
    refine go_invV (pc := 18) (sl := 0) (s_X8_here_f l (d + 3) hv618 ) mL_X8_176 iM_X8_here sM_X8_here (hv618.sh rfl) rfl rfl rfl (Nat.le_of_ble_eq_true rfl) (show d + 3 + 1 + 1 ≤ d + 5 by omega) (show 8 + (1 + 11) + 40 * (d + 3 + 1) ≤ 40 * (d + 5) by omega) (g_c0 hv618.ln) (Nat.le_of_ble_eq_true rfl) dX8_readItem_18 ?_
    intro r h640 hq _
    obtain ⟨v647, rfl, v647l, v647u, hv640, f641, f642, f643, f644, f645, f646⟩ := hq
    have fx640 : FX KRt h h640 := FX.tr fx618 f646
    have k648 := bd2_e k633 f645
    have ve640 : VE h618.2.1 h640.2.1 := VE.of hv618 hv640
    have oh640 : OH h.2.1 h640.2.1 S := oh618.trans (OH.of hv618 hv640 S)
    have kp640 : KP h.2.1 h640.2.1 := kp618.trans (KP.ve ve640)
    have ck640 : CKF h.2.1 → CKF h640.2.1 := fun z => CKF.ve ve640 (ck618 z)
    have n73_640 : V h640.2.1 73 S = V h618.2.1 73 S := ve640.v (by omega) (by omega)
    have n74_640 : V h640.2.1 74 S = V h618.2.1 74 S := ve640.v (by omega) (by omega)
    have n75_640 : V h640.2.1 75 S = V h618.2.1 75 S := ve640.v (by omega) (by omega)
    obtain ⟨u649, u649w⟩ : ∃ v : Int32, v = h640.2.1 70 4 := ⟨_, rfl⟩
    have u649e : (h640.2.1 70 4).toInt = u649.toInt := by rw [u649w]
    have u649l : 0 ≤ u649.toInt := by rw [u649w]; exact (hv640.2.1 70 4).1
    have u649u : u649.toInt ≤ 500 := by rw [u649w]; exact (hv640.2.1 70 4).2
    have k650 := k648
    obtain ⟨u651, u651w⟩ : ∃ v : Int32, v = h640.2.1 70 5 := ⟨_, rfl⟩
    have u651e : (h640.2.1 70 5).toInt = u651.toInt := by rw [u651w]
    have u651l : -2147483648 ≤ u651.toInt := by rw [u651w]; exact (hv640.2.1 70 5).1
    have u651u : u651.toInt ≤ 2147483647 := by rw [u651w]; exact (hv640.2.1 70 5).2
    have k652 := k650
    refine go_invS (pc := 21) (sl := 0) (s_X8_kindOf_f l (d + 3) hv640 v647) mL_X8_201 iM_X8_kindOf rfl rfl (Nat.le_of_ble_eq_true rfl) (show d + 3 + 1 + 1 ≤ d + 5 by omega) (show 8 + (1 + 11) + 40 * (d + 3 + 1) ≤ 40 * (d + 5) by omega) (g_c0 hv640.ln) (Nat.le_of_ble_eq_true rfl) dX8_readItem_21 ?_
    intro r h653 hq _
    obtain ⟨v658, rfl, v658l, v658u, rfl, f654, f655, f656, f657⟩ := hq
    replace f657 : PE _ _ := f657
    have k659 := bd_e k652 f657.symm
    refine go_istore (pc := 24) (Nat.le_of_ble_eq_true rfl) dX8_readItem_24 (go_lv (lv2 := [(0, .ref 70), (1, .int a2), (2, .int a3), (3, .int a4), (4, .int v626), (5, .int v658)]) rfl ?_)
    refine go_iload (pc := 26) rfl dX8_readItem_26 ?_
    refine go_iconst (pc := 28) (v := (-1)) (by decide) dX8_readItem_28 ?_
    refine gf_icmp_ne (pc := 29) (tgt := 37) (ti_rfl v658) (ti_c (v := (-1)) (a := (-1)) (by decide)) (by decide) dX8_readItem_29 (fun q660 => ?_) (fun q660 => ?_)
    ·
      have k661 := if_t k659 q660
      refine go_aload_n (pc := 37) rfl dX8_readItem_37 ?_
      refine go_invV (pc := 38) (sl := 0) (s_X8_isGood_f l (d + 3) hv640 ) mL_X8_172 iM_X8_isGood sM_X8_isGood (hv640.sh rfl) rfl rfl rfl (Nat.le_of_ble_eq_true rfl) (show d + 3 + 1 + 1 ≤ d + 5 by omega) (show 8 + (1 + 11) + 40 * (d + 3 + 1) ≤ 40 * (d + 5) by omega) (g_c0 hv640.ln) (Nat.le_of_ble_eq_true rfl) dX8_readItem_38 ?_
      intro r h662 hq _
      obtain ⟨v666, rfl, v666l, v666u, rfl, f663, f664, f665⟩ := hq
      replace f665 : PE _ _ := f665
      have k667 := bd_e k661 f665.symm
      refine gf_if_eq (pc := 41) (tgt := 70) (ti_rfl v666) (by decide) dX8_readItem_41 (fun q668 => ?_) (fun q668 => ?_)
      ·
        have k669 := if_t k667 q668
        have g670 : (0 : Int) ≤ (h640.2.1 70 4).toInt := (hv640.2.1 70 4).1
        have g671 : (h640.2.1 70 4).toInt ≤ 500 := (hv640.2.1 70 4).2
        have g672 : (-2147483648 : Int) ≤ (h640.2.1 70 5).toInt := (hv640.2.1 70 5).1
        have g673 : (h640.2.1 70 5).toInt ≤ 2147483647 := (hv640.2.1 70 5).2
        have g674 : (h640.2.1 70 4).toInt = u649.toInt := by rw [← (show u649 = h640.2.1 70 4 from u649w)] <;> exact (ti_rfl u649)
        have g675 : (h640.2.1 70 5).toInt = u651.toInt := by rw [← (show u651 = h640.2.1 70 5 from u651w)] <;> exact (ti_rfl u651)
        exact go_lv rfl ((key 14) a2 a3 a4 v626 v658 _ h640 hv640 (MW.rfl _) (by omega) (by omega) (by omega) (by omega) (by omega) (by omega) (by omega) (by omega) (by omega) (by omega) (ve618.trans ve640) (by omega) (by omega) (by omega) (by omega) (by omega) oh640 ck640 kp640 (by omega) (by omega) (by omega) (by omega) fx640 k669 (by omega))
      ·
        have k676 := if_f k667 q668
        refine go_iload (pc := 44) rfl dX8_readItem_44 ?_
        refine go_bipush (pc := 46) (v := 6) (by decide) dX8_readItem_46 ?_
        refine gf_icmp_eq (pc := 48) (tgt := 70) (ti_rfl v658) (ti_c (v := 6) (a := 6) (by decide)) (by decide) dX8_readItem_48 (fun q677 => ?_) (fun q677 => ?_)
        ·
          have k678 := if_t k676 q677
          have g679 : (0 : Int) ≤ (h640.2.1 70 4).toInt := (hv640.2.1 70 4).1
          have g680 : (h640.2.1 70 4).toInt ≤ 500 := (hv640.2.1 70 4).2
          have g681 : (-2147483648 : Int) ≤ (h640.2.1 70 5).toInt := (hv640.2.1 70 5).1
          have g682 : (h640.2.1 70 5).toInt ≤ 2147483647 := (hv640.2.1 70 5).2
          have g683 : (h640.2.1 70 4).toInt = u649.toInt := by rw [← (show u649 = h640.2.1 70 4 from u649w)] <;> exact (ti_rfl u649)
          have g684 : (h640.2.1 70 5).toInt = u651.toInt := by rw [← (show u651 = h640.2.1 70 5 from u651w)] <;> exact (ti_rfl u651)
          exact go_lv rfl ((key 14) a2 a3 a4 v626 v658 _ h640 hv640 (MW.rfl _) (by omega) (by omega) (by omega) (by omega) (by omega) (by omega) (by omega) (by omega) (by omega) (by omega) (ve618.trans ve640) (by omega) (by omega) (by omega) (by omega) (by omega) oh640 ck640 kp640 (by omega) (by omega) (by omega) (by omega) fx640 k678 (by omega))
        ·
          have k685 := if_f k676 q677
          refine go_aload_n (pc := 51) rfl dX8_readItem_51 ?_
          refine gi_getF (pc := 52) (q := 75) hv640 fL_X8_23 rfl (Nat.le_of_ble_eq_true rfl) rfl (hv640.rf (by decide)) dX8_readItem_52 ?_
          refine go_aload_n (pc := 55) rfl dX8_readItem_55 ?_
          refine gi_get (pc := 56) (lo := 0) (hi := 1) hv640 fL_X8_187 rfl (Nat.le_of_ble_eq_true rfl) rfl rfl dX8_readItem_56 (fun v686 v686l v686u v686w => ?_)
          have k687 := bd_e k685 (congrArg Int32.toInt v686w.symm)
          have v686S : v686.toInt = S := by rw [v686w]; exact (congrArg Int32.toInt oh640.side).trans hS.symm
          refine gi_iald (pc := 59) (lo := 0) (hi := 40) (len := 2) hv640 (ti_rfl v686) rfl (by omega) (by omega) (fun _ => rfl) dX8_readItem_59 (fun v688 v688l v688u v688w => ?_)
          have k689 := bd_e k687 (congrArg Int32.toInt v688w.symm)
          have v688V : v688.toInt = V h640.2.1 75 S := by rw [v688w, v686S]; rfl
          refine go_bipush (pc := 60) (v := 40) (by decide) dX8_readItem_60 ?_
          refine gf_icmp_ne (pc := 62) (tgt := 70) (ti_rfl v688) (ti_c (v := 40) (a := 40) (by decide)) (by decide) dX8_readItem_62 (fun q690 => ?_) (fun q690 => ?_)
          ·
            have k691 := if_t k689 q690
            have g692 : (0 : Int) ≤ (h640.2.1 70 4).toInt := (hv640.2.1 70 4).1
            have g693 : (h640.2.1 70 4).toInt ≤ 500 := (hv640.2.1 70 4).2
            have g694 : (-2147483648 : Int) ≤ (h640.2.1 70 5).toInt := (hv640.2.1 70 5).1
            have g695 : (h640.2.1 70 5).toInt ≤ 2147483647 := (hv640.2.1 70 5).2
            have g696 : (h640.2.1 70 4).toInt = u649.toInt := by rw [← (show u649 = h640.2.1 70 4 from u649w)] <;> exact (ti_rfl u649)
            have g697 : (h640.2.1 70 5).toInt = u651.toInt := by rw [← (show u651 = h640.2.1 70 5 from u651w)] <;> exact (ti_rfl u651)
            exact go_lv rfl ((key 14) a2 a3 a4 v626 v658 _ h640 hv640 (MW.rfl _) (by omega) (by omega) (by omega) (by omega) (by omega) (by omega) (by omega) (by omega) (by omega) (by omega) (ve618.trans ve640) (by omega) (by omega) (by omega) (by omega) (by omega) oh640 ck640 kp640 (by omega) (by omega) (by omega) (by omega) fx640 k691 (by omega))
          ·
            have k698 := if_f k689 (fun z => z q690)
            refine go_aload_n (pc := 65) rfl dX8_readItem_65 ?_
            refine go_iconst (pc := 66) (v := 4) (by decide) dX8_readItem_66 ?_
            have g699 : (0 : Int) ≤ (h640.2.1 70 4).toInt := (hv640.2.1 70 4).1
            have g700 : (h640.2.1 70 4).toInt ≤ 500 := (hv640.2.1 70 4).2
            have g701 : (-2147483648 : Int) ≤ (h640.2.1 70 5).toInt := (hv640.2.1 70 5).1
            have g702 : (h640.2.1 70 5).toInt ≤ 2147483647 := (hv640.2.1 70 5).2
            have g703 : (h640.2.1 70 4).toInt = u649.toInt := by rw [← (show u649 = h640.2.1 70 4 from u649w)] <;> exact (ti_rfl u649)
            have g704 : (h640.2.1 70 5).toInt = u651.toInt := by rw [← (show u651 = h640.2.1 70 5 from u651w)] <;> exact (ti_rfl u651)
            refine go_invV (pc := 67) (sl := 0) (s_X8_fails_f l (d + 3) hv640 4 (by rw [show (4 : Int32).toInt = 4 from (ti_c (v := 4) (a := 4) (by decide))]; omega) (by rw [show (4 : Int32).toInt = 4 from (ti_c (v := 4) (a := 4) (by decide))]; omega)) mL_X8_180 iM_X8_fails sM_X8_fails (hv640.sh rfl) rfl rfl rfl (Nat.le_of_ble_eq_true rfl) (show d + 3 + 1 + 1 ≤ d + 5 by omega) (show 8 + (2 + 11) + 40 * (d + 3 + 1) ≤ 40 * (d + 5) by omega) (g_c0 hv640.ln) (Nat.le_of_ble_eq_true rfl) dX8_readItem_67 ?_
            intro r h705 hq _
            obtain ⟨rfl, hv705, f706, f707, f708, f709⟩ := hq
            try rw [show (4 : Int32).toInt = 4 from (ti_c (v := 4) (a := 4) (by decide))] at f706
            try rw [show (4 : Int32).toInt = 4 from (ti_c (v := 4) (a := 4) (by decide))] at f707
            try rw [show (4 : Int32).toInt = 4 from (ti_c (v := 4) (a := 4) (by decide))] at f708
            try rw [show (4 : Int32).toInt = 4 from (ti_c (v := 4) (a := 4) (by decide))] at f709
            have fx705 : FX KRt h h705 := FX.tr fx640 f709
            have k710 := bd_e k698 f708.symm
            have ve705 : VE h640.2.1 h705.2.1 := VE.of hv640 hv705
            have oh705 : OH h.2.1 h705.2.1 S := oh640.trans (OH.of hv640 hv705 S)
            have kp705 : KP h.2.1 h705.2.1 := kp640.trans (KP.ve ve705)
            have ck705 : CKF h.2.1 → CKF h705.2.1 := fun z => CKF.ve ve705 (ck640 z)
            have n73_705 : V h705.2.1 73 S = V h640.2.1 73 S := ve705.v (by omega) (by omega)
            have n74_705 : V h705.2.1 74 S = V h640.2.1 74 S := ve705.v (by omega) (by omega)
            have n75_705 : V h705.2.1 75 S = V h640.2.1 75 S := ve705.v (by omega) (by omega)
            obtain ⟨u711, u711w⟩ : ∃ v : Int32, v = h705.2.1 70 4 := ⟨_, rfl⟩
            have u711e : (h705.2.1 70 4).toInt = u711.toInt := by rw [u711w]
            have u711l : 0 ≤ u711.toInt := by rw [u711w]; exact (hv705.2.1 70 4).1
            have u711u : u711.toInt ≤ 500 := by rw [u711w]; exact (hv705.2.1 70 4).2
            have k712 := k710
            obtain ⟨u713, u713w⟩ : ∃ v : Int32, v = h705.2.1 70 5 := ⟨_, rfl⟩
            have u713e : (h705.2.1 70 5).toInt = u713.toInt := by rw [u713w]
            have u713l : -2147483648 ≤ u713.toInt := by rw [u713w]; exact (hv705.2.1 70 5).1
            have u713u : u713.toInt ≤ 2147483647 := by rw [u713w]; exact (hv705.2.1 70 5).2
            have k714 := k712
            have g715 : (0 : Int) ≤ (h705.2.1 70 4).toInt := (hv705.2.1 70 4).1
            have g716 : (h705.2.1 70 4).toInt ≤ 500 := (hv705.2.1 70 4).2
            have g717 : (-2147483648 : Int) ≤ (h705.2.1 70 5).toInt := (hv705.2.1 70 5).1
            have g718 : (h705.2.1 70 5).toInt ≤ 2147483647 := (hv705.2.1 70 5).2
            have g719 : (h705.2.1 70 4).toInt = u711.toInt := by rw [← (show u711 = h705.2.1 70 4 from u711w)] <;> exact (ti_rfl u711)
            have g720 : (h705.2.1 70 5).toInt = u713.toInt := by rw [← (show u713 = h705.2.1 70 5 from u713w)] <;> exact (ti_rfl u713)
            exact go_lv rfl ((key 14) a2 a3 a4 v626 v658 _ h705 hv705 (MW.rfl _) (by omega) (by omega) (by omega) (by omega) (by omega) (by omega) (by omega) (by omega) (by omega) (by omega) ((ve618.trans ve640).trans ve705) (by omega) (by omega) (by omega) (by omega) (by omega) oh705 ck705 kp705 (by omega) (by omega) (by omega) (by omega) fx705 k714 (by omega))
    ·
      have k721 := if_f k659 (fun z => z q660)
      refine go_aload_n (pc := 32) rfl dX8_readItem_32 ?_
      refine go_iconst (pc := 33) (v := 1) (by decide) dX8_readItem_33 ?_
      have g722 : (0 : Int) ≤ (h640.2.1 70 4).toInt := (hv640.2.1 70 4).1
      have g723 : (h640.2.1 70 4).toInt ≤ 500 := (hv640.2.1 70 4).2
      have g724 : (-2147483648 : Int) ≤ (h640.2.1 70 5).toInt := (hv640.2.1 70 5).1
      have g725 : (h640.2.1 70 5).toInt ≤ 2147483647 := (hv640.2.1 70 5).2
      have g726 : (h640.2.1 70 4).toInt = u649.toInt := by rw [← (show u649 = h640.2.1 70 4 from u649w)] <;> exact (ti_rfl u649)
      have g727 : (h640.2.1 70 5).toInt = u651.toInt := by rw [← (show u651 = h640.2.1 70 5 from u651w)] <;> exact (ti_rfl u651)
      refine go_invV (pc := 34) (sl := 0) (s_X8_fails_f l (d + 3) hv640 1 (by rw [show (1 : Int32).toInt = 1 from (ti_c (v := 1) (a := 1) (by decide))]; omega) (by rw [show (1 : Int32).toInt = 1 from (ti_c (v := 1) (a := 1) (by decide))]; omega)) mL_X8_180 iM_X8_fails sM_X8_fails (hv640.sh rfl) rfl rfl rfl (Nat.le_of_ble_eq_true rfl) (show d + 3 + 1 + 1 ≤ d + 5 by omega) (show 8 + (2 + 11) + 40 * (d + 3 + 1) ≤ 40 * (d + 5) by omega) (g_c0 hv640.ln) (Nat.le_of_ble_eq_true rfl) dX8_readItem_34 ?_
      intro r h728 hq _
      obtain ⟨rfl, hv728, f729, f730, f731, f732⟩ := hq
      try rw [show (1 : Int32).toInt = 1 from (ti_c (v := 1) (a := 1) (by decide))] at f729
      try rw [show (1 : Int32).toInt = 1 from (ti_c (v := 1) (a := 1) (by decide))] at f730
      try rw [show (1 : Int32).toInt = 1 from (ti_c (v := 1) (a := 1) (by decide))] at f731
      try rw [show (1 : Int32).toInt = 1 from (ti_c (v := 1) (a := 1) (by decide))] at f732
      have fx728 : FX KRt h h728 := FX.tr fx640 f732
      have k733 := bd_e k721 f731.symm
      have ve728 : VE h640.2.1 h728.2.1 := VE.of hv640 hv728
      have oh728 : OH h.2.1 h728.2.1 S := oh640.trans (OH.of hv640 hv728 S)
      have kp728 : KP h.2.1 h728.2.1 := kp640.trans (KP.ve ve728)
      have ck728 : CKF h.2.1 → CKF h728.2.1 := fun z => CKF.ve ve728 (ck640 z)
      have n73_728 : V h728.2.1 73 S = V h640.2.1 73 S := ve728.v (by omega) (by omega)
      have n74_728 : V h728.2.1 74 S = V h640.2.1 74 S := ve728.v (by omega) (by omega)
      have n75_728 : V h728.2.1 75 S = V h640.2.1 75 S := ve728.v (by omega) (by omega)
      obtain ⟨u734, u734w⟩ : ∃ v : Int32, v = h728.2.1 70 4 := ⟨_, rfl⟩
      have u734e : (h728.2.1 70 4).toInt = u734.toInt := by rw [u734w]
      have u734l : 0 ≤ u734.toInt := by rw [u734w]; exact (hv728.2.1 70 4).1
      have u734u : u734.toInt ≤ 500 := by rw [u734w]; exact (hv728.2.1 70 4).2
      have k735 := k733
      obtain ⟨u736, u736w⟩ : ∃ v : Int32, v = h728.2.1 70 5 := ⟨_, rfl⟩
      have u736e : (h728.2.1 70 5).toInt = u736.toInt := by rw [u736w]
      have u736l : -2147483648 ≤ u736.toInt := by rw [u736w]; exact (hv728.2.1 70 5).1
      have u736u : u736.toInt ≤ 2147483647 := by rw [u736w]; exact (hv728.2.1 70 5).2
      have k737 := k735
      refine go_aload_n (pc := 37) rfl dX8_readItem_37 ?_
      refine go_invV (pc := 38) (sl := 0) (s_X8_isGood_f l (d + 3) hv728 ) mL_X8_172 iM_X8_isGood sM_X8_isGood (hv728.sh rfl) rfl rfl rfl (Nat.le_of_ble_eq_true rfl) (show d + 3 + 1 + 1 ≤ d + 5 by omega) (show 8 + (1 + 11) + 40 * (d + 3 + 1) ≤ 40 * (d + 5) by omega) (g_c0 hv728.ln) (Nat.le_of_ble_eq_true rfl) dX8_readItem_38 ?_
      intro r h738 hq _
      obtain ⟨v742, rfl, v742l, v742u, rfl, f739, f740, f741⟩ := hq
      replace f741 : PE _ _ := f741
      have k743 := bd_e k737 f741.symm
      refine gf_if_eq (pc := 41) (tgt := 70) (ti_rfl v742) (by decide) dX8_readItem_41 (fun q744 => ?_) (fun q744 => ?_)
      ·
        have k745 := if_t k743 q744
        have g746 : (0 : Int) ≤ (h728.2.1 70 4).toInt := (hv728.2.1 70 4).1
        have g747 : (h728.2.1 70 4).toInt ≤ 500 := (hv728.2.1 70 4).2
        have g748 : (-2147483648 : Int) ≤ (h728.2.1 70 5).toInt := (hv728.2.1 70 5).1
        have g749 : (h728.2.1 70 5).toInt ≤ 2147483647 := (hv728.2.1 70 5).2
        have g750 : (h728.2.1 70 4).toInt = u734.toInt := by rw [← (show u734 = h728.2.1 70 4 from u734w)] <;> exact (ti_rfl u734)
        have g751 : (h728.2.1 70 5).toInt = u736.toInt := by rw [← (show u736 = h728.2.1 70 5 from u736w)] <;> exact (ti_rfl u736)
        exact go_lv rfl ((key 14) a2 a3 a4 v626 v658 _ h728 hv728 (MW.rfl _) (by omega) (by omega) (by omega) (by omega) (by omega) (by omega) (by omega) (by omega) (by omega) (by omega) ((ve618.trans ve640).trans ve728) (by omega) (by omega) (by omega) (by omega) (by omega) oh728 ck728 kp728 (by omega) (by omega) (by omega) (by omega) fx728 k745 (by omega))
      ·
        have k752 := if_f k743 q744
        refine go_iload (pc := 44) rfl dX8_readItem_44 ?_
        refine go_bipush (pc := 46) (v := 6) (by decide) dX8_readItem_46 ?_
        refine gf_icmp_eq (pc := 48) (tgt := 70) (ti_rfl v658) (ti_c (v := 6) (a := 6) (by decide)) (by decide) dX8_readItem_48 (fun q753 => False.elim (by omega)) (fun q753 => ?_)
        refine go_aload_n (pc := 51) rfl dX8_readItem_51 ?_
        refine gi_getF (pc := 52) (q := 75) hv728 fL_X8_23 rfl (Nat.le_of_ble_eq_true rfl) rfl (hv728.rf (by decide)) dX8_readItem_52 ?_
        refine go_aload_n (pc := 55) rfl dX8_readItem_55 ?_
        refine gi_get (pc := 56) (lo := 0) (hi := 1) hv728 fL_X8_187 rfl (Nat.le_of_ble_eq_true rfl) rfl rfl dX8_readItem_56 (fun v754 v754l v754u v754w => ?_)
        have k755 := bd_e k752 (congrArg Int32.toInt v754w.symm)
        have v754S : v754.toInt = S := by rw [v754w]; exact (congrArg Int32.toInt oh728.side).trans hS.symm
        refine gi_iald (pc := 59) (lo := 0) (hi := 40) (len := 2) hv728 (ti_rfl v754) rfl (by omega) (by omega) (fun _ => rfl) dX8_readItem_59 (fun v756 v756l v756u v756w => ?_)
        have k757 := bd_e k755 (congrArg Int32.toInt v756w.symm)
        have v756V : v756.toInt = V h728.2.1 75 S := by rw [v756w, v754S]; rfl
        refine go_bipush (pc := 60) (v := 40) (by decide) dX8_readItem_60 ?_
        refine gf_icmp_ne (pc := 62) (tgt := 70) (ti_rfl v756) (ti_c (v := 40) (a := 40) (by decide)) (by decide) dX8_readItem_62 (fun q758 => ?_) (fun q758 => ?_)
        ·
          have k759 := if_t k757 q758
          have g760 : (0 : Int) ≤ (h728.2.1 70 4).toInt := (hv728.2.1 70 4).1
          have g761 : (h728.2.1 70 4).toInt ≤ 500 := (hv728.2.1 70 4).2
          have g762 : (-2147483648 : Int) ≤ (h728.2.1 70 5).toInt := (hv728.2.1 70 5).1
          have g763 : (h728.2.1 70 5).toInt ≤ 2147483647 := (hv728.2.1 70 5).2
          have g764 : (h728.2.1 70 4).toInt = u734.toInt := by rw [← (show u734 = h728.2.1 70 4 from u734w)] <;> exact (ti_rfl u734)
          have g765 : (h728.2.1 70 5).toInt = u736.toInt := by rw [← (show u736 = h728.2.1 70 5 from u736w)] <;> exact (ti_rfl u736)
          exact go_lv rfl ((key 14) a2 a3 a4 v626 v658 _ h728 hv728 (MW.rfl _) (by omega) (by omega) (by omega) (by omega) (by omega) (by omega) (by omega) (by omega) (by omega) (by omega) ((ve618.trans ve640).trans ve728) (by omega) (by omega) (by omega) (by omega) (by omega) oh728 ck728 kp728 (by omega) (by omega) (by omega) (by omega) fx728 k759 (by omega))
        ·
          have k766 := if_f k757 (fun z => z q758)
          refine go_aload_n (pc := 65) rfl dX8_readItem_65 ?_
          refine go_iconst (pc := 66) (v := 4) (by decide) dX8_readItem_66 ?_
          have g767 : (0 : Int) ≤ (h728.2.1 70 4).toInt := (hv728.2.1 70 4).1
          have g768 : (h728.2.1 70 4).toInt ≤ 500 := (hv728.2.1 70 4).2
          have g769 : (-2147483648 : Int) ≤ (h728.2.1 70 5).toInt := (hv728.2.1 70 5).1
          have g770 : (h728.2.1 70 5).toInt ≤ 2147483647 := (hv728.2.1 70 5).2
          have g771 : (h728.2.1 70 4).toInt = u734.toInt := by rw [← (show u734 = h728.2.1 70 4 from u734w)] <;> exact (ti_rfl u734)
          have g772 : (h728.2.1 70 5).toInt = u736.toInt := by rw [← (show u736 = h728.2.1 70 5 from u736w)] <;> exact (ti_rfl u736)
          refine go_invV (pc := 67) (sl := 0) (s_X8_fails_f l (d + 3) hv728 4 (by rw [show (4 : Int32).toInt = 4 from (ti_c (v := 4) (a := 4) (by decide))]; omega) (by rw [show (4 : Int32).toInt = 4 from (ti_c (v := 4) (a := 4) (by decide))]; omega)) mL_X8_180 iM_X8_fails sM_X8_fails (hv728.sh rfl) rfl rfl rfl (Nat.le_of_ble_eq_true rfl) (show d + 3 + 1 + 1 ≤ d + 5 by omega) (show 8 + (2 + 11) + 40 * (d + 3 + 1) ≤ 40 * (d + 5) by omega) (g_c0 hv728.ln) (Nat.le_of_ble_eq_true rfl) dX8_readItem_67 ?_
          intro r h773 hq _
          obtain ⟨rfl, hv773, f774, f775, f776, f777⟩ := hq
          try rw [show (4 : Int32).toInt = 4 from (ti_c (v := 4) (a := 4) (by decide))] at f774
          try rw [show (4 : Int32).toInt = 4 from (ti_c (v := 4) (a := 4) (by decide))] at f775
          try rw [show (4 : Int32).toInt = 4 from (ti_c (v := 4) (a := 4) (by decide))] at f776
          try rw [show (4 : Int32).toInt = 4 from (ti_c (v := 4) (a := 4) (by decide))] at f777
          have fx773 : FX KRt h h773 := FX.tr fx728 f777
          have k778 := bd_e k766 f776.symm
          have ve773 : VE h728.2.1 h773.2.1 := VE.of hv728 hv773
          have oh773 : OH h.2.1 h773.2.1 S := oh728.trans (OH.of hv728 hv773 S)
          have kp773 : KP h.2.1 h773.2.1 := kp728.trans (KP.ve ve773)
          have ck773 : CKF h.2.1 → CKF h773.2.1 := fun z => CKF.ve ve773 (ck728 z)
          have n73_773 : V h773.2.1 73 S = V h728.2.1 73 S := ve773.v (by omega) (by omega)
          have n74_773 : V h773.2.1 74 S = V h728.2.1 74 S := ve773.v (by omega) (by omega)
          have n75_773 : V h773.2.1 75 S = V h728.2.1 75 S := ve773.v (by omega) (by omega)
          obtain ⟨u779, u779w⟩ : ∃ v : Int32, v = h773.2.1 70 4 := ⟨_, rfl⟩
          have u779e : (h773.2.1 70 4).toInt = u779.toInt := by rw [u779w]
          have u779l : 0 ≤ u779.toInt := by rw [u779w]; exact (hv773.2.1 70 4).1
          have u779u : u779.toInt ≤ 500 := by rw [u779w]; exact (hv773.2.1 70 4).2
          have k780 := k778
          obtain ⟨u781, u781w⟩ : ∃ v : Int32, v = h773.2.1 70 5 := ⟨_, rfl⟩
          have u781e : (h773.2.1 70 5).toInt = u781.toInt := by rw [u781w]
          have u781l : -2147483648 ≤ u781.toInt := by rw [u781w]; exact (hv773.2.1 70 5).1
          have u781u : u781.toInt ≤ 2147483647 := by rw [u781w]; exact (hv773.2.1 70 5).2
          have k782 := k780
          have g783 : (0 : Int) ≤ (h773.2.1 70 4).toInt := (hv773.2.1 70 4).1
          have g784 : (h773.2.1 70 4).toInt ≤ 500 := (hv773.2.1 70 4).2
          have g785 : (-2147483648 : Int) ≤ (h773.2.1 70 5).toInt := (hv773.2.1 70 5).1
          have g786 : (h773.2.1 70 5).toInt ≤ 2147483647 := (hv773.2.1 70 5).2
          have g787 : (h773.2.1 70 4).toInt = u779.toInt := by rw [← (show u779 = h773.2.1 70 4 from u779w)] <;> exact (ti_rfl u779)
          have g788 : (h773.2.1 70 5).toInt = u781.toInt := by rw [← (show u781 = h773.2.1 70 5 from u781w)] <;> exact (ti_rfl u781)
          exact go_lv rfl ((key 14) a2 a3 a4 v626 v658 _ h773 hv773 (MW.rfl _) (by omega) (by omega) (by omega) (by omega) (by omega) (by omega) (by omega) (by omega) (by omega) (by omega) (((ve618.trans ve640).trans ve728).trans ve773) (by omega) (by omega) (by omega) (by omega) (by omega) oh773 ck773 kp773 (by omega) (by omega) (by omega) (by omega) fx773 k782 (by omega))
  ·
    have k789 := if_f k631 q632
    refine go_iconst (pc := 13) (v := 0) (by decide) dX8_readItem_13 ?_
    refine go_goto (pc := 14) (tgt := 24) (by decide) dX8_readItem_14 ?_
    refine go_istore (pc := 24) (Nat.le_of_ble_eq_true rfl) dX8_readItem_24 (go_lv (lv2 := [(0, .ref 70), (1, .int a2), (2, .int a3), (3, .int a4), (4, .int v626), (5, .int 0)]) rfl ?_)
    refine go_iload (pc := 26) rfl dX8_readItem_26 ?_
    refine go_iconst (pc := 28) (v := (-1)) (by decide) dX8_readItem_28 ?_
    refine gf_icmp_ne (pc := 29) (tgt := 37) (ti_c (v := 0) (a := 0) (by decide)) (ti_c (v := (-1)) (a := (-1)) (by decide)) (by decide) dX8_readItem_29 (fun q790 => ?_) (fun q790 => False.elim (by omega))
    refine go_aload_n (pc := 37) rfl dX8_readItem_37 ?_
    refine go_invV (pc := 38) (sl := 0) (s_X8_isGood_f l (d + 3) hv618 ) mL_X8_172 iM_X8_isGood sM_X8_isGood (hv618.sh rfl) rfl rfl rfl (Nat.le_of_ble_eq_true rfl) (show d + 3 + 1 + 1 ≤ d + 5 by omega) (show 8 + (1 + 11) + 40 * (d + 3 + 1) ≤ 40 * (d + 5) by omega) (g_c0 hv618.ln) (Nat.le_of_ble_eq_true rfl) dX8_readItem_38 ?_
    intro r h791 hq _
    obtain ⟨v795, rfl, v795l, v795u, rfl, f792, f793, f794⟩ := hq
    replace f794 : PE _ _ := f794
    have k796 := bd_e k789 f794.symm
    refine gf_if_eq (pc := 41) (tgt := 70) (ti_rfl v795) (by decide) dX8_readItem_41 (fun q797 => ?_) (fun q797 => ?_)
    ·
      have k798 := if_t k796 q797
      have z799 : (0 : Int32).toInt = 0 := (ti_c (v := 0) (a := 0) (by decide))
      have g800 : (0 : Int) ≤ (h618.2.1 70 4).toInt := (hv618.2.1 70 4).1
      have g801 : (h618.2.1 70 4).toInt ≤ 500 := (hv618.2.1 70 4).2
      have g802 : (-2147483648 : Int) ≤ (h618.2.1 70 5).toInt := (hv618.2.1 70 5).1
      have g803 : (h618.2.1 70 5).toInt ≤ 2147483647 := (hv618.2.1 70 5).2
      have g804 : (h618.2.1 70 4).toInt = u628.toInt := by rw [← (show u628 = h618.2.1 70 4 from u628w)] <;> exact (ti_rfl u628)
      have g805 : (h618.2.1 70 5).toInt = u630.toInt := by rw [← (show u630 = h618.2.1 70 5 from u630w)] <;> exact (ti_rfl u630)
      exact go_lv rfl ((key 14) a2 a3 a4 v626 0 _ h618 hv618 (MW.rfl _) (by omega) (by omega) (by omega) (by omega) (by omega) (by omega) (by omega) (by omega) (by omega) (by omega) ve618 (by omega) (by omega) (by omega) (by omega) (by omega) oh618 ck618 kp618 (by omega) (by omega) (by omega) (by omega) fx618 (by rw [show (0 : Int32).toInt = 0 from (ti_c (v := 0) (a := 0) (by decide))]; exact k798) (by omega))
    ·
      have k806 := if_f k796 q797
      refine go_iload (pc := 44) rfl dX8_readItem_44 ?_
      refine go_bipush (pc := 46) (v := 6) (by decide) dX8_readItem_46 ?_
      refine gf_icmp_eq (pc := 48) (tgt := 70) (ti_c (v := 0) (a := 0) (by decide)) (ti_c (v := 6) (a := 6) (by decide)) (by decide) dX8_readItem_48 (fun q807 => False.elim (by omega)) (fun q807 => ?_)
      refine go_aload_n (pc := 51) rfl dX8_readItem_51 ?_
      refine gi_getF (pc := 52) (q := 75) hv618 fL_X8_23 rfl (Nat.le_of_ble_eq_true rfl) rfl (hv618.rf (by decide)) dX8_readItem_52 ?_
      refine go_aload_n (pc := 55) rfl dX8_readItem_55 ?_
      refine gi_get (pc := 56) (lo := 0) (hi := 1) hv618 fL_X8_187 rfl (Nat.le_of_ble_eq_true rfl) rfl rfl dX8_readItem_56 (fun v808 v808l v808u v808w => ?_)
      have k809 := bd_e k806 (congrArg Int32.toInt v808w.symm)
      have v808S : v808.toInt = S := by rw [v808w]; exact (congrArg Int32.toInt oh618.side).trans hS.symm
      refine gi_iald (pc := 59) (lo := 0) (hi := 40) (len := 2) hv618 (ti_rfl v808) rfl (by omega) (by omega) (fun _ => rfl) dX8_readItem_59 (fun v810 v810l v810u v810w => ?_)
      have k811 := bd_e k809 (congrArg Int32.toInt v810w.symm)
      have v810V : v810.toInt = V h618.2.1 75 S := by rw [v810w, v808S]; rfl
      refine go_bipush (pc := 60) (v := 40) (by decide) dX8_readItem_60 ?_
      refine gf_icmp_ne (pc := 62) (tgt := 70) (ti_rfl v810) (ti_c (v := 40) (a := 40) (by decide)) (by decide) dX8_readItem_62 (fun q812 => ?_) (fun q812 => ?_)
      ·
        have k813 := if_t k811 q812
        have z814 : (0 : Int32).toInt = 0 := (ti_c (v := 0) (a := 0) (by decide))
        have g815 : (0 : Int) ≤ (h618.2.1 70 4).toInt := (hv618.2.1 70 4).1
        have g816 : (h618.2.1 70 4).toInt ≤ 500 := (hv618.2.1 70 4).2
        have g817 : (-2147483648 : Int) ≤ (h618.2.1 70 5).toInt := (hv618.2.1 70 5).1
        have g818 : (h618.2.1 70 5).toInt ≤ 2147483647 := (hv618.2.1 70 5).2
        have g819 : (h618.2.1 70 4).toInt = u628.toInt := by rw [← (show u628 = h618.2.1 70 4 from u628w)] <;> exact (ti_rfl u628)
        have g820 : (h618.2.1 70 5).toInt = u630.toInt := by rw [← (show u630 = h618.2.1 70 5 from u630w)] <;> exact (ti_rfl u630)
        exact go_lv rfl ((key 14) a2 a3 a4 v626 0 _ h618 hv618 (MW.rfl _) (by omega) (by omega) (by omega) (by omega) (by omega) (by omega) (by omega) (by omega) (by omega) (by omega) ve618 (by omega) (by omega) (by omega) (by omega) (by omega) oh618 ck618 kp618 (by omega) (by omega) (by omega) (by omega) fx618 (by rw [show (0 : Int32).toInt = 0 from (ti_c (v := 0) (a := 0) (by decide))]; exact k813) (by omega))
      ·
        have k821 := if_f k811 (fun z => z q812)
        refine go_aload_n (pc := 65) rfl dX8_readItem_65 ?_
        refine go_iconst (pc := 66) (v := 4) (by decide) dX8_readItem_66 ?_
        have g822 : (0 : Int) ≤ (h618.2.1 70 4).toInt := (hv618.2.1 70 4).1
        have g823 : (h618.2.1 70 4).toInt ≤ 500 := (hv618.2.1 70 4).2
        have g824 : (-2147483648 : Int) ≤ (h618.2.1 70 5).toInt := (hv618.2.1 70 5).1
        have g825 : (h618.2.1 70 5).toInt ≤ 2147483647 := (hv618.2.1 70 5).2
        have g826 : (h618.2.1 70 4).toInt = u628.toInt := by rw [← (show u628 = h618.2.1 70 4 from u628w)] <;> exact (ti_rfl u628)
        have g827 : (h618.2.1 70 5).toInt = u630.toInt := by rw [← (show u630 = h618.2.1 70 5 from u630w)] <;> exact (ti_rfl u630)
        refine go_invV (pc := 67) (sl := 0) (s_X8_fails_f l (d + 3) hv618 4 (by rw [show (4 : Int32).toInt = 4 from (ti_c (v := 4) (a := 4) (by decide))]; omega) (by rw [show (4 : Int32).toInt = 4 from (ti_c (v := 4) (a := 4) (by decide))]; omega)) mL_X8_180 iM_X8_fails sM_X8_fails (hv618.sh rfl) rfl rfl rfl (Nat.le_of_ble_eq_true rfl) (show d + 3 + 1 + 1 ≤ d + 5 by omega) (show 8 + (2 + 11) + 40 * (d + 3 + 1) ≤ 40 * (d + 5) by omega) (g_c0 hv618.ln) (Nat.le_of_ble_eq_true rfl) dX8_readItem_67 ?_
        intro r h828 hq _
        obtain ⟨rfl, hv828, f829, f830, f831, f832⟩ := hq
        try rw [show (4 : Int32).toInt = 4 from (ti_c (v := 4) (a := 4) (by decide))] at f829
        try rw [show (4 : Int32).toInt = 4 from (ti_c (v := 4) (a := 4) (by decide))] at f830
        try rw [show (4 : Int32).toInt = 4 from (ti_c (v := 4) (a := 4) (by decide))] at f831
        try rw [show (4 : Int32).toInt = 4 from (ti_c (v := 4) (a := 4) (by decide))] at f832
        have fx828 : FX KRt h h828 := FX.tr fx618 f832
        have k833 := bd_e k821 f831.symm
        have ve828 : VE h618.2.1 h828.2.1 := VE.of hv618 hv828
        have oh828 : OH h.2.1 h828.2.1 S := oh618.trans (OH.of hv618 hv828 S)
        have kp828 : KP h.2.1 h828.2.1 := kp618.trans (KP.ve ve828)
        have ck828 : CKF h.2.1 → CKF h828.2.1 := fun z => CKF.ve ve828 (ck618 z)
        have n73_828 : V h828.2.1 73 S = V h618.2.1 73 S := ve828.v (by omega) (by omega)
        have n74_828 : V h828.2.1 74 S = V h618.2.1 74 S := ve828.v (by omega) (by omega)
        have n75_828 : V h828.2.1 75 S = V h618.2.1 75 S := ve828.v (by omega) (by omega)
        obtain ⟨u834, u834w⟩ : ∃ v : Int32, v = h828.2.1 70 4 := ⟨_, rfl⟩
        have u834e : (h828.2.1 70 4).toInt = u834.toInt := by rw [u834w]
        have u834l : 0 ≤ u834.toInt := by rw [u834w]; exact (hv828.2.1 70 4).1
        have u834u : u834.toInt ≤ 500 := by rw [u834w]; exact (hv828.2.1 70 4).2
        have k835 := k833
        obtain ⟨u836, u836w⟩ : ∃ v : Int32, v = h828.2.1 70 5 := ⟨_, rfl⟩
        have u836e : (h828.2.1 70 5).toInt = u836.toInt := by rw [u836w]
        have u836l : -2147483648 ≤ u836.toInt := by rw [u836w]; exact (hv828.2.1 70 5).1
        have u836u : u836.toInt ≤ 2147483647 := by rw [u836w]; exact (hv828.2.1 70 5).2
        have k837 := k835
        have z838 : (0 : Int32).toInt = 0 := (ti_c (v := 0) (a := 0) (by decide))
        have g839 : (0 : Int) ≤ (h828.2.1 70 4).toInt := (hv828.2.1 70 4).1
        have g840 : (h828.2.1 70 4).toInt ≤ 500 := (hv828.2.1 70 4).2
        have g841 : (-2147483648 : Int) ≤ (h828.2.1 70 5).toInt := (hv828.2.1 70 5).1
        have g842 : (h828.2.1 70 5).toInt ≤ 2147483647 := (hv828.2.1 70 5).2
        have g843 : (h828.2.1 70 4).toInt = u834.toInt := by rw [← (show u834 = h828.2.1 70 4 from u834w)] <;> exact (ti_rfl u834)
        have g844 : (h828.2.1 70 5).toInt = u836.toInt := by rw [← (show u836 = h828.2.1 70 5 from u836w)] <;> exact (ti_rfl u836)
        exact go_lv rfl ((key 14) a2 a3 a4 v626 0 _ h828 hv828 (MW.rfl _) (by omega) (by omega) (by omega) (by omega) (by omega) (by omega) (by omega) (by omega) (by omega) (by omega) (ve618.trans ve828) (by omega) (by omega) (by omega) (by omega) (by omega) oh828 ck828 kp828 (by omega) (by omega) (by omega) (by omega) fx828 (by rw [show (0 : Int32).toInt = 0 from (ti_c (v := 0) (a := 0) (by decide))]; exact k837) (by omega))

