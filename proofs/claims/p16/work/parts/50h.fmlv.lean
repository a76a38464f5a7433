def f_X8_readBlock_b_ (g_X8_readItem : ST → Int → Int → Int → ST) : Nat → Nat → Int → Int → Int → ST → ST × Int
  | 0, _, _, _, _, sx => (sx, 0)
  | n + 1, _, l2, l3, l4, sx => bd (f_X8_isGood sx) fun v5 => if v5 = 0 then (bd (f_X8_must sx 125) fun s13 => (s13, l4)) else (bd2 (f_X8_here sx) fun s41 v48 => if v48 = 125 then (bd (f_X8_must s41 125) fun s62 => (s62, l4)) else (bd (g_X8_readItem s41 l4 l2 l3) fun s93 => f_X8_readBlock_b_ g_X8_readItem n 8 l2 l3 l4 s93))
def f_X8_readBlock_b (g_X8_readItem : ST → Int → Int → Int → ST) (s : ST) (a2 : Int) (a3 : Int) (a4 : Int) : ST × Int :=
  bd2 (f_X8_newBlock s a2 a4) fun s121 v135 => f_X8_readBlock_b_ g_X8_readItem 3022 8 a3 a4 v135 s121
set_option maxHeartbeats 4000000 in
set_option maxRecDepth 100000 in
theorem s_X8_readBlock_b_f (l : Launch) (d : Nat) {t : Nat} (g_X8_readItem : ST → Int → Int → Int → ST) (ihI : ∀ {P : PP} {h : HP} (_ : Iv P h) (a2 : Int32) (a2l : 0 ≤ a2.toInt) (a2u : a2.toInt ≤ 559) (a3 : Int32) (a3l : 0 ≤ a3.toInt) (a3u : a3.toInt ≤ 4) (a4 : Int32) (a4l : 0 ≤ a4.toInt) (a4u : a4.toInt ≤ 6) (h0 : (h.2.1 70 5).toInt = 0) (hp : 6 * (V h.2.1 73 (h.2.1 70 6).toInt - V h.2.1 75 (h.2.1 70 6).toInt) ≤ (h.2.1 70 4).toInt + 5 * a4.toInt ∧ 2 * V h.2.1 74 (h.2.1 70 6).toInt ≤ (h.2.1 70 4).toInt + a4.toInt + 1) (ht : TR h.2.1 (h.2.1 70 6).toInt ∧ BB h.2.1 (h.2.1 70 6).toInt a2.toInt ∧ OO h.2.1 (h.2.1 70 6).toInt (V h.2.1 92 a2.toInt) a4.toInt) (hd : 7 ≤ a4.toInt + (t : Int)), Mt l yX8_readItem cX8_readItem 7 none (d + 2) [.ref 70, .int a2, .int a3, .int a4] h 0 0 (fun r h' => r = none ∧ (∃ Q : PP, Iv Q h' ∧ MW P Q) ∧ ((h'.2.1 70 5).toInt = 0 → (h.2.1 70 5).toInt = 0) ∧ ((h.2.1 70 4).toInt ≤ (h'.2.1 70 4).toInt) ∧ ((h'.2.1 70 5).toInt = 0 → (h.2.1 70 4).toInt + 1 ≤ (h'.2.1 70 4).toInt ∧ 6 * (V h'.2.1 73 (h.2.1 70 6).toInt - V h'.2.1 75 (h.2.1 70 6).toInt) - (h'.2.1 70 4).toInt ≤ 6 * (V h.2.1 73 (h.2.1 70 6).toInt - V h.2.1 75 (h.2.1 70 6).toInt) - (h.2.1 70 4).toInt ∧ 2 * V h'.2.1 74 (h.2.1 70 6).toInt - (h'.2.1 70 4).toInt ≤ 2 * V h.2.1 74 (h.2.1 70 6).toInt - (h.2.1 70 4).toInt) ∧ ((h'.2.1 70 5).toInt = 0 → RI h.2.1 h'.2.1 (h.2.1 70 6).toInt a2.toInt a4.toInt) ∧ (st h' = g_X8_readItem (st h) a2.toInt a3.toInt a4.toInt) ∧ (FX KRt h h') ∧ (KP h.2.1 h'.2.1) ∧ (OH h.2.1 h'.2.1 (h.2.1 70 6).toInt) ∧ (CKF h.2.1 → CKF h'.2.1))) {P : PP} {h : HP} (hv : Iv P h) (a2 : Int32) (a2l : -1 ≤ a2.toInt) (a2u : a2.toInt ≤ 259) (a3 : Int32) (a3l : 0 ≤ a3.toInt) (a3u : a3.toInt ≤ 4) (a4 : Int32) (a4l : 0 ≤ a4.toInt) (a4u : a4.toInt ≤ 7) (hp : (h.2.1 70 5).toInt = 0 → 6 * (V h.2.1 73 (h.2.1 70 6).toInt - V h.2.1 75 (h.2.1 70 6).toInt) ≤ (h.2.1 70 4).toInt + 5 * a4.toInt ∧ 2 * V h.2.1 74 (h.2.1 70 6).toInt ≤ (h.2.1 70 4).toInt + a4.toInt) (ht : (h.2.1 70 5).toInt = 0 → TR h.2.1 (h.2.1 70 6).toInt ∧ OO h.2.1 (h.2.1 70 6).toInt a2.toInt a4.toInt) (hd : 7 ≤ a4.toInt + (t : Int)) : Mt l yX8_readBlock cX8_readBlock 5 (some .int) (d + 3) [.ref 70, .int a2, .int a3, .int a4] h 0 0 (fun r h' => ∃ v : Int32, r = some (.int v) ∧ 0 ≤ v.toInt ∧ v.toInt ≤ 559 ∧ (∃ Q : PP, Iv Q h' ∧ MW P Q) ∧ ((h'.2.1 70 5).toInt = 0 → (h.2.1 70 5).toInt = 0) ∧ ((h.2.1 70 4).toInt ≤ (h'.2.1 70 4).toInt) ∧ ((h'.2.1 70 5).toInt = 0 → (h.2.1 70 4).toInt + 2 ≤ (h'.2.1 70 4).toInt ∧ 6 * (V h'.2.1 73 (h.2.1 70 6).toInt - V h'.2.1 75 (h.2.1 70 6).toInt) - (h'.2.1 70 4).toInt ≤ 6 * (V h.2.1 73 (h.2.1 70 6).toInt - V h.2.1 75 (h.2.1 70 6).toInt) - (h.2.1 70 4).toInt - 2 ∧ 2 * V h'.2.1 74 (h.2.1 70 6).toInt - (h'.2.1 70 4).toInt ≤ 2 * V h.2.1 74 (h.2.1 70 6).toInt - (h.2.1 70 4).toInt) ∧ ((h'.2.1 70 5).toInt = 0 → RB h.2.1 h'.2.1 (h.2.1 70 6).toInt a2.toInt a4.toInt v.toInt) ∧ ((st h', v.toInt) = f_X8_readBlock_b g_X8_readItem (st h) a2.toInt a3.toInt a4.toInt) ∧ (FX KRt h h') ∧ (KP h.2.1 h'.2.1) ∧ (OH h.2.1 h'.2.1 (h.2.1 70 6).toInt) ∧ (CKF h.2.1 → CKF h'.2.1)) := by
  refine Mt_iv hv (by decide) (Nat.le_of_ble_eq_true rfl) ?_
  show Go l RX8 cX8_readBlock 5 (g_rm (d + 3) 0 0) "readBlock" (some .int) 117 0 0 (fun _ _ => True) (fun r h' => ∃ v : Int32, r = some (.int v) ∧ 0 ≤ v.toInt ∧ v.toInt ≤ 559 ∧ (∃ Q : PP, Iv Q h' ∧ MW P Q) ∧ ((h'.2.1 70 5).toInt = 0 → (h.2.1 70 5).toInt = 0) ∧ ((h.2.1 70 4).toInt ≤ (h'.2.1 70 4).toInt) ∧ ((h'.2.1 70 5).toInt = 0 → (h.2.1 70 4).toInt + 2 ≤ (h'.2.1 70 4).toInt ∧ 6 * (V h'.2.1 73 (h.2.1 70 6).toInt - V h'.2.1 75 (h.2.1 70 6).toInt) - (h'.2.1 70 4).toInt ≤ 6 * (V h.2.1 73 (h.2.1 70 6).toInt - V h.2.1 75 (h.2.1 70 6).toInt) - (h.2.1 70 4).toInt - 2 ∧ 2 * V h'.2.1 74 (h.2.1 70 6).toInt - (h'.2.1 70 4).toInt ≤ 2 * V h.2.1 74 (h.2.1 70 6).toInt - (h.2.1 70 4).toInt) ∧ ((h'.2.1 70 5).toInt = 0 → RB h.2.1 h'.2.1 (h.2.1 70 6).toInt a2.toInt a4.toInt v.toInt) ∧ ((st h', v.toInt) = f_X8_readBlock_b g_X8_readItem (st h) a2.toInt a3.toInt a4.toInt) ∧ (FX KRt h h') ∧ (KP h.2.1 h'.2.1) ∧ (OH h.2.1 h'.2.1 (h.2.1 70 6).toInt) ∧ (CKF h.2.1 → CKF h'.2.1)) 0 0 [(0, .ref 70), (1, .int a2), (2, .int a3), (3, .int a4)] [] h
  obtain ⟨S, hS⟩ : ∃ S : Int, S = (h.2.1 70 6).toInt := ⟨_, rfl⟩
  have S0 : 0 ≤ S := by rw [hS]; exact (hv.2.1 70 6).1
  have S1 : S ≤ 1 := by rw [hS]; exact (hv.2.1 70 6).2
  have oh : OH h.2.1 h.2.1 S := OH.rfl _ _
  have ck : CKF h.2.1 → CKF h.2.1 := id
  have kp : KP h.2.1 h.2.1 := KP.rfl _
  rw [← hS] at hp
  rw [← hS] at ht
  have fx : FX KRt h h := FX.rfl
  obtain ⟨fin, kf⟩ : ∃ z, z = f_X8_readBlock_b g_X8_readItem (st h) a2.toInt a3.toInt a4.toInt := ⟨_, _root_.rfl⟩
  have k0 := kf
  unfold f_X8_readBlock_b at k0
  have key : ∀ n : Nat, (∀ (l2 : Int32) (l3 : Int32) (l4 : Int32) (Qx : PP) (hx : HP), Iv Qx hx → MW P Qx → 0 ≤ l2.toInt → l2.toInt ≤ 4 → 0 ≤ l3.toInt → l3.toInt ≤ 7 → 0 ≤ l4.toInt → l4.toInt ≤ 559 → ((h.2.1 70 4).toInt ≤ (hx.2.1 70 4).toInt) → ((hx.2.1 70 5).toInt = 0 → LI h.2.1 hx.2.1 S a2.toInt a4.toInt l4.toInt) → ((hx.2.1 70 5).toInt = 0 → (h.2.1 70 5).toInt = 0) → (l2.toInt = a3.toInt) → (l3.toInt = a4.toInt) → ((hx.2.1 70 5).toInt = 0 → (h.2.1 70 4).toInt + 1 ≤ (hx.2.1 70 4).toInt ∧ 6 * (V hx.2.1 73 S - V hx.2.1 75 S) - (hx.2.1 70 4).toInt ≤ 6 * (V h.2.1 73 S - V h.2.1 75 S) - (h.2.1 70 4).toInt - 1 ∧ 2 * V hx.2.1 74 S - (hx.2.1 70 4).toInt ≤ 2 * V h.2.1 74 S - (h.2.1 70 4).toInt + 1 ∧ a4.toInt ≤ 6) → (0 ≤ gd (hx.2.1 70 5).toInt) → OH h.2.1 hx.2.1 S → (CKF h.2.1 → CKF hx.2.1) → KP h.2.1 hx.2.1 → (0 : Int) ≤ (hx.2.1 70 4).toInt → (hx.2.1 70 4).toInt ≤ 500 → (-2147483648 : Int) ≤ (hx.2.1 70 5).toInt → (hx.2.1 70 5).toInt ≤ 2147483647 → FX KRt h hx → fin = f_X8_readBlock_b_ g_X8_readItem n 8 l2.toInt l3.toInt l4.toInt (st hx) → (3 * (2 * (500 - (hx.2.1 70 4).toInt) + gd (hx.2.1 70 5).toInt) + 2 : Int) < n → Go l RX8 cX8_readBlock 5 (g_rm (d + 3) 0 0) "readBlock" (some .int) 117 0 0 (fun _ _ => True) (fun r h' => ∃ v : Int32, r = some (.int v) ∧ 0 ≤ v.toInt ∧ v.toInt ≤ 559 ∧ (∃ Q : PP, Iv Q h' ∧ MW P Q) ∧ ((h'.2.1 70 5).toInt = 0 → (h.2.1 70 5).toInt = 0) ∧ ((h.2.1 70 4).toInt ≤ (h'.2.1 70 4).toInt) ∧ ((h'.2.1 70 5).toInt = 0 → (h.2.1 70 4).toInt + 2 ≤ (h'.2.1 70 4).toInt ∧ 6 * (V h'.2.1 73 (h.2.1 70 6).toInt - V h'.2.1 75 (h.2.1 70 6).toInt) - (h'.2.1 70 4).toInt ≤ 6 * (V h.2.1 73 (h.2.1 70 6).toInt - V h.2.1 75 (h.2.1 70 6).toInt) - (h.2.1 70 4).toInt - 2 ∧ 2 * V h'.2.1 74 (h.2.1 70 6).toInt - (h'.2.1 70 4).toInt ≤ 2 * V h.2.1 74 (h.2.1 70 6).toInt - (h.2.1 70 4).toInt) ∧ ((h'.2.1 70 5).toInt = 0 → RB h.2.1 h'.2.1 (h.2.1 70 6).toInt a2.toInt a4.toInt v.toInt) ∧ ((st h', v.toInt) = f_X8_readBlock_b g_X8_readItem (st h) a2.toInt a3.toInt a4.toInt) ∧ (FX KRt h h') ∧ (KP h.2.1 h'.2.1) ∧ (OH h.2.1 h'.2.1 (h.2.1 70 6).toInt) ∧ (CKF h.2.1 → CKF h'.2.1)) 0 8 [(0, .ref 70), (2, .int l2), (3, .int l3), (4, .int l4)] [] hx) := by
    intro n
    induction n with
    | zero => exact (by intros; omega)
    | succ n ih =>
      refine ?_
      ·
        intro l2 l3 l4 Qx hx hvx sqx l2l l2u l3l l3u l4l l4u x0 x1 x2 x3 x4 x5 x6 ohx ckx kpx y0l y0u y1l y1u fxx kL hm
        rw [f_X8_readBlock_b_] at kL
        have gdx := gd_spec (hx.2.1 70 5).toInt
        refine go_aload_n (pc := 8) rfl dX8_readBlock_8 ?_
        refine go_invV (pc := 9) (sl := 0) (s_X8_isGood_f l (d + 1) hvx ) mL_X8_172 iM_X8_isGood sM_X8_isGood (hvx.sh rfl) rfl rfl rfl (Nat.le_of_ble_eq_true rfl) (show d + 1 + 1 + 1 ≤ d + 3 by omega) (show 8 + (1 + 11) + 40 * (d + 1 + 1) ≤ 40 * (d + 3) by omega) (g_c0 hvx.ln) (Nat.le_of_ble_eq_true rfl) dX8_readBlock_9 ?_
        intro r h1 hq _
        obtain ⟨v5, rfl, v5l, v5u, rfl, f2, f3, f4⟩ := hq
        replace f4 : PE _ _ := f4
        have k6 := bd_e kL f4.symm
        refine gf_if_eq (pc := 12) (tgt := 35) (ti_rfl v5) (by decide) dX8_readBlock_12 (fun q7 => ?_) (fun q7 => ?_)
        ·
          have k8 := if_t k6 q7
          refine go_aload_n (pc := 35) rfl dX8_readBlock_35 ?_
          refine go_bipush (pc := 36) (v := 125) (by decide) dX8_readBlock_36 ?_
          have g9 : (0 : Int) ≤ (hx.2.1 70 4).toInt := (hvx.2.1 70 4).1
          have g10 : (hx.2.1 70 4).toInt ≤ 500 := (hvx.2.1 70 4).2
          have g11 : (-2147483648 : Int) ≤ (hx.2.1 70 5).toInt := (hvx.2.1 70 5).1
          have g12 : (hx.2.1 70 5).toInt ≤ 2147483647 := (hvx.2.1 70 5).2
          refine go_invV (pc := 38) (sl := 0) (s_X8_must_f l (d + 0) hvx 125 (by rw [show (125 : Int32).toInt = 125 from (ti_c (v := 125) (a := 125) (by decide))]; omega) (by rw [show (125 : Int32).toInt = 125 from (ti_c (v := 125) (a := 125) (by decide))]; omega)) mL_X8_198 iM_X8_must sM_X8_must (hvx.sh rfl) rfl rfl rfl (Nat.le_of_ble_eq_true rfl) (show d + 0 + 2 + 1 ≤ d + 3 by omega) (show 8 + (2 + 11) + 40 * (d + 0 + 2) ≤ 40 * (d + 3) by omega) (g_c0 hvx.ln) (Nat.le_of_ble_eq_true rfl) dX8_readBlock_38 ?_
          intro r h13 hq _
          obtain ⟨rfl, hv13, f14, f15, f16, f17, f18⟩ := hq
          try rw [show (125 : Int32).toInt = 125 from (ti_c (v := 125) (a := 125) (by decide))] at f14
          try rw [show (125 : Int32).toInt = 125 from (ti_c (v := 125) (a := 125) (by decide))] at f15
          try rw [show (125 : Int32).toInt = 125 from (ti_c (v := 125) (a := 125) (by decide))] at f16
          try rw [show (125 : Int32).toInt = 125 from (ti_c (v := 125) (a := 125) (by decide))] at f17
          try rw [show (125 : Int32).toInt = 125 from (ti_c (v := 125) (a := 125) (by decide))] at f18
          have fx13 : FX KRt h h13 := FX.tr fxx f18
          have k19 := bd_e k8 f17.symm
          have ve13 : VE hx.2.1 h13.2.1 := VE.of hvx hv13
          have oh13 : OH h.2.1 h13.2.1 S := ohx.trans (OH.of hvx hv13 S)
          have kp13 : KP h.2.1 h13.2.1 := kpx.trans (KP.ve ve13)
          have ck13 : CKF h.2.1 → CKF h13.2.1 := fun z => CKF.ve ve13 (ckx z)
          have n73_13 : V h13.2.1 73 S = V hx.2.1 73 S := ve13.v (by omega) (by omega)
          have n74_13 : V h13.2.1 74 S = V hx.2.1 74 S := ve13.v (by omega) (by omega)
          have n75_13 : V h13.2.1 75 S = V hx.2.1 75 S := ve13.v (by omega) (by omega)
          obtain ⟨u20, u20w⟩ : ∃ v : Int32, v = h13.2.1 70 4 := ⟨_, rfl⟩
          have u20e : (h13.2.1 70 4).toInt = u20.toInt := by rw [u20w]
          have u20l : 0 ≤ u20.toInt := by rw [u20w]; exact (hv13.2.1 70 4).1
          have u20u : u20.toInt ≤ 500 := by rw [u20w]; exact (hv13.2.1 70 4).2
          have k21 := k19
          obtain ⟨u22, u22w⟩ : ∃ v : Int32, v = h13.2.1 70 5 := ⟨_, rfl⟩
          have u22e : (h13.2.1 70 5).toInt = u22.toInt := by rw [u22w]
          have u22l : -2147483648 ≤ u22.toInt := by rw [u22w]; exact (hv13.2.1 70 5).1
          have u22u : u22.toInt ≤ 2147483647 := by rw [u22w]; exact (hv13.2.1 70 5).2
          have k23 := k21
          refine go_iload (pc := 41) rfl dX8_readBlock_41 ?_
          have g24 : (0 : Int) ≤ (h13.2.1 70 4).toInt := (hv13.2.1 70 4).1
          have g25 : (h13.2.1 70 4).toInt ≤ 500 := (hv13.2.1 70 4).2
          have g26 : (-2147483648 : Int) ≤ (h13.2.1 70 5).toInt := (hv13.2.1 70 5).1
          have g27 : (h13.2.1 70 5).toInt ≤ 2147483647 := (hv13.2.1 70 5).2
          have g28 : (h13.2.1 70 4).toInt = u20.toInt := by rw [← (show u20 = h13.2.1 70 4 from u20w)] <;> exact (ti_rfl u20)
          have g29 : (h13.2.1 70 5).toInt = u22.toInt := by rw [← (show u22 = h13.2.1 70 5 from u22w)] <;> exact (ti_rfl u22)
          have pp30 : (h13.2.1 70 5).toInt = 0 → (h.2.1 70 5).toInt = 0 := (by omega)
          have pp31 : (h.2.1 70 4).toInt ≤ (h13.2.1 70 4).toInt := (by omega)
          have pp32 : (h13.2.1 70 5).toInt = 0 → (h.2.1 70 4).toInt + 2 ≤ (h13.2.1 70 4).toInt ∧ 6 * (V h13.2.1 73 S - V h13.2.1 75 S) - (h13.2.1 70 4).toInt ≤ 6 * (V h.2.1 73 S - V h.2.1 75 S) - (h.2.1 70 4).toInt - 2 ∧ 2 * V h13.2.1 74 S - (h13.2.1 70 4).toInt ≤ 2 * V h.2.1 74 S - (h.2.1 70 4).toInt := (by omega)
          have pp33 : (h13.2.1 70 5).toInt = 0 → RB h.2.1 h13.2.1 S a2.toInt a4.toInt (l4 : Int32).toInt := (fun hg => LI.fin (LI.ve (x1 (by omega)) ve13))
          have pp34 : (st h13, (l4 : Int32).toInt) = f_X8_readBlock_b g_X8_readItem (st h) a2.toInt a3.toInt a4.toInt := (k23.symm.trans kf)
          have pp35 : FX KRt h h13 := fx13
          subst hS
          exact gi_iret (pc := 43) (ti_rfl l4) ⟨_, rfl, (by rw [show (l4 : Int32).toInt = l4.toInt from (ti_rfl l4)]; omega), (by rw [show (l4 : Int32).toInt = l4.toInt from (ti_rfl l4)]; omega), ⟨_, hv13, sqx⟩, pp30, pp31, pp32, pp33, pp34, pp35, kp13, oh13, ck13⟩ hv13 dX8_readBlock_43
        ·
          have k36 := if_f k6 q7
          refine go_aload_n (pc := 15) rfl dX8_readBlock_15 ?_
          have g37 : (0 : Int) ≤ (hx.2.1 70 4).toInt := (hvx.2.1 70 4).1
          have g38 : (hx.2.1 70 4).toInt ≤ 500 := (hvx.2.1 70 4).2
          have g39 : (-2147483648 : Int) ≤ (hx.2.1 70 5).toInt := (hvx.2.1 70 5).1
          have g40 : (hx.2.1 70 5).toInt ≤ 2147483647 := (hvx.2.1 70 5).2
          refine go_invV (pc := 16) (sl := 0) (s_X8_here_f l (d + 1) hvx ) mL_X8_176 iM_X8_here sM_X8_here (hvx.sh rfl) rfl rfl rfl (Nat.le_of_ble_eq_true rfl) (show d + 1 + 1 + 1 ≤ d + 3 by omega) (show 8 + (1 + 11) + 40 * (d + 1 + 1) ≤ 40 * (d + 3) by omega) (g_c0 hvx.ln) (Nat.le_of_ble_eq_true rfl) dX8_readBlock_16 ?_
          intro r h41 hq _
          obtain ⟨v48, rfl, v48l, v48u, hv41, f42, f43, f44, f45, f46, f47⟩ := hq
          have fx41 : FX KRt h h41 := FX.tr fxx f47
          have k49 := bd2_e k36 f46
          have ve41 : VE hx.2.1 h41.2.1 := VE.of hvx hv41
          have oh41 : OH h.2.1 h41.2.1 S := ohx.trans (OH.of hvx hv41 S)
          have kp41 : KP h.2.1 h41.2.1 := kpx.trans (KP.ve ve41)
          have ck41 : CKF h.2.1 → CKF h41.2.1 := fun z => CKF.ve ve41 (ckx z)
          have n73_41 : V h41.2.1 73 S = V hx.2.1 73 S := ve41.v (by omega) (by omega)
          have n74_41 : V h41.2.1 74 S = V hx.2.1 74 S := ve41.v (by omega) (by omega)
          have n75_41 : V h41.2.1 75 S = V hx.2.1 75 S := ve41.v (by omega) (by omega)
          obtain ⟨u50, u50w⟩ : ∃ v : Int32, v = h41.2.1 70 4 := ⟨_, rfl⟩
          have u50e : (h41.2.1 70 4).toInt = u50.toInt := by rw [u50w]
          have u50l : 0 ≤ u50.toInt := by rw [u50w]; exact (hv41.2.1 70 4).1
          have u50u : u50.toInt ≤ 500 := by rw [u50w]; exact (hv41.2.1 70 4).2
          have k51 := k49
          obtain ⟨u52, u52w⟩ : ∃ v : Int32, v = h41.2.1 70 5 := ⟨_, rfl⟩
          have u52e : (h41.2.1 70 5).toInt = u52.toInt := by rw [u52w]
          have u52l : -2147483648 ≤ u52.toInt := by rw [u52w]; exact (hv41.2.1 70 5).1
          have u52u : u52.toInt ≤ 2147483647 := by rw [u52w]; exact (hv41.2.1 70 5).2
          have k53 := k51
          refine go_bipush (pc := 19) (v := 125) (by decide) dX8_readBlock_19 ?_
          refine gf_icmp_eq (pc := 21) (tgt := 35) (ti_rfl v48) (ti_c (v := 125) (a := 125) (by decide)) (by decide) dX8_readBlock_21 (fun q54 => ?_) (fun q54 => ?_)
          ·
            have k55 := if_t k53 q54
            refine go_aload_n (pc := 35) rfl dX8_readBlock_35 ?_
            refine go_bipush (pc := 36) (v := 125) (by decide) dX8_readBlock_36 ?_
            have g56 : (0 : Int) ≤ (h41.2.1 70 4).toInt := (hv41.2.1 70 4).1
            have g57 : (h41.2.1 70 4).toInt ≤ 500 := (hv41.2.1 70 4).2
            have g58 : (-2147483648 : Int) ≤ (h41.2.1 70 5).toInt := (hv41.2.1 70 5).1
            have g59 : (h41.2.1 70 5).toInt ≤ 2147483647 := (hv41.2.1 70 5).2
            have g60 : (h41.2.1 70 4).toInt = u50.toInt := by rw [← (show u50 = h41.2.1 70 4 from u50w)] <;> exact (ti_rfl u50)
            have g61 : (h41.2.1 70 5).toInt = u52.toInt := by rw [← (show u52 = h41.2.1 70 5 from u52w)] <;> exact (ti_rfl u52)
            refine go_invV (pc := 38) (sl := 0) (s_X8_must_f l (d + 0) hv41 125 (by rw [show (125 : Int32).toInt = 125 from (ti_c (v := 125) (a := 125) (by decide))]; omega) (by rw [show (125 : Int32).toInt = 125 from (ti_c (v := 125) (a := 125) (by decide))]; omega)) mL_X8_198 iM_X8_must sM_X8_must (hv41.sh rfl) rfl rfl rfl (Nat.le_of_ble_eq_true rfl) (show d + 0 + 2 + 1 ≤ d + 3 by omega) (show 8 + (2 + 11) + 40 * (d + 0 + 2) ≤ 40 * (d + 3) by omega) (g_c0 hv41.ln) (Nat.le_of_ble_eq_true rfl) dX8_readBlock_38 ?_
            intro r h62 hq _
            obtain ⟨rfl, hv62, f63, f64, f65, f66, f67⟩ := hq
            try rw [show (125 : Int32).toInt = 125 from (ti_c (v := 125) (a := 125) (by decide))] at f63
            try rw [show (125 : Int32).toInt = 125 from (ti_c (v := 125) (a := 125) (by decide))] at f64
            try rw [show (125 : Int32).toInt = 125 from (ti_c (v := 125) (a := 125) (by decide))] at f65
            try rw [show (125 : Int32).toInt = 125 from (ti_c (v := 125) (a := 125) (by decide))] at f66
            try rw [show (125 : Int32).toInt = 125 from (ti_c (v := 125) (a := 125) (by decide))] at f67
            have fx62 : FX KRt h h62 := FX.tr fx41 f67
            have k68 := bd_e k55 f66.symm
            have ve62 : VE h41.2.1 h62.2.1 := VE.of hv41 hv62
            have oh62 : OH h.2.1 h62.2.1 S := oh41.trans (OH.of hv41 hv62 S)
            have kp62 : KP h.2.1 h62.2.1 := kp41.trans (KP.ve ve62)
            have ck62 : CKF h.2.1 → CKF h62.2.1 := fun z => CKF.ve ve62 (ck41 z)
            have n73_62 : V h62.2.1 73 S = V h41.2.1 73 S := ve62.v (by omega) (by omega)
            have n74_62 : V h62.2.1 74 S = V h41.2.1 74 S := ve62.v (by omega) (by omega)
            have n75_62 : V h62.2.1 75 S = V h41.2.1 75 S := ve62.v (by omega) (by omega)
            obtain ⟨u69, u69w⟩ : ∃ v : Int32, v = h62.2.1 70 4 := ⟨_, rfl⟩
            have u69e : (h62.2.1 70 4).toInt = u69.toInt := by rw [u69w]
            have u69l : 0 ≤ u69.toInt := by rw [u69w]; exact (hv62.2.1 70 4).1
            have u69u : u69.toInt ≤ 500 := by rw [u69w]; exact (hv62.2.1 70 4).2
            have k70 := k68
            obtain ⟨u71, u71w⟩ : ∃ v : Int32, v = h62.2.1 70 5 := ⟨_, rfl⟩
            have u71e : (h62.2.1 70 5).toInt = u71.toInt := by rw [u71w]
            have u71l : -2147483648 ≤ u71.toInt := by rw [u71w]; exact (hv62.2.1 70 5).1
            have u71u : u71.toInt ≤ 2147483647 := by rw [u71w]; exact (hv62.2.1 70 5).2
            have k72 := k70
            refine go_iload (pc := 41) rfl dX8_readBlock_41 ?_
            have g73 : (0 : Int) ≤ (h62.2.1 70 4).toInt := (hv62.2.1 70 4).1
            have g74 : (h62.2.1 70 4).toInt ≤ 500 := (hv62.2.1 70 4).2
            have g75 : (-2147483648 : Int) ≤ (h62.2.1 70 5).toInt := (hv62.2.1 70 5).1
            have g76 : (h62.2.1 70 5).toInt ≤ 2147483647 := (hv62.2.1 70 5).2
            have g77 : (h62.2.1 70 4).toInt = u69.toInt := by rw [← (show u69 = h62.2.1 70 4 from u69w)] <;> exact (ti_rfl u69)
            have g78 : (h62.2.1 70 5).toInt = u71.toInt := by rw [← (show u71 = h62.2.1 70 5 from u71w)] <;> exact (ti_rfl u71)
            have pp79 : (h62.2.1 70 5).toInt = 0 → (h.2.1 70 5).toInt = 0 := (by omega)
            have pp80 : (h.2.1 70 4).toInt ≤ (h62.2.1 70 4).toInt := (by omega)
            have pp81 : (h62.2.1 70 5).toInt = 0 → (h.2.1 70 4).toInt + 2 ≤ (h62.2.1 70 4).toInt ∧ 6 * (V h62.2.1 73 S - V h62.2.1 75 S) - (h62.2.1 70 4).toInt ≤ 6 * (V h.2.1 73 S - V h.2.1 75 S) - (h.2.1 70 4).toInt - 2 ∧ 2 * V h62.2.1 74 S - (h62.2.1 70 4).toInt ≤ 2 * V h.2.1 74 S - (h.2.1 70 4).toInt := (by omega)
            have pp82 : (h62.2.1 70 5).toInt = 0 → RB h.2.1 h62.2.1 S a2.toInt a4.toInt (l4 : Int32).toInt := (fun hg => LI.fin (LI.ve (LI.ve (x1 (by omega)) ve41) ve62))
            have pp83 : (st h62, (l4 : Int32).toInt) = f_X8_readBlock_b g_X8_readItem (st h) a2.toInt a3.toInt a4.toInt := (k72.symm.trans kf)
            have pp84 : FX KRt h h62 := fx62
            subst hS
            exact gi_iret (pc := 43) (ti_rfl l4) ⟨_, rfl, (by rw [show (l4 : Int32).toInt = l4.toInt from (ti_rfl l4)]; omega), (by rw [show (l4 : Int32).toInt = l4.toInt from (ti_rfl l4)]; omega), ⟨_, hv62, sqx⟩, pp79, pp80, pp81, pp82, pp83, pp84, kp62, oh62, ck62⟩ hv62 dX8_readBlock_43
          ·
            have k85 := if_f k53 q54
            refine go_aload_n (pc := 24) rfl dX8_readBlock_24 ?_
            refine go_iload (pc := 25) rfl dX8_readBlock_25 ?_
            refine go_iload_n (pc := 27) rfl dX8_readBlock_27 ?_
            refine go_iload_n (pc := 28) rfl dX8_readBlock_28 ?_
            have hgg : (h.2.1 70 5).toInt = 0 := by omega
            have li := ((LI.ve (x1 (by omega)) ve41)) (ht hgg).1 (ht hgg).2
            obtain ⟨t1, t2, t3, t4, t5, t6, t7⟩ := li
            have tp := (ht hgg).1.1
            have hpp := hp hgg
            have sM86 : (h41.2.1 70 6).toInt = S := (congrArg Int32.toInt oh41.side).trans hS.symm
            have g87 : (0 : Int) ≤ (h41.2.1 70 4).toInt := (hv41.2.1 70 4).1
            have g88 : (h41.2.1 70 4).toInt ≤ 500 := (hv41.2.1 70 4).2
            have g89 : (-2147483648 : Int) ≤ (h41.2.1 70 5).toInt := (hv41.2.1 70 5).1
            have g90 : (h41.2.1 70 5).toInt ≤ 2147483647 := (hv41.2.1 70 5).2
            have g91 : (h41.2.1 70 4).toInt = u50.toInt := by rw [← (show u50 = h41.2.1 70 4 from u50w)] <;> exact (ti_rfl u50)
            have g92 : (h41.2.1 70 5).toInt = u52.toInt := by rw [← (show u52 = h41.2.1 70 5 from u52w)] <;> exact (ti_rfl u52)
            refine go_invV (pc := 29) (sl := 0) (ihI hv41 l4 (by rw [show (l4 : Int32).toInt = l4.toInt from (ti_rfl l4)]; omega) (by rw [show (l4 : Int32).toInt = l4.toInt from (ti_rfl l4)]; omega) l2 (by rw [show (l2 : Int32).toInt = l2.toInt from (ti_rfl l2)]; omega) (by rw [show (l2 : Int32).toInt = l2.toInt from (ti_rfl l2)]; omega) l3 (by rw [show (l3 : Int32).toInt = l3.toInt from (ti_rfl l3)]; omega) (by rw [show (l3 : Int32).toInt = l3.toInt from (ti_rfl l3)]; omega) (by omega) (by rw [sM86]; exact (by omega)) (by rw [sM86]; exact ⟨t1, ⟨by omega, t5⟩, by rw [t6, x4]; exact t7⟩) (by omega)) mL_X8_194 iM_X8_readItem sM_X8_readItem (hv41.sh rfl) rfl rfl rfl (Nat.le_of_ble_eq_true rfl) (show d + 2 + 1 ≤ d + 3 by omega) (show 8 + (7 + 11) + 40 * (d + 2) ≤ 40 * (d + 3) by omega) (g_c0 hv41.ln) (Nat.le_of_ble_eq_true rfl) dX8_readBlock_29 ?_
            intro r h93 hq _
            obtain ⟨rfl, ⟨Q94, hv93, sq95⟩, f96, f97, f98, f99, f100, f101, f102, f103, f104⟩ := hq
            rw [sM86] at f98
            rw [sM86] at f99
            rw [sM86] at f103
            have oh93 : OH h.2.1 h93.2.1 S := oh41.trans f103
            have kp93 : KP h.2.1 h93.2.1 := kp41.trans f102
            have ck93 : CKF h.2.1 → CKF h93.2.1 := fun z => f104 (ck41 z)
            have fx93 : FX KRt h h93 := FX.tr fx41 f101
            have k105 := bd_e k85 f100.symm
            obtain ⟨u106, u106w⟩ : ∃ v : Int32, v = h93.2.1 70 4 := ⟨_, rfl⟩
            have u106e : (h93.2.1 70 4).toInt = u106.toInt := by rw [u106w]
            have u106l : 0 ≤ u106.toInt := by rw [u106w]; exact (hv93.2.1 70 4).1
            have u106u : u106.toInt ≤ 500 := by rw [u106w]; exact (hv93.2.1 70 4).2
            have k107 := k105
            obtain ⟨u108, u108w⟩ : ∃ v : Int32, v = h93.2.1 70 5 := ⟨_, rfl⟩
            have u108e : (h93.2.1 70 5).toInt = u108.toInt := by rw [u108w]
            have u108l : -2147483648 ≤ u108.toInt := by rw [u108w]; exact (hv93.2.1 70 5).1
            have u108u : u108.toInt ≤ 2147483647 := by rw [u108w]; exact (hv93.2.1 70 5).2
            have k109 := k107
            have gdk := gd_spec (h93.2.1 70 5).toInt
            refine go_goto (pc := 32) (tgt := 8) (by decide) dX8_readBlock_32 ?_
            have g110 : (0 : Int) ≤ (h93.2.1 70 4).toInt := (hv93.2.1 70 4).1
            have g111 : (h93.2.1 70 4).toInt ≤ 500 := (hv93.2.1 70 4).2
            have g112 : (-2147483648 : Int) ≤ (h93.2.1 70 5).toInt := (hv93.2.1 70 5).1
            have g113 : (h93.2.1 70 5).toInt ≤ 2147483647 := (hv93.2.1 70 5).2
            have g114 : (h93.2.1 70 4).toInt = u106.toInt := by rw [← (show u106 = h93.2.1 70 4 from u106w)] <;> exact (ti_rfl u106)
            have g115 : (h93.2.1 70 5).toInt = u108.toInt := by rw [← (show u108 = h93.2.1 70 5 from u108w)] <;> exact (ti_rfl u108)
            exact go_lv rfl (ih l2 l3 l4 _ h93 hv93 (MW.trans sqx sq95) (by omega) (by omega) (by omega) (by omega) (by omega) (by omega) (by omega) (fun hg => (LI.step S0 (LI.ve (x1 (by omega)) ve41) (by have q := f99 (by omega); rw [x4] at q; exact q))) (by omega) (by omega) (by omega) (by omega) (by omega) oh93 ck93 kp93 (by omega) (by omega) (by omega) (by omega) fx93 k109 (by omega))
  refine go_aload_n (pc := 0) rfl dX8_readBlock_0 ?_
  refine go_iload_n (pc := 1) rfl dX8_readBlock_1 ?_
  refine go_iload_n (pc := 2) rfl dX8_readBlock_2 ?_
  have sM116 : (h.2.1 70 6).toInt = S := (congrArg Int32.toInt oh.side).trans hS.symm
  have g117 : (0 : Int) ≤ (h.2.1 70 4).toInt := (hv.2.1 70 4).1
  have g118 : (h.2.1 70 4).toInt ≤ 500 := (hv.2.1 70 4).2
  have g119 : (-2147483648 : Int) ≤ (h.2.1 70 5).toInt := (hv.2.1 70 5).1
  have g120 : (h.2.1 70 5).toInt ≤ 2147483647 := (hv.2.1 70 5).2
  refine go_invV (pc := 3) (sl := 0) (s_X8_newBlock_f l (d + 0) hv a2 (by rw [show (a2 : Int32).toInt = a2.toInt from (ti_rfl a2)]; omega) (by rw [show (a2 : Int32).toInt = a2.toInt from (ti_rfl a2)]; omega) a4 (by rw [show (a4 : Int32).toInt = a4.toInt from (ti_rfl a4)]; omega) (by rw [show (a4 : Int32).toInt = a4.toInt from (ti_rfl a4)]; omega) (by rw [sM116]; exact (fun q => by have := hp q; omega))) mL_X8_190 iM_X8_newBlock sM_X8_newBlock (hv.sh rfl) rfl rfl rfl (Nat.le_of_ble_eq_true rfl) (show d + 0 + 2 + 1 ≤ d + 3 by omega) (show 8 + (4 + 11) + 40 * (d + 0 + 2) ≤ 40 * (d + 3) by omega) (g_c0 hv.ln) (Nat.le_of_ble_eq_true rfl) dX8_readBlock_3 ?_
  intro r h121 hq _
  obtain ⟨v135, rfl, v135l, v135u, ⟨Q122, hv121, sq123⟩, f124, f125, f126, f127, f128, f129, f130, f131, f132, f133, f134⟩ := hq
  rw [sM116] at f126
  rw [sM116] at f127
  rw [sM116] at f128
  rw [sM116] at f129
  rw [sM116] at f133
  have oh121 : OH h.2.1 h121.2.1 S := oh.trans f133
  have kp121 : KP h.2.1 h121.2.1 := kp.trans f132
  have ck121 : CKF h.2.1 → CKF h121.2.1 := fun z => f134 (ck z)
  have fx121 : FX KRt h h121 := FX.tr fx f131
  have k136 := bd2_e k0 f130
  obtain ⟨u137, u137w⟩ : ∃ v : Int32, v = h121.2.1 70 4 := ⟨_, rfl⟩
  have u137e : (h121.2.1 70 4).toInt = u137.toInt := by rw [u137w]
  have u137l : 0 ≤ u137.toInt := by rw [u137w]; exact (hv121.2.1 70 4).1
  have u137u : u137.toInt ≤ 500 := by rw [u137w]; exact (hv121.2.1 70 4).2
  have k138 := k136
  obtain ⟨u139, u139w⟩ : ∃ v : Int32, v = h121.2.1 70 5 := ⟨_, rfl⟩
  have u139e : (h121.2.1 70 5).toInt = u139.toInt := by rw [u139w]
  have u139l : -2147483648 ≤ u139.toInt := by rw [u139w]; exact (hv121.2.1 70 5).1
  have u139u : u139.toInt ≤ 2147483647 := by rw [u139w]; exact (hv121.2.1 70 5).2
  have k140 := k138
  have gdk := gd_spec (h121.2.1 70 5).toInt
  refine go_istore (pc := 6) (Nat.le_of_ble_eq_true rfl) dX8_readBlock_6 (go_lv (lv2 := [(0, .ref 70), (1, .int a2), (2, .int a3), (3, .int a4), (4, .int v135)]) rfl ?_)
  have g141 : (0 : Int) ≤ (h121.2.1 70 4).toInt := (hv121.2.1 70 4).1
  have g142 : (h121.2.1 70 4).toInt ≤ 500 := (hv121.2.1 70 4).2
  have g143 : (-2147483648 : Int) ≤ (h121.2.1 70 5).toInt := (hv121.2.1 70 5).1
  have g144 : (h121.2.1 70 5).toInt ≤ 2147483647 := (hv121.2.1 70 5).2
  have g145 : (h121.2.1 70 4).toInt = u137.toInt := by rw [← (show u137 = h121.2.1 70 4 from u137w)] <;> exact (ti_rfl u137)
  have g146 : (h121.2.1 70 5).toInt = u139.toInt := by rw [← (show u139 = h121.2.1 70 5 from u139w)] <;> exact (ti_rfl u139)
  exact go_lv rfl ((key 3022) a3 a4 v135 _ h121 hv121 sq123 (by omega) (by omega) (by omega) (by omega) (by omega) (by omega) (by omega) (fun hg => (f129 (by omega) _)) (by omega) (by omega) (by omega) (by omega) (by omega) oh121 ck121 kp121 (by omega) (by omega) (by omega) (by omega) fx121 k140 (by omega))
def f_X8_readTest_b (g_X8_readBlock : ST → Int → Int → Int → ST × Int) (s : ST) (a2 : Int) (a3 : Int) (a4 : Int) : ST :=
  bd (f_X8_operand s a2 0) fun s6 => bd (f_X8_must s6 60) fun s31 => bd (f_X8_operand s31 a2 1) fun s49 => bd (f_X8_isGood s49) fun v72 => if ¬ v72 = 0 then (bd2 (g_X8_readBlock s49 a2 a3 ((a4 + 1))) fun s85 v97 => bd (sI s85 85 (a2).toNat v97) fun s103 => bd (f_X8_isGood s103) fun v109 => if v109 = 0 then (s103) else (bd (s103.1 77 (a2).toNat) fun v126 => if v126 = 3 then (s103) else (bd2 (f_X8_here s103) fun s149 v156 => bd (s149.1 70 4) fun u158 => if v156 = 58 then (bd (sI s149 70 4 ((u158 + 1))) fun s167 => bd2 (g_X8_readBlock s167 a2 a3 ((a4 + 1))) fun s178 v190 => bd (sI s178 86 (a2).toNat v190) fun s196 => s196) else (s149)))) else (s49)
set_option maxHeartbeats 4000000 in
set_option maxRecDepth 100000 in
theorem s_X8_readTest_b_f (l : Launch) (d : Nat) {t : Nat} (g_X8_readBlock : ST → Int → Int → Int → ST × Int) (ihB : ∀ {P : PP} {h : HP} (_ : Iv P h) (a2 : Int32) (a2l : -1 ≤ a2.toInt) (a2u : a2.toInt ≤ 259) (a3 : Int32) (a3l : 0 ≤ a3.toInt) (a3u : a3.toInt ≤ 4) (a4 : Int32) (a4l : 0 ≤ a4.toInt) (a4u : a4.toInt ≤ 7) (hp : (h.2.1 70 5).toInt = 0 → 6 * (V h.2.1 73 (h.2.1 70 6).toInt - V h.2.1 75 (h.2.1 70 6).toInt) ≤ (h.2.1 70 4).toInt + 5 * a4.toInt ∧ 2 * V h.2.1 74 (h.2.1 70 6).toInt ≤ (h.2.1 70 4).toInt + a4.toInt) (ht : (h.2.1 70 5).toInt = 0 → TR h.2.1 (h.2.1 70 6).toInt ∧ OO h.2.1 (h.2.1 70 6).toInt a2.toInt a4.toInt) (hd : 7 ≤ a4.toInt + (t : Int)), Mt l yX8_readBlock cX8_readBlock 5 (some .int) (d + 3) [.ref 70, .int a2, .int a3, .int a4] h 0 0 (fun r h' => ∃ v : Int32, r = some (.int v) ∧ 0 ≤ v.toInt ∧ v.toInt ≤ 559 ∧ (∃ Q : PP, Iv Q h' ∧ MW P Q) ∧ ((h'.2.1 70 5).toInt = 0 → (h.2.1 70 5).toInt = 0) ∧ ((h.2.1 70 4).toInt ≤ (h'.2.1 70 4).toInt) ∧ ((h'.2.1 70 5).toInt = 0 → (h.2.1 70 4).toInt + 2 ≤ (h'.2.1 70 4).toInt ∧ 6 * (V h'.2.1 73 (h.2.1 70 6).toInt - V h'.2.1 75 (h.2.1 70 6).toInt) - (h'.2.1 70 4).toInt ≤ 6 * (V h.2.1 73 (h.2.1 70 6).toInt - V h.2.1 75 (h.2.1 70 6).toInt) - (h.2.1 70 4).toInt - 2 ∧ 2 * V h'.2.1 74 (h.2.1 70 6).toInt - (h'.2.1 70 4).toInt ≤ 2 * V h.2.1 74 (h.2.1 70 6).toInt - (h.2.1 70 4).toInt) ∧ ((h'.2.1 70 5).toInt = 0 → RB h.2.1 h'.2.1 (h.2.1 70 6).toInt a2.toInt a4.toInt v.toInt) ∧ ((st h', v.toInt) = g_X8_readBlock (st h) a2.toInt a3.toInt a4.toInt) ∧ (FX KRt h h') ∧ (KP h.2.1 h'.2.1) ∧ (OH h.2.1 h'.2.1 (h.2.1 70 6).toInt) ∧ (CKF h.2.1 → CKF h'.2.1))) {P : PP} {h : HP} (hv : Iv P h) (a2 : Int32) (a2l : 0 ≤ a2.toInt) (a2u : a2.toInt ≤ 259) (a3 : Int32) (a3l : 0 ≤ a3.toInt) (a3u : a3.toInt ≤ 4) (a4 : Int32) (a4l : 0 ≤ a4.toInt) (a4u : a4.toInt ≤ 6) (hi : 130 * (h.2.1 70 6).toInt ≤ a2.toInt ∧ a2.toInt < 130 * (h.2.1 70 6).toInt + 130) (h0 : (h.2.1 70 5).toInt = 0) (hp : 6 * (V h.2.1 73 (h.2.1 70 6).toInt - V h.2.1 75 (h.2.1 70 6).toInt) ≤ (h.2.1 70 4).toInt + 5 * a4.toInt + 5 ∧ 2 * V h.2.1 74 (h.2.1 70 6).toInt ≤ (h.2.1 70 4).toInt + a4.toInt + 1) (ht : TR h.2.1 (h.2.1 70 6).toInt ∧ a2.toInt = 130 * (h.2.1 70 6).toInt + V h.2.1 73 (h.2.1 70 6).toInt - 1 ∧ 0 < V h.2.1 73 (h.2.1 70 6).toInt ∧ V h.2.1 80 a2.toInt = a4.toInt ∧ (V h.2.1 77 a2.toInt = 2 ∨ V h.2.1 77 a2.toInt = 3)) (hd : 7 ≤ a4.toInt + ((t + 1 : Nat) : Int)) : Mt l yX8_readTest cX8_readTest 4 none (d + 4) [.ref 70, .int a2, .int a3, .int a4] h 0 0 (fun r h' => r = none ∧ (∃ Q : PP, Iv Q h' ∧ MW P Q) ∧ ((h'.2.1 70 5).toInt = 0 → (h.2.1 70 5).toInt = 0) ∧ ((h.2.1 70 4).toInt ≤ (h'.2.1 70 4).toInt) ∧ ((h'.2.1 70 5).toInt = 0 → 6 * (V h'.2.1 73 (h.2.1 70 6).toInt - V h'.2.1 75 (h.2.1 70 6).toInt) - (h'.2.1 70 4).toInt ≤ 6 * (V h.2.1 73 (h.2.1 70 6).toInt - V h.2.1 75 (h.2.1 70 6).toInt) - (h.2.1 70 4).toInt - 0 ∧ 2 * V h'.2.1 74 (h.2.1 70 6).toInt - (h'.2.1 70 4).toInt ≤ 2 * V h.2.1 74 (h.2.1 70 6).toInt - (h.2.1 70 4).toInt) ∧ ((h'.2.1 70 5).toInt = 0 → RT h.2.1 h'.2.1 (h.2.1 70 6).toInt a2.toInt a4.toInt) ∧ (st h' = f_X8_readTest_b g_X8_readBlock (st h) a2.toInt a3.toInt a4.toInt) ∧ (FX KRt h h') ∧ (KP h.2.1 h'.2.1) ∧ (OH h.2.1 h'.2.1 (h.2.1 70 6).toInt) ∧ (CKF h.2.1 → CKF h'.2.1)) := by
  refine Mt_iv hv (by decide) (Nat.le_of_ble_eq_true rfl) ?_
  show Go l RX8 cX8_readTest 4 (g_rm (d + 4) 0 0) "readTest" none 117 0 0 (fun _ _ => True) (fun r h' => r = none ∧ (∃ Q : PP, Iv Q h' ∧ MW P Q) ∧ ((h'.2.1 70 5).toInt = 0 → (h.2.1 70 5).toInt = 0) ∧ ((h.2.1 70 4).toInt ≤ (h'.2.1 70 4).toInt) ∧ ((h'.2.1 70 5).toInt = 0 → 6 * (V h'.2.1 73 (h.2.1 70 6).toInt - V h'.2.1 75 (h.2.1 70 6).toInt) - (h'.2.1 70 4).toInt ≤ 6 * (V h.2.1 73 (h.2.1 70 6).toInt - V h.2.1 75 (h.2.1 70 6).toInt) - (h.2.1 70 4).toInt - 0 ∧ 2 * V h'.2.1 74 (h.2.1 70 6).toInt - (h'.2.1 70 4).toInt ≤ 2 * V h.2.1 74 (h.2.1 70 6).toInt - (h.2.1 70 4).toInt) ∧ ((h'.2.1 70 5).toInt = 0 → RT h.2.1 h'.2.1 (h.2.1 70 6).toInt a2.toInt a4.toInt) ∧ (st h' = f_X8_readTest_b g_X8_readBlock (st h) a2.toInt a3.toInt a4.toInt) ∧ (FX KRt h h') ∧ (KP h.2.1 h'.2.1) ∧ (OH h.2.1 h'.2.1 (h.2.1 70 6).toInt) ∧ (CKF h.2.1 → CKF h'.2.1)) 0 0 [(0, .ref 70), (1, .int a2), (2, .int a3), (3, .int a4)] [] h
  obtain ⟨S, hS⟩ : ∃ S : Int, S = (h.2.1 70 6).toInt := ⟨_, rfl⟩
  have S0 : 0 ≤ S := by rw [hS]; exact (hv.2.1 70 6).1
  have S1 : S ≤ 1 := by rw [hS]; exact (hv.2.1 70 6).2
  have oh : OH h.2.1 h.2.1 S := OH.rfl _ _
  have ck : CKF h.2.1 → CKF h.2.1 := id
  have kp : KP h.2.1 h.2.1 := KP.rfl _
  rw [← hS] at hi
  rw [← hS] at hp
  rw [← hS] at ht
  have fx : FX KRt h h := FX.rfl
  obtain ⟨fin, kf⟩ : ∃ z, z = f_X8_readTest_b g_X8_readBlock (st h) a2.toInt a3.toInt a4.toInt := ⟨_, _root_.rfl⟩
  have k0 := kf
  unfold f_X8_readTest_b at k0
  refine go_aload_n (pc := 0) rfl dX8_readTest_0 ?_
  refine go_iload_n (pc := 1) rfl dX8_readTest_1 ?_
  refine go_iconst (pc := 2) (v := 0) (by decide) dX8_readTest_2 ?_
  have sM1 : (h.2.1 70 6).toInt = S := (congrArg Int32.toInt oh.side).trans hS.symm
  have g2 : (0 : Int) ≤ (h.2.1 70 4).toInt := (hv.2.1 70 4).1
  have g3 : (h.2.1 70 4).toInt ≤ 500 := (hv.2.1 70 4).2
  have g4 : (-2147483648 : Int) ≤ (h.2.1 70 5).toInt := (hv.2.1 70 5).1
  have g5 : (h.2.1 70 5).toInt ≤ 2147483647 := (hv.2.1 70 5).2
  refine go_invV (pc := 3) (sl := 0) (s_X8_operand_f l (d + 0) hv a2 (by rw [show (a2 : Int32).toInt = a2.toInt from (ti_rfl a2)]; omega) (by rw [show (a2 : Int32).toInt = a2.toInt from (ti_rfl a2)]; omega) 0 (by rw [show (0 : Int32).toInt = 0 from (ti_c (v := 0) (a := 0) (by decide))]; omega) (by rw [show (0 : Int32).toInt = 0 from (ti_c (v := 0) (a := 0) (by decide))]; omega) (by rw [sM1]; exact hi)) mL_X8_218 iM_X8_operand sM_X8_operand (hv.sh rfl) rfl rfl rfl (Nat.le_of_ble_eq_true rfl) (show d + 0 + 3 + 1 ≤ d + 4 by omega) (show 8 + (7 + 11) + 40 * (d + 0 + 3) ≤ 40 * (d + 4) by omega) (g_c0 hv.ln) (Nat.le_of_ble_eq_true rfl) dX8_readTest_3 ?_
  intro r h6 hq _
  obtain ⟨rfl, ⟨Q7, hv6, sq8⟩, f9, f10, f11, f12, f13, f14, f15, f16, f17, f18, f19⟩ := hq
  rw [sM1] at f12
  rw [sM1] at f13
  rw [sM1] at f14
  rw [sM1] at f18
  have oh6 : OH h.2.1 h6.2.1 S := oh.trans f18
  have kp6 : KP h.2.1 h6.2.1 := kp.trans f17
  have ck6 : CKF h.2.1 → CKF h6.2.1 := fun z => f19 (ck z)
  try rw [show (0 : Int32).toInt = 0 from (ti_c (v := 0) (a := 0) (by decide))] at f9
  try rw [show (0 : Int32).toInt = 0 from (ti_c (v := 0) (a := 0) (by decide))] at f10
  try rw [show (0 : Int32).toInt = 0 from (ti_c (v := 0) (a := 0) (by decide))] at f11
  try rw [show (0 : Int32).toInt = 0 from (ti_c (v := 0) (a := 0) (by decide))] at f12
  try rw [show (0 : Int32).toInt = 0 from (ti_c (v := 0) (a := 0) (by decide))] at f13
  try rw [show (0 : Int32).toInt = 0 from (ti_c (v := 0) (a := 0) (by decide))] at f14
  try rw [show (0 : Int32).toInt = 0 from (ti_c (v := 0) (a := 0) (by decide))] at f15
  try rw [show (0 : Int32).toInt = 0 from (ti_c (v := 0) (a := 0) (by decide))] at f16
  try rw [show (0 : Int32).toInt = 0 from (ti_c (v := 0) (a := 0) (by decide))] at f17
  try rw [show (0 : Int32).toInt = 0 from (ti_c (v := 0) (a := 0) (by decide))] at f18
  try rw [show (0 : Int32).toInt = 0 from (ti_c (v := 0) (a := 0) (by decide))] at f19
  have fx6 : FX KRt h h6 := FX.tr fx f16
  have k20 := bd_e k0 f15.symm
  obtain ⟨u21, u21w⟩ : ∃ v : Int32, v = h6.2.1 70 4 := ⟨_, rfl⟩
  have u21e : (h6.2.1 70 4).toInt = u21.toInt := by rw [u21w]
  have u21l : 0 ≤ u21.toInt := by rw [u21w]; exact (hv6.2.1 70 4).1
  have u21u : u21.toInt ≤ 500 := by rw [u21w]; exact (hv6.2.1 70 4).2
  have k22 := k20
  obtain ⟨u23, u23w⟩ : ∃ v : Int32, v = h6.2.1 70 5 := ⟨_, rfl⟩
  have u23e : (h6.2.1 70 5).toInt = u23.toInt := by rw [u23w]
  have u23l : -2147483648 ≤ u23.toInt := by rw [u23w]; exact (hv6.2.1 70 5).1
  have u23u : u23.toInt ≤ 2147483647 := by rw [u23w]; exact (hv6.2.1 70 5).2
  have k24 := k22
  refine go_aload_n (pc := 6) rfl dX8_readTest_6 ?_
  refine go_bipush (pc := 7) (v := 60) (by decide) dX8_readTest_7 ?_
  have g25 : (0 : Int) ≤ (h6.2.1 70 4).toInt := (hv6.2.1 70 4).1
  have g26 : (h6.2.1 70 4).toInt ≤ 500 := (hv6.2.1 70 4).2
  have g27 : (-2147483648 : Int) ≤ (h6.2.1 70 5).toInt := (hv6.2.1 70 5).1
  have g28 : (h6.2.1 70 5).toInt ≤ 2147483647 := (hv6.2.1 70 5).2
  have g29 : (h6.2.1 70 4).toInt = u21.toInt := by rw [← (show u21 = h6.2.1 70 4 from u21w)] <;> exact (ti_rfl u21)
  have g30 : (h6.2.1 70 5).toInt = u23.toInt := by rw [← (show u23 = h6.2.1 70 5 from u23w)] <;> exact (ti_rfl u23)
  refine go_invV (pc := 9) (sl := 0) (s_X8_must_f l (d + 1) hv6 60 (by rw [show (60 : Int32).toInt = 60 from (ti_c (v := 60) (a := 60) (by decide))]; omega) (by rw [show (60 : Int32).toInt = 60 from (ti_c (v := 60) (a := 60) (by decide))]; omega)) mL_X8_198 iM_X8_must sM_X8_must (hv6.sh rfl) rfl rfl rfl (Nat.le_of_ble_eq_true rfl) (show d + 1 + 2 + 1 ≤ d + 4 by omega) (show 8 + (2 + 11) + 40 * (d + 1 + 2) ≤ 40 * (d + 4) by omega) (g_c0 hv6.ln) (Nat.le_of_ble_eq_true rfl) dX8_readTest_9 ?_
  intro r h31 hq _
  obtain ⟨rfl, hv31, f32, f33, f34, f35, f36⟩ := hq
  try rw [show (60 : Int32).toInt = 60 from (ti_c (v := 60) (a := 60) (by decide))] at f32
  try rw [show (60 : Int32).toInt = 60 from (ti_c (v := 60) (a := 60) (by decide))] at f33
  try rw [show (60 : Int32).toInt = 60 from (ti_c (v := 60) (a := 60) (by decide))] at f34
  try rw [show (60 : Int32).toInt = 60 from (ti_c (v := 60) (a := 60) (by decide))] at f35
  try rw [show (60 : Int32).toInt = 60 from (ti_c (v := 60) (a := 60) (by decide))] at f36
  have fx31 : FX KRt h h31 := FX.tr fx6 f36
  have k37 := bd_e k24 f35.symm
  have ve31 : VE h6.2.1 h31.2.1 := VE.of hv6 hv31
  have oh31 : OH h.2.1 h31.2.1 S := oh6.trans (OH.of hv6 hv31 S)
  have kp31 : KP h.2.1 h31.2.1 := kp6.trans (KP.ve ve31)
  have ck31 : CKF h.2.1 → CKF h31.2.1 := fun z => CKF.ve ve31 (ck6 z)
  have n73_31 : V h31.2.1 73 S = V h6.2.1 73 S := ve31.v (by omega) (by omega)
  have n74_31 : V h31.2.1 74 S = V h6.2.1 74 S := ve31.v (by omega) (by omega)
  have n75_31 : V h31.2.1 75 S = V h6.2.1 75 S := ve31.v (by omega) (by omega)
  obtain ⟨u38, u38w⟩ : ∃ v : Int32, v = h31.2.1 70 4 := ⟨_, rfl⟩
  have u38e : (h31.2.1 70 4).toInt = u38.toInt := by rw [u38w]
  have u38l : 0 ≤ u38.toInt := by rw [u38w]; exact (hv31.2.1 70 4).1
  have u38u : u38.toInt ≤ 500 := by rw [u38w]; exact (hv31.2.1 70 4).2
  have k39 := k37
  obtain ⟨u40, u40w⟩ : ∃ v : Int32, v = h31.2.1 70 5 := ⟨_, rfl⟩
  have u40e : (h31.2.1 70 5).toInt = u40.toInt := by rw [u40w]
  have u40l : -2147483648 ≤ u40.toInt := by rw [u40w]; exact (hv31.2.1 70 5).1
  have u40u : u40.toInt ≤ 2147483647 := by rw [u40w]; exact (hv31.2.1 70 5).2
  have k41 := k39
  refine go_aload_n (pc := 12) rfl dX8_readTest_12 ?_
  refine go_iload_n (pc := 13) rfl dX8_readTest_13 ?_
  refine go_iconst (pc := 14) (v := 1) (by decide) dX8_readTest_14 ?_
  have sM42 : (h31.2.1 70 6).toInt = S := (congrArg Int32.toInt oh31.side).trans hS.symm
  have g43 : (0 : Int) ≤ (h31.2.1 70 4).toInt := (hv31.2.1 70 4).1
  have g44 : (h31.2.1 70 4).toInt ≤ 500 := (hv31.2.1 70 4).2
  have g45 : (-2147483648 : Int) ≤ (h31.2.1 70 5).toInt := (hv31.2.1 70 5).1
  have g46 : (h31.2.1 70 5).toInt ≤ 2147483647 := (hv31.2.1 70 5).2
  have g47 : (h31.2.1 70 4).toInt = u38.toInt := by rw [← (show u38 = h31.2.1 70 4 from u38w)] <;> exact (ti_rfl u38)
  have g48 : (h31.2.1 70 5).toInt = u40.toInt := by rw [← (show u40 = h31.2.1 70 5 from u40w)] <;> exact (ti_rfl u40)
  refine go_invV (pc := 15) (sl := 0) (s_X8_operand_f l (d + 0) hv31 a2 (by rw [show (a2 : Int32).toInt = a2.toInt from (ti_rfl a2)]; omega) (by rw [show (a2 : Int32).toInt = a2.toInt from (ti_rfl a2)]; omega) 1 (by rw [show (1 : Int32).toInt = 1 from (ti_c (v := 1) (a := 1) (by decide))]; omega) (by rw [show (1 : Int32).toInt = 1 from (ti_c (v := 1) (a := 1) (by decide))]; omega) (by rw [sM42]; exact hi)) mL_X8_218 iM_X8_operand sM_X8_operand (hv31.sh rfl) rfl rfl rfl (Nat.le_of_ble_eq_true rfl) (show d + 0 + 3 + 1 ≤ d + 4 by omega) (show 8 + (7 + 11) + 40 * (d + 0 + 3) ≤ 40 * (d + 4) by omega) (g_c0 hv31.ln) (Nat.le_of_ble_eq_true rfl) dX8_readTest_15 ?_
  intro r h49 hq _
  obtain ⟨rfl, ⟨Q50, hv49, sq51⟩, f52, f53, f54, f55, f56, f57, f58, f59, f60, f61, f62⟩ := hq
  rw [sM42] at f55
  rw [sM42] at f56
  rw [sM42] at f57
  rw [sM42] at f61
  have oh49 : OH h.2.1 h49.2.1 S := oh31.trans f61
  have kp49 : KP h.2.1 h49.2.1 := kp31.trans f60
  have ck49 : CKF h.2.1 → CKF h49.2.1 := fun z => f62 (ck31 z)
  try rw [show (1 : Int32).toInt = 1 from (ti_c (v := 1) (a := 1) (by decide))] at f52
  try rw [show (1 : Int32).toInt = 1 from (ti_c (v := 1) (a := 1) (by decide))] at f53
  try rw [show (1 : Int32).toInt = 1 from (ti_c (v := 1) (a := 1) (by decide))] at f54
  try rw [show (1 : Int32).toInt = 1 from (ti_c (v := 1) (a := 1) (by decide))] at f55
  try rw [show (1 : Int32).toInt = 1 from (ti_c (v := 1) (a := 1) (by decide))] at f56
  try rw [show (1 : Int32).toInt = 1 from (ti_c (v := 1) (a := 1) (by decide))] at f57
  try rw [show (1 : Int32).toInt = 1 from (ti_c (v := 1) (a := 1) (by decide))] at f58
  try rw [show (1 : Int32).toInt = 1 from (ti_c (v := 1) (a := 1) (by decide))] at f59
  try rw [show (1 : Int32).toInt = 1 from (ti_c (v := 1) (a := 1) (by decide))] at f60
  try rw [show (1 : Int32).toInt = 1 from (ti_c (v := 1) (a := 1) (by decide))] at f61
  try rw [show (1 : Int32).toInt = 1 from (ti_c (v := 1) (a := 1) (by decide))] at f62
  have fx49 : FX KRt h h49 := FX.tr fx31 f59
  have k63 := bd_e k41 f58.symm
  obtain ⟨u64, u64w⟩ : ∃ v : Int32, v = h49.2.1 70 4 := ⟨_, rfl⟩
  have u64e : (h49.2.1 70 4).toInt = u64.toInt := by rw [u64w]
  have u64l : 0 ≤ u64.toInt := by rw [u64w]; exact (hv49.2.1 70 4).1
  have u64u : u64.toInt ≤ 500 := by rw [u64w]; exact (hv49.2.1 70 4).2
  have k65 := k63
  obtain ⟨u66, u66w⟩ : ∃ v : Int32, v = h49.2.1 70 5 := ⟨_, rfl⟩
  have u66e : (h49.2.1 70 5).toInt = u66.toInt := by rw [u66w]
  have u66l : -2147483648 ≤ u66.toInt := by rw [u66w]; exact (hv49.2.1 70 5).1
  have u66u : u66.toInt ≤ 2147483647 := by rw [u66w]; exact (hv49.2.1 70 5).2
  have k67 := k65
  refine go_aload_n (pc := 18) rfl dX8_readTest_18 ?_
  refine go_invV (pc := 19) (sl := 0) (s_X8_isGood_f l (d + 2) hv49 ) mL_X8_172 iM_X8_isGood sM_X8_isGood (hv49.sh rfl) rfl rfl rfl (Nat.le_of_ble_eq_true rfl) (show d + 2 + 1 + 1 ≤ d + 4 by omega) (show 8 + (1 + 11) + 40 * (d + 2 + 1) ≤ 40 * (d + 4) by omega) (g_c0 hv49.ln) (Nat.le_of_ble_eq_true rfl) dX8_readTest_19 ?_
  intro r h68 hq _
  obtain ⟨v72, rfl, v72l, v72u, rfl, f69, f70, f71⟩ := hq
  replace f71 : PE _ _ := f71
  have k73 := bd_e k67 f71.symm
  refine gf_if_ne (pc := 22) (tgt := 26) (ti_rfl v72) (by decide) dX8_readTest_22 (fun q74 => ?_) (fun q74 => ?_)
  ·
    have k75 := if_t k73 q74
    refine go_aload_n (pc := 26) rfl dX8_readTest_26 ?_
    refine gi_getF (pc := 27) (q := 85) hv49 fL_X8_53 rfl (Nat.le_of_ble_eq_true rfl) rfl (hv49.rf (by decide)) dX8_readTest_27 ?_
    refine go_iload_n (pc := 30) rfl dX8_readTest_30 ?_
    refine go_aload_n (pc := 31) rfl dX8_readTest_31 ?_
    refine go_iload_n (pc := 32) rfl dX8_readTest_32 ?_
    refine go_iload_n (pc := 33) rfl dX8_readTest_33 ?_
    refine go_iload_n (pc := 34) rfl dX8_readTest_34 ?_
    refine go_iconst (pc := 35) (v := 1) (by decide) dX8_readTest_35 ?_
    refine gf_iadd (pc := 36) (ti_rfl a4) (ti_c (v := 1) (a := 1) (by decide)) (by omega) (by omega) dX8_readTest_36 (fun v76 e77 => ?_)
    have zd : (v76 : Int32).toInt = a4.toInt + 1 := e77
    have op1 : OP h.2.1 h49.2.1 := ((((OP.rfl _).trans (f11 (by omega))).trans (OP.ve ve31)).trans (f54 (by omega)))
    have o80 := (op1 S).2 80 a2.toInt (by omega) (by omega) (by omega) (by omega)
    have sM78 : (h49.2.1 70 6).toInt = S := (congrArg Int32.toInt oh49.side).trans hS.symm
    have g79 : (0 : Int) ≤ (h49.2.1 70 4).toInt := (hv49.2.1 70 4).1
    have g80 : (h49.2.1 70 4).toInt ≤ 500 := (hv49.2.1 70 4).2
    have g81 : (-2147483648 : Int) ≤ (h49.2.1 70 5).toInt := (hv49.2.1 70 5).1
    have g82 : (h49.2.1 70 5).toInt ≤ 2147483647 := (hv49.2.1 70 5).2
    have g83 : (h49.2.1 70 4).toInt = u64.toInt := by rw [← (show u64 = h49.2.1 70 4 from u64w)] <;> exact (ti_rfl u64)
    have g84 : (h49.2.1 70 5).toInt = u66.toInt := by rw [← (show u66 = h49.2.1 70 5 from u66w)] <;> exact (ti_rfl u66)
    refine go_invV (pc := 37) (sl := 0) (ihB hv49 a2 (by rw [show (a2 : Int32).toInt = a2.toInt from (ti_rfl a2)]; omega) (by rw [show (a2 : Int32).toInt = a2.toInt from (ti_rfl a2)]; omega) a3 (by rw [show (a3 : Int32).toInt = a3.toInt from (ti_rfl a3)]; omega) (by rw [show (a3 : Int32).toInt = a3.toInt from (ti_rfl a3)]; omega) v76 (by rw [show (v76 : Int32).toInt = (a4.toInt + 1) from e77]; omega) (by rw [show (v76 : Int32).toInt = (a4.toInt + 1) from e77]; omega) (by rw [sM78]; exact (fun _ => by omega)) (by rw [sM78]; exact (fun _ => by rw [zd]; exact ⟨(op1 S).1 ht.1, OO.last (by omega) (by omega) (by omega)⟩)) (by omega)) mL_X8_224 iM_X8_readBlock sM_X8_readBlock (hv49.sh rfl) rfl rfl rfl (Nat.le_of_ble_eq_true rfl) (show d + 3 + 1 ≤ d + 4 by omega) (show 8 + (5 + 11) + 40 * (d + 3) ≤ 40 * (d + 4) by omega) (g_c0 hv49.ln) (Nat.le_of_ble_eq_true rfl) dX8_readTest_37 ?_
    intro r h85 hq _
    obtain ⟨v97, rfl, v97l, v97u, ⟨Q86, hv85, sq87⟩, f88, f89, f90, f91, f92, f93, f94, f95, f96⟩ := hq
    rw [sM78] at f90
    rw [sM78] at f91
    rw [sM78] at f95
    have oh85 : OH h.2.1 h85.2.1 S := oh49.trans f95
    have kp85 : KP h.2.1 h85.2.1 := kp49.trans f94
    have ck85 : CKF h.2.1 → CKF h85.2.1 := fun z => f96 (ck49 z)
    try rw [show (v76 : Int32).toInt = (a4.toInt + 1) from e77] at f88
    try rw [show (v76 : Int32).toInt = (a4.toInt + 1) from e77] at f89
    try rw [show (v76 : Int32).toInt = (a4.toInt + 1) from e77] at f90
    try rw [show (v76 : Int32).toInt = (a4.toInt + 1) from e77] at f91
    try rw [show (v76 : Int32).toInt = (a4.toInt + 1) from e77] at f92
    try rw [show (v76 : Int32).toInt = (a4.toInt + 1) from e77] at f93
    try rw [show (v76 : Int32).toInt = (a4.toInt + 1) from e77] at f94
    try rw [show (v76 : Int32).toInt = (a4.toInt + 1) from e77] at f95
    try rw [show (v76 : Int32).toInt = (a4.toInt + 1) from e77] at f96
    have fx85 : FX KRt h h85 := FX.tr fx49 f93
    have k98 := bd2_e k75 f92
    obtain ⟨u99, u99w⟩ : ∃ v : Int32, v = h85.2.1 70 4 := ⟨_, rfl⟩
    have u99e : (h85.2.1 70 4).toInt = u99.toInt := by rw [u99w]
    have u99l : 0 ≤ u99.toInt := by rw [u99w]; exact (hv85.2.1 70 4).1
    have u99u : u99.toInt ≤ 500 := by rw [u99w]; exact (hv85.2.1 70 4).2
    have k100 := k98
    obtain ⟨u101, u101w⟩ : ∃ v : Int32, v = h85.2.1 70 5 := ⟨_, rfl⟩
    have u101e : (h85.2.1 70 5).toInt = u101.toInt := by rw [u101w]
    have u101l : -2147483648 ≤ u101.toInt := by rw [u101w]; exact (hv85.2.1 70 5).1
    have u101u : u101.toInt ≤ 2147483647 := by rw [u101w]; exact (hv85.2.1 70 5).2
    have k102 := k100
    refine gi_fst (pc := 40) (lo := -1) (hi := 559) (len := 260) hv85 (ti_rfl a2) (ti_rfl v97) rfl (by omega) (by omega) (fun _ => rfl) (by omega) (by omega) (by omega) dX8_readTest_40 (fun h103 hv103 hv103e => ?_)
    have fx103 : FX KRt h h103 := FX.pI fx85 hv103e (by unfold KRt; omega)
    have k104 := bd_e k102 (st_I hv103e (ti_rfl v97))
    refine go_aload_n (pc := 41) rfl dX8_readTest_41 ?_
    refine go_invV (pc := 42) (sl := 0) (s_X8_isGood_f l (d + 2) hv103 ) mL_X8_172 iM_X8_isGood sM_X8_isGood (hv103.sh rfl) rfl rfl rfl (Nat.le_of_ble_eq_true rfl) (show d + 2 + 1 + 1 ≤ d + 4 by omega) (show 8 + (1 + 11) + 40 * (d + 2 + 1) ≤ 40 * (d + 4) by omega) (g_c0 hv103.ln) (Nat.le_of_ble_eq_true rfl) dX8_readTest_42 ?_
    intro r h105 hq _
    obtain ⟨v109, rfl, v109l, v109u, rfl, f106, f107, f108⟩ := hq
    replace f108 : PE _ _ := f108
    have k110 := bd_e k104 f108.symm
    have E103 : h103.2.1 = (w1 h85.2.1 85 a2.toInt (v97 : Int32)) := by
      rw [hv103e]
      rfl
    have oh103 : OH h.2.1 h103.2.1 S := by rw [E103]; exact (oh85.trans (OH.w 130 rfl (by omega) (by omega) (by omega) (by omega)))
    have kp103 : KP h.2.1 h103.2.1 := by rw [E103]; exact (kp85.trans (KP.w (by omega)))
    have n73_103 : V h103.2.1 73 S = V h85.2.1 73 S := by rw [E103, V_ne (by omega)]
    have n74_103 : V h103.2.1 74 S = V h85.2.1 74 S := by rw [E103, V_ne (by omega)]
    have n75_103 : V h103.2.1 75 S = V h85.2.1 75 S := by rw [E103, V_ne (by omega)]
    have ck103 : CKF h.2.1 → CKF h103.2.1 := fun z => by rw [E103]; exact (CKF.w (by omega) (ck85 z))
    refine gf_if_eq (pc := 45) (tgt := 67) (ti_rfl v109) (by decide) dX8_readTest_45 (fun q111 => ?_) (fun q111 => ?_)
    ·
      have k112 := if_t k110 q111
      have g113 : (0 : Int) ≤ (h103.2.1 70 4).toInt := (hv103.2.1 70 4).1
      have g114 : (h103.2.1 70 4).toInt ≤ 500 := (hv103.2.1 70 4).2
      have g115 : (-2147483648 : Int) ≤ (h103.2.1 70 5).toInt := (hv103.2.1 70 5).1
      have g116 : (h103.2.1 70 5).toInt ≤ 2147483647 := (hv103.2.1 70 5).2
      have g117 : (h103.2.1 70 4).toInt = u99.toInt := by rw [← (show u99 = h103.2.1 70 4 from (show u99 = h103.2.1 70 4 from by rw [hv103e]; exact (g_iI rfl u99w.symm).symm))] <;> exact (ti_rfl u99)
      have g118 : (h103.2.1 70 5).toInt = u101.toInt := by rw [← (show u101 = h103.2.1 70 5 from (show u101 = h103.2.1 70 5 from by rw [hv103e]; exact (g_iI rfl u101w.symm).symm))] <;> exact (ti_rfl u101)
      have pp119 : (h103.2.1 70 5).toInt = 0 → (h.2.1 70 5).toInt = 0 := (by omega)
      have pp120 : (h.2.1 70 4).toInt ≤ (h103.2.1 70 4).toInt := (by omega)
      have pp121 : (h103.2.1 70 5).toInt = 0 → 6 * (V h103.2.1 73 S - V h103.2.1 75 S) - (h103.2.1 70 4).toInt ≤ 6 * (V h.2.1 73 S - V h.2.1 75 S) - (h.2.1 70 4).toInt - 0 ∧ 2 * V h103.2.1 74 S - (h103.2.1 70 4).toInt ≤ 2 * V h.2.1 74 S - (h.2.1 70 4).toInt := (by omega)
      have pp122 : (h103.2.1 70 5).toInt = 0 → RT h.2.1 h103.2.1 S a2.toInt a4.toInt := (fun hg => R1.fin (show R1 h.2.1 h103.2.1 S a2.toInt a4.toInt from by rw [E103]; exact R1.mk S0 ((((OP.rfl _).trans (f11 (by omega))).trans (OP.ve ve31)).trans (f54 (by omega))) (f91 (by omega)) rfl) (by omega))
      have pp123 : st h103 = f_X8_readTest_b g_X8_readBlock (st h) a2.toInt a3.toInt a4.toInt := (k112.symm.trans kf)
      have pp124 : FX KRt h h103 := fx103
      subst hS
      exact gi_vret (pc := 67) ⟨rfl, ⟨_, hv103, (MW.trans (MW.trans (MW.trans sq8 sq51) sq87) (MW.mz _ _))⟩, pp119, pp120, pp121, pp122, pp123, pp124, kp103, oh103, ck103⟩ hv103 dX8_readTest_67
    ·
      have k125 := if_f k110 q111
      refine go_aload_n (pc := 48) rfl dX8_readTest_48 ?_
      refine gi_getF (pc := 49) (q := 77) hv103 fL_X8_29 rfl (Nat.le_of_ble_eq_true rfl) rfl (hv103.rf (by decide)) dX8_readTest_49 ?_
      refine go_iload_n (pc := 52) rfl dX8_readTest_52 ?_
      refine gi_iald (pc := 53) (lo := 0) (hi := 6) (len := 260) hv103 (ti_rfl a2) rfl (by omega) (by omega) (fun _ => rfl) dX8_readTest_53 (fun v126 v126l v126u v126w => ?_)
      have k127 := bd_e k125 (congrArg Int32.toInt v126w.symm)
      have v126V : v126.toInt = V h103.2.1 77 a2.toInt := by rw [v126w]; rfl
      refine go_iconst (pc := 54) (v := 3) (by decide) dX8_readTest_54 ?_
      refine gf_icmp_eq (pc := 55) (tgt := 67) (ti_rfl v126) (ti_c (v := 3) (a := 3) (by decide)) (by decide) dX8_readTest_55 (fun q128 => ?_) (fun q128 => ?_)
      ·
        have k129 := if_t k127 q128
        have g130 : (0 : Int) ≤ (h103.2.1 70 4).toInt := (hv103.2.1 70 4).1
        have g131 : (h103.2.1 70 4).toInt ≤ 500 := (hv103.2.1 70 4).2
        have g132 : (-2147483648 : Int) ≤ (h103.2.1 70 5).toInt := (hv103.2.1 70 5).1
        have g133 : (h103.2.1 70 5).toInt ≤ 2147483647 := (hv103.2.1 70 5).2
        have g134 : (h103.2.1 70 4).toInt = u99.toInt := by rw [← (show u99 = h103.2.1 70 4 from (show u99 = h103.2.1 70 4 from by rw [hv103e]; exact (g_iI rfl u99w.symm).symm))] <;> exact (ti_rfl u99)
        have g135 : (h103.2.1 70 5).toInt = u101.toInt := by rw [← (show u101 = h103.2.1 70 5 from (show u101 = h103.2.1 70 5 from by rw [hv103e]; exact (g_iI rfl u101w.symm).symm))] <;> exact (ti_rfl u101)
        have pp136 : (h103.2.1 70 5).toInt = 0 → (h.2.1 70 5).toInt = 0 := (by omega)
        have pp137 : (h.2.1 70 4).toInt ≤ (h103.2.1 70 4).toInt := (by omega)
        have pp138 : (h103.2.1 70 5).toInt = 0 → 6 * (V h103.2.1 73 S - V h103.2.1 75 S) - (h103.2.1 70 4).toInt ≤ 6 * (V h.2.1 73 S - V h.2.1 75 S) - (h.2.1 70 4).toInt - 0 ∧ 2 * V h103.2.1 74 S - (h103.2.1 70 4).toInt ≤ 2 * V h.2.1 74 S - (h.2.1 70 4).toInt := (by omega)
        have pp139 : (h103.2.1 70 5).toInt = 0 → RT h.2.1 h103.2.1 S a2.toInt a4.toInt := (fun hg => R1.fin (show R1 h.2.1 h103.2.1 S a2.toInt a4.toInt from by rw [E103]; exact R1.mk S0 ((((OP.rfl _).trans (f11 (by omega))).trans (OP.ve ve31)).trans (f54 (by omega))) (f91 (by omega)) rfl) (by omega))
        have pp140 : st h103 = f_X8_readTest_b g_X8_readBlock (st h) a2.toInt a3.toInt a4.toInt := (k129.symm.trans kf)
        have pp141 : FX KRt h h103 := fx103
        subst hS
        exact gi_vret (pc := 67) ⟨rfl, ⟨_, hv103, (MW.trans (MW.trans (MW.trans sq8 sq51) sq87) (MW.mz _ _))⟩, pp136, pp137, pp138, pp139, pp140, pp141, kp103, oh103, ck103⟩ hv103 dX8_readTest_67
      ·
        have k142 := if_f k127 q128
        refine go_aload_n (pc := 58) rfl dX8_readTest_58 ?_
        have g143 : (0 : Int) ≤ (h103.2.1 70 4).toInt := (hv103.2.1 70 4).1
        have g144 : (h103.2.1 70 4).toInt ≤ 500 := (hv103.2.1 70 4).2
        have g145 : (-2147483648 : Int) ≤ (h103.2.1 70 5).toInt := (hv103.2.1 70 5).1
        have g146 : (h103.2.1 70 5).toInt ≤ 2147483647 := (hv103.2.1 70 5).2
        have g147 : (h103.2.1 70 4).toInt = u99.toInt := by rw [← (show u99 = h103.2.1 70 4 from (show u99 = h103.2.1 70 4 from by rw [hv103e]; exact (g_iI rfl u99w.symm).symm))] <;> exact (ti_rfl u99)
        have g148 : (h103.2.1 70 5).toInt = u101.toInt := by rw [← (show u101 = h103.2.1 70 5 from (show u101 = h103.2.1 70 5 from by rw [hv103e]; exact (g_iI rfl u101w.symm).symm))] <;> exact (ti_rfl u101)
        refine go_invV (pc := 59) (sl := 0) (s_X8_here_f l (d + 2) hv103 ) mL_X8_176 iM_X8_here sM_X8_here (hv103.sh rfl) rfl rfl rfl (Nat.le_of_ble_eq_true rfl) (show d + 2 + 1 + 1 ≤ d + 4 by omega) (show 8 + (1 + 11) + 40 * (d + 2 + 1) ≤ 40 * (d + 4) by omega) (g_c0 hv103.ln) (Nat.le_of_ble_eq_true rfl) dX8_readTest_59 ?_
        intro r h149 hq _
        obtain ⟨v156, rfl, v156l, v156u, hv149, f150, f151, f152, f153, f154, f155⟩ := hq
        have fx149 : FX KRt h h149 := FX.tr fx103 f155
        have k157 := bd2_e k142 f154
        have ve149 : VE h103.2.1 h149.2.1 := VE.of hv103 hv149
        have oh149 : OH h.2.1 h149.2.1 S := oh103.trans (OH.of hv103 hv149 S)
        have kp149 : KP h.2.1 h149.2.1 := kp103.trans (KP.ve ve149)
        have ck149 : CKF h.2.1 → CKF h149.2.1 := fun z => CKF.ve ve149 (ck103 z)
        have n73_149 : V h149.2.1 73 S = V h103.2.1 73 S := ve149.v (by omega) (by omega)
        have n74_149 : V h149.2.1 74 S = V h103.2.1 74 S := ve149.v (by omega) (by omega)
        have n75_149 : V h149.2.1 75 S = V h103.2.1 75 S := ve149.v (by omega) (by omega)
        obtain ⟨u158, u158w⟩ : ∃ v : Int32, v = h149.2.1 70 4 := ⟨_, rfl⟩
        have u158e : (h149.2.1 70 4).toInt = u158.toInt := by rw [u158w]
        have u158l : 0 ≤ u158.toInt := by rw [u158w]; exact (hv149.2.1 70 4).1
        have u158u : u158.toInt ≤ 500 := by rw [u158w]; exact (hv149.2.1 70 4).2
        have k159 := bd_e k157 (congrArg Int32.toInt u158w.symm)
        obtain ⟨u160, u160w⟩ : ∃ v : Int32, v = h149.2.1 70 5 := ⟨_, rfl⟩
        have u160e : (h149.2.1 70 5).toInt = u160.toInt := by rw [u160w]
        have u160l : -2147483648 ≤ u160.toInt := by rw [u160w]; exact (hv149.2.1 70 5).1
        have u160u : u160.toInt ≤ 2147483647 := by rw [u160w]; exact (hv149.2.1 70 5).2
        have k161 := k159
        refine go_bipush (pc := 62) (v := 58) (by decide) dX8_readTest_62 ?_
        refine gf_icmp_eq (pc := 64) (tgt := 68) (ti_rfl v156) (ti_c (v := 58) (a := 58) (by decide)) (by decide) dX8_readTest_64 (fun q162 => ?_) (fun q162 => ?_)
        ·
          have k163 := if_t k161 q162
          refine go_aload_n (pc := 68) rfl dX8_readTest_68 ?_
          refine go_dup (pc := 69) rfl dX8_readTest_69 ?_
          refine gi_get (pc := 70) (lo := 0) (hi := 500) hv149 fL_X8_163 rfl (Nat.le_of_ble_eq_true rfl) rfl rfl dX8_readTest_70 (fun v164 v164l v164u v164w => ?_)
          have v164r : u158 = h149.2.1 70 4 := u158w
          have v164q : TI v164 u158.toInt := by rw [v164w.trans v164r.symm]; exact (ti_rfl u158)
          refine go_iconst (pc := 73) (v := 1) (by decide) dX8_readTest_73 ?_
          refine gf_iadd (pc := 74) v164q (ti_c (v := 1) (a := 1) (by decide)) (by omega) (by omega) dX8_readTest_74 (fun v165 e166 => ?_)
          refine gi_put (pc := 75) (lo := 0) (hi := 500) hv149 e166 (fP_X8_163 _) rfl (Nat.le_of_ble_eq_true rfl) rfl rfl (by omega) (by omega) rfl rfl (by decide) (by decide) (by decide) (by decide) dX8_readTest_75 (fun h167 hv167 hv167e => ?_)
          have fx167 : FX KRt h h167 := FX.pI fx149 hv167e (by unfold KRt; omega)
          have k168 := bd_e k163 (st_I hv167e e166)
          have ve167 : VE h149.2.1 h167.2.1 := VE.of hv149 hv167
          have oh167 : OH h.2.1 h167.2.1 S := oh149.trans (OH.of hv149 hv167 S)
          have kp167 : KP h.2.1 h167.2.1 := kp149.trans (KP.ve ve167)
          have ck167 : CKF h.2.1 → CKF h167.2.1 := fun z => CKF.ve ve167 (ck149 z)
          have n73_167 : V h167.2.1 73 S = V h149.2.1 73 S := ve167.v (by omega) (by omega)
          have n74_167 : V h167.2.1 74 S = V h149.2.1 74 S := ve167.v (by omega) (by omega)
          have n75_167 : V h167.2.1 75 S = V h149.2.1 75 S := ve167.v (by omega) (by omega)
          refine go_aload_n (pc := 78) rfl dX8_readTest_78 ?_
          refine gi_getF (pc := 79) (q := 86) hv167 fL_X8_56 rfl (Nat.le_of_ble_eq_true rfl) rfl (hv167.rf (by decide)) dX8_readTest_79 ?_
          refine go_iload_n (pc := 82) rfl dX8_readTest_82 ?_
          refine go_aload_n (pc := 83) rfl dX8_readTest_83 ?_
          refine go_iload_n (pc := 84) rfl dX8_readTest_84 ?_
          refine go_iload_n (pc := 85) rfl dX8_readTest_85 ?_
          refine go_iload_n (pc := 86) rfl dX8_readTest_86 ?_
          refine go_iconst (pc := 87) (v := 1) (by decide) dX8_readTest_87 ?_
          refine gf_iadd (pc := 88) (ti_rfl a4) (ti_c (v := 1) (a := 1) (by decide)) (by omega) (by omega) dX8_readTest_88 (fun v169 e170 => ?_)
          have zd : (v169 : Int32).toInt = a4.toInt + 1 := e170
          have r1 : R1 h.2.1 h167.2.1 S a2.toInt a4.toInt := (R1.ve (R1.ve (show R1 h.2.1 h103.2.1 S a2.toInt a4.toInt from by rw [E103]; exact R1.mk S0 ((((OP.rfl _).trans (f11 (by omega))).trans (OP.ve ve31)).trans (f54 (by omega))) (f91 (by omega)) rfl) ve149) ve167)
          have oo1 := r1.oo ht.1 ht.2.1 ht.2.2.1 ht.2.2.2.1
          have sM171 : (h167.2.1 70 6).toInt = S := (congrArg Int32.toInt oh167.side).trans hS.symm
          have g172 : (0 : Int) ≤ (h167.2.1 70 4).toInt := (hv167.2.1 70 4).1
          have g173 : (h167.2.1 70 4).toInt ≤ 500 := (hv167.2.1 70 4).2
          have g174 : (-2147483648 : Int) ≤ (h167.2.1 70 5).toInt := (hv167.2.1 70 5).1
          have g175 : (h167.2.1 70 5).toInt ≤ 2147483647 := (hv167.2.1 70 5).2
          have g176 : (h167.2.1 70 5).toInt = u160.toInt := by rw [← (show u160 = h167.2.1 70 5 from (show u160 = h167.2.1 70 5 from by rw [hv167e]; exact (g_iI rfl u160w.symm).symm))] <;> exact (ti_rfl u160)
          have g177 : (h167.2.1 70 4).toInt = (u158.toInt + 1) := by rw [← (show v165 = h167.2.1 70 4 from (show v165 = h167.2.1 70 4 from by rw [hv167e]; exact g_iS.symm))] <;> exact e166
          refine go_invV (pc := 89) (sl := 0) (ihB hv167 a2 (by rw [show (a2 : Int32).toInt = a2.toInt from (ti_rfl a2)]; omega) (by rw [show (a2 : Int32).toInt = a2.toInt from (ti_rfl a2)]; omega) a3 (by rw [show (a3 : Int32).toInt = a3.toInt from (ti_rfl a3)]; omega) (by rw [show (a3 : Int32).toInt = a3.toInt from (ti_rfl a3)]; omega) v169 (by rw [show (v169 : Int32).toInt = (a4.toInt + 1) from e170]; omega) (by rw [show (v169 : Int32).toInt = (a4.toInt + 1) from e170]; omega) (by rw [sM171]; exact (fun _ => by omega)) (by rw [sM171]; exact (fun _ => by rw [zd]; exact oo1)) (by omega)) mL_X8_224 iM_X8_readBlock sM_X8_readBlock (hv167.sh rfl) rfl rfl rfl (Nat.le_of_ble_eq_true rfl) (show d + 3 + 1 ≤ d + 4 by omega) (show 8 + (5 + 11) + 40 * (d + 3) ≤ 40 * (d + 4) by omega) (g_c0 hv167.ln) (Nat.le_of_ble_eq_true rfl) dX8_readTest_89 ?_
          intro r h178 hq _
          obtain ⟨v190, rfl, v190l, v190u, ⟨Q179, hv178, sq180⟩, f181, f182, f183, f184, f185, f186, f187, f188, f189⟩ := hq
          rw [sM171] at f183
          rw [sM171] at f184
          rw [sM171] at f188
          have oh178 : OH h.2.1 h178.2.1 S := oh167.trans f188
          have kp178 : KP h.2.1 h178.2.1 := kp167.trans f187
          have ck178 : CKF h.2.1 → CKF h178.2.1 := fun z => f189 (ck167 z)
          try rw [show (v169 : Int32).toInt = (a4.toInt + 1) from e170] at f181
          try rw [show (v169 : Int32).toInt = (a4.toInt + 1) from e170] at f182
          try rw [show (v169 : Int32).toInt = (a4.toInt + 1) from e170] at f183
          try rw [show (v169 : Int32).toInt = (a4.toInt + 1) from e170] at f184
          try rw [show (v169 : Int32).toInt = (a4.toInt + 1) from e170] at f185
          try rw [show (v169 : Int32).toInt = (a4.toInt + 1) from e170] at f186
          try rw [show (v169 : Int32).toInt = (a4.toInt + 1) from e170] at f187
          try rw [show (v169 : Int32).toInt = (a4.toInt + 1) from e170] at f188
          try rw [show (v169 : Int32).toInt = (a4.toInt + 1) from e170] at f189
          have fx178 : FX KRt h h178 := FX.tr fx167 f186
          have k191 := bd2_e k168 f185
          obtain ⟨u192, u192w⟩ : ∃ v : Int32, v = h178.2.1 70 4 := ⟨_, rfl⟩
          have u192e : (h178.2.1 70 4).toInt = u192.toInt := by rw [u192w]
          have u192l : 0 ≤ u192.toInt := by rw [u192w]; exact (hv178.2.1 70 4).1
          have u192u : u192.toInt ≤ 500 := by rw [u192w]; exact (hv178.2.1 70 4).2
          have k193 := k191
          obtain ⟨u194, u194w⟩ : ∃ v : Int32, v = h178.2.1 70 5 := ⟨_, rfl⟩
          have u194e : (h178.2.1 70 5).toInt = u194.toInt := by rw [u194w]
          have u194l : -2147483648 ≤ u194.toInt := by rw [u194w]; exact (hv178.2.1 70 5).1
          have u194u : u194.toInt ≤ 2147483647 := by rw [u194w]; exact (hv178.2.1 70 5).2
          have k195 := k193
          refine gi_fst (pc := 92) (lo := -1) (hi := 559) (len := 260) hv178 (ti_rfl a2) (ti_rfl v190) rfl (by omega) (by omega) (fun _ => rfl) (by omega) (by omega) (by omega) dX8_readTest_92 (fun h196 hv196 hv196e => ?_)
          have fx196 : FX KRt h h196 := FX.pI fx178 hv196e (by unfold KRt; omega)
          have k197 := bd_e k195 (st_I hv196e (ti_rfl v190))
          have E196 : h196.2.1 = (w1 h178.2.1 86 a2.toInt (v190 : Int32)) := by
            rw [hv196e]
            rfl
          have oh196 : OH h.2.1 h196.2.1 S := by rw [E196]; exact (oh178.trans (OH.w 130 rfl (by omega) (by omega) (by omega) (by omega)))
          have kp196 : KP h.2.1 h196.2.1 := by rw [E196]; exact (kp178.trans (KP.w (by omega)))
          have n73_196 : V h196.2.1 73 S = V h178.2.1 73 S := by rw [E196, V_ne (by omega)]
          have n74_196 : V h196.2.1 74 S = V h178.2.1 74 S := by rw [E196, V_ne (by omega)]
          have n75_196 : V h196.2.1 75 S = V h178.2.1 75 S := by rw [E196, V_ne (by omega)]
          have ck196 : CKF h.2.1 → CKF h196.2.1 := fun z => by rw [E196]; exact (CKF.w (by omega) (ck178 z))
          have g198 : (0 : Int) ≤ (h196.2.1 70 4).toInt := (hv196.2.1 70 4).1
          have g199 : (h196.2.1 70 4).toInt ≤ 500 := (hv196.2.1 70 4).2
          have g200 : (-2147483648 : Int) ≤ (h196.2.1 70 5).toInt := (hv196.2.1 70 5).1
          have g201 : (h196.2.1 70 5).toInt ≤ 2147483647 := (hv196.2.1 70 5).2
          have g202 : (h196.2.1 70 4).toInt = u192.toInt := by rw [← (show u192 = h196.2.1 70 4 from (show u192 = h196.2.1 70 4 from by rw [hv196e]; exact (g_iI rfl u192w.symm).symm))] <;> exact (ti_rfl u192)
          have g203 : (h196.2.1 70 5).toInt = u194.toInt := by rw [← (show u194 = h196.2.1 70 5 from (show u194 = h196.2.1 70 5 from by rw [hv196e]; exact (g_iI rfl u194w.symm).symm))] <;> exact (ti_rfl u194)
          have pp204 : (h196.2.1 70 5).toInt = 0 → (h.2.1 70 5).toInt = 0 := (by omega)
          have pp205 : (h.2.1 70 4).toInt ≤ (h196.2.1 70 4).toInt := (by omega)
          have pp206 : (h196.2.1 70 5).toInt = 0 → 6 * (V h196.2.1 73 S - V h196.2.1 75 S) - (h196.2.1 70 4).toInt ≤ 6 * (V h.2.1 73 S - V h.2.1 75 S) - (h.2.1 70 4).toInt - 0 ∧ 2 * V h196.2.1 74 S - (h196.2.1 70 4).toInt ≤ 2 * V h.2.1 74 S - (h.2.1 70 4).toInt := (by omega)
          have pp207 : (h196.2.1 70 5).toInt = 0 → RT h.2.1 h196.2.1 S a2.toInt a4.toInt := (fun hg => by rw [E196]; exact R1.fin2 S0 r1 (f184 (by omega)) rfl (fun q => by omega))
          have pp208 : st h196 = f_X8_readTest_b g_X8_readBlock (st h) a2.toInt a3.toInt a4.toInt := (k197.symm.trans kf)
          have pp209 : FX KRt h h196 := fx196
          subst hS
          exact gi_vret (pc := 93) ⟨rfl, ⟨_, hv196, (MW.trans (MW.trans (MW.trans (MW.trans (MW.trans sq8 sq51) sq87) (MW.mz _ _)) sq180) (MW.mz _ _))⟩, pp204, pp205, pp206, pp207, pp208, pp209, kp196, oh196, ck196⟩ hv196 dX8_readTest_93
        ·
          have k210 := if_f k161 q162
          have g211 : (0 : Int) ≤ (h149.2.1 70 4).toInt := (hv149.2.1 70 4).1
          have g212 : (h149.2.1 70 4).toInt ≤ 500 := (hv149.2.1 70 4).2
          have g213 : (-2147483648 : Int) ≤ (h149.2.1 70 5).toInt := (hv149.2.1 70 5).1
          have g214 : (h149.2.1 70 5).toInt ≤ 2147483647 := (hv149.2.1 70 5).2
          have g215 : (h149.2.1 70 4).toInt = u158.toInt := by rw [← (show u158 = h149.2.1 70 4 from u158w)] <;> exact (ti_rfl u158)
          have g216 : (h149.2.1 70 5).toInt = u160.toInt := by rw [← (show u160 = h149.2.1 70 5 from u160w)] <;> exact (ti_rfl u160)
          have pp217 : (h149.2.1 70 5).toInt = 0 → (h.2.1 70 5).toInt = 0 := (by omega)
          have pp218 : (h.2.1 70 4).toInt ≤ (h149.2.1 70 4).toInt := (by omega)
          have pp219 : (h149.2.1 70 5).toInt = 0 → 6 * (V h149.2.1 73 S - V h149.2.1 75 S) - (h149.2.1 70 4).toInt ≤ 6 * (V h.2.1 73 S - V h.2.1 75 S) - (h.2.1 70 4).toInt - 0 ∧ 2 * V h149.2.1 74 S - (h149.2.1 70 4).toInt ≤ 2 * V h.2.1 74 S - (h.2.1 70 4).toInt := (by omega)
          have pp220 : (h149.2.1 70 5).toInt = 0 → RT h.2.1 h149.2.1 S a2.toInt a4.toInt := (fun hg => R1.fin (R1.ve (show R1 h.2.1 h103.2.1 S a2.toInt a4.toInt from by rw [E103]; exact R1.mk S0 ((((OP.rfl _).trans (f11 (by omega))).trans (OP.ve ve31)).trans (f54 (by omega))) (f91 (by omega)) rfl) ve149) (by omega))
          have pp221 : st h149 = f_X8_readTest_b g_X8_readBlock (st h) a2.toInt a3.toInt a4.toInt := (k210.symm.trans kf)
          have pp222 : FX KRt h h149 := fx149
          subst hS
          exact gi_vret (pc := 67) ⟨rfl, ⟨_, hv149, (MW.trans (MW.trans (MW.trans sq8 sq51) sq87) (MW.mz _ _))⟩, pp217, pp218, pp219, pp220, pp221, pp222, kp149, oh149, ck149⟩ hv149 dX8_readTest_67
  ·
    have k223 := if_f k73 (fun z => z q74)
    have g224 : (0 : Int) ≤ (h49.2.1 70 4).toInt := (hv49.2.1 70 4).1
    have g225 : (h49.2.1 70 4).toInt ≤ 500 := (hv49.2.1 70 4).2
    have g226 : (-2147483648 : Int) ≤ (h49.2.1 70 5).toInt := (hv49.2.1 70 5).1
    have g227 : (h49.2.1 70 5).toInt ≤ 2147483647 := (hv49.2.1 70 5).2
    have g228 : (h49.2.1 70 4).toInt = u64.toInt := by rw [← (show u64 = h49.2.1 70 4 from u64w)] <;> exact (ti_rfl u64)
    have g229 : (h49.2.1 70 5).toInt = u66.toInt := by rw [← (show u66 = h49.2.1 70 5 from u66w)] <;> exact (ti_rfl u66)
    have pp230 : (h49.2.1 70 5).toInt = 0 → (h.2.1 70 5).toInt = 0 := (by omega)
    have pp231 : (h.2.1 70 4).toInt ≤ (h49.2.1 70 4).toInt := (by omega)
    have pp232 : (h49.2.1 70 5).toInt = 0 → 6 * (V h49.2.1 73 S - V h49.2.1 75 S) - (h49.2.1 70 4).toInt ≤ 6 * (V h.2.1 73 S - V h.2.1 75 S) - (h.2.1 70 4).toInt - 0 ∧ 2 * V h49.2.1 74 S - (h49.2.1 70 4).toInt ≤ 2 * V h.2.1 74 S - (h.2.1 70 4).toInt := (by omega)
    have pp233 : (h49.2.1 70 5).toInt = 0 → RT h.2.1 h49.2.1 S a2.toInt a4.toInt := (fun hg => absurd hg (by omega))
    have pp234 : st h49 = f_X8_readTest_b g_X8_readBlock (st h) a2.toInt a3.toInt a4.toInt := (k223.symm.trans kf)
    have pp235 : FX KRt h h49 := fx49
    subst hS
    exact gi_vret (pc := 25) ⟨rfl, ⟨_, hv49, (MW.trans sq8 sq51)⟩, pp230, pp231, pp232, pp233, pp234, pp235, kp49, oh49, ck49⟩ hv49 dX8_readTest_25
def f_X8_readTry_b (g_X8_readBlock : ST → Int → Int → Int → ST × Int) (s : ST) (a2 : Int) (a3 : Int) (a4 : Int) : ST :=
  bd2 (g_X8_readBlock s a2 a3 ((a4 + 1))) fun s8 v20 => bd (sI s8 85 (a2).toNat v20) fun s26 => bd (f_X8_isGood s26) fun v32 => if ¬ v32 = 0 then (bd2 (f_X8_nameHere s26 0) fun s42 v50 => bd (s42.1 70 4) fun u52 => bd (sI s42 82 (a2).toNat v50) fun s56 => bd (s56.1 82 (a2).toNat) fun v58 => if ¬ v58 = (-1) then (bd (sI s56 70 4 ((u52 + 1))) fun s65 => bd2 (g_X8_readBlock s65 a2 a3 ((a4 + 1))) fun s76 v88 => bd (sI s76 86 (a2).toNat v88) fun s94 => s94) else (bd (f_X8_fails s56 1) fun s115 => s115)) else (s26)
set_option maxHeartbeats 4000000 in
set_option maxRecDepth 100000 in
theorem s_X8_readTry_b_f (l : Launch) (d : Nat) {t : Nat} (g_X8_readBlock : ST → Int → Int → Int → ST × Int) (ihB : ∀ {P : PP} {h : HP} (_ : Iv P h) (a2 : Int32) (a2l : -1 ≤ a2.toInt) (a2u : a2.toInt ≤ 259) (a3 : Int32) (a3l : 0 ≤ a3.toInt) (a3u : a3.toInt ≤ 4) (a4 : Int32) (a4l : 0 ≤ a4.toInt) (a4u : a4.toInt ≤ 7) (hp : (h.2.1 70 5).toInt = 0 → 6 * (V h.2.1 73 (h.2.1 70 6).toInt - V h.2.1 75 (h.2.1 70 6).toInt) ≤ (h.2.1 70 4).toInt + 5 * a4.toInt ∧ 2 * V h.2.1 74 (h.2.1 70 6).toInt ≤ (h.2.1 70 4).toInt + a4.toInt) (ht : (h.2.1 70 5).toInt = 0 → TR h.2.1 (h.2.1 70 6).toInt ∧ OO h.2.1 (h.2.1 70 6).toInt a2.toInt a4.toInt) (hd : 7 ≤ a4.toInt + (t : Int)), Mt l yX8_readBlock cX8_readBlock 5 (some .int) (d + 2) [.ref 70, .int a2, .int a3, .int a4] h 0 0 (fun r h' => ∃ v : Int32, r = some (.int v) ∧ 0 ≤ v.toInt ∧ v.toInt ≤ 559 ∧ (∃ Q : PP, Iv Q h' ∧ MW P Q) ∧ ((h'.2.1 70 5).toInt = 0 → (h.2.1 70 5).toInt = 0) ∧ ((h.2.1 70 4).toInt ≤ (h'.2.1 70 4).toInt) ∧ ((h'.2.1 70 5).toInt = 0 → (h.2.1 70 4).toInt + 2 ≤ (h'.2.1 70 4).toInt ∧ 6 * (V h'.2.1 73 (h.2.1 70 6).toInt - V h'.2.1 75 (h.2.1 70 6).toInt) - (h'.2.1 70 4).toInt ≤ 6 * (V h.2.1 73 (h.2.1 70 6).toInt - V h.2.1 75 (h.2.1 70 6).toInt) - (h.2.1 70 4).toInt - 2 ∧ 2 * V h'.2.1 74 (h.2.1 70 6).toInt - (h'.2.1 70 4).toInt ≤ 2 * V h.2.1 74 (h.2.1 70 6).toInt - (h.2.1 70 4).toInt) ∧ ((h'.2.1 70 5).toInt = 0 → RB h.2.1 h'.2.1 (h.2.1 70 6).toInt a2.toInt a4.toInt v.toInt) ∧ ((st h', v.toInt) = g_X8_readBlock (st h) a2.toInt a3.toInt a4.toInt) ∧ (FX KRt h h') ∧ (KP h.2.1 h'.2.1) ∧ (OH h.2.1 h'.2.1 (h.2.1 70 6).toInt) ∧ (CKF h.2.1 → CKF h'.2.1))) {P : PP} {h : HP} (hv : Iv P h) (a2 : Int32) (a2l : 0 ≤ a2.toInt) (a2u : a2.toInt ≤ 259) (a3 : Int32) (a3l : 0 ≤ a3.toInt) (a3u : a3.toInt ≤ 4) (a4 : Int32) (a4l : 0 ≤ a4.toInt) (a4u : a4.toInt ≤ 6) (hi : 130 * (h.2.1 70 6).toInt ≤ a2.toInt ∧ a2.toInt < 130 * (h.2.1 70 6).toInt + 130) (h0 : (h.2.1 70 5).toInt = 0) (hp : 6 * (V h.2.1 73 (h.2.1 70 6).toInt - V h.2.1 75 (h.2.1 70 6).toInt) ≤ (h.2.1 70 4).toInt + 5 * a4.toInt + 5 ∧ 2 * V h.2.1 74 (h.2.1 70 6).toInt ≤ (h.2.1 70 4).toInt + a4.toInt + 1) (ht : TR h.2.1 (h.2.1 70 6).toInt ∧ a2.toInt = 130 * (h.2.1 70 6).toInt + V h.2.1 73 (h.2.1 70 6).toInt - 1 ∧ 0 < V h.2.1 73 (h.2.1 70 6).toInt ∧ V h.2.1 80 a2.toInt = a4.toInt ∧ V h.2.1 77 a2.toInt = 6) (hd : 7 ≤ a4.toInt + ((t + 1 : Nat) : Int)) : Mt l yX8_readTry cX8_readTry 4 none (d + 3) [.ref 70, .int a2, .int a3, .int a4] h 0 0 (fun r h' => r = none ∧ (∃ Q : PP, Iv Q h' ∧ MW P Q) ∧ ((h'.2.1 70 5).toInt = 0 → (h.2.1 70 5).toInt = 0) ∧ ((h.2.1 70 4).toInt ≤ (h'.2.1 70 4).toInt) ∧ ((h'.2.1 70 5).toInt = 0 → 6 * (V h'.2.1 73 (h.2.1 70 6).toInt - V h'.2.1 75 (h.2.1 70 6).toInt) - (h'.2.1 70 4).toInt ≤ 6 * (V h.2.1 73 (h.2.1 70 6).toInt - V h.2.1 75 (h.2.1 70 6).toInt) - (h.2.1 70 4).toInt - 5 ∧ 2 * V h'.2.1 74 (h.2.1 70 6).toInt - (h'.2.1 70 4).toInt ≤ 2 * V h.2.1 74 (h.2.1 70 6).toInt - (h.2.1 70 4).toInt) ∧ ((h'.2.1 70 5).toInt = 0 → RT h.2.1 h'.2.1 (h.2.1 70 6).toInt a2.toInt a4.toInt) ∧ (st h' = f_X8_readTry_b g_X8_readBlock (st h) a2.toInt a3.toInt a4.toInt) ∧ (FX KRt h h') ∧ (KP h.2.1 h'.2.1) ∧ (OH h.2.1 h'.2.1 (h.2.1 70 6).toInt) ∧ (CKF h.2.1 → CKF h'.2.1)) := by
  refine Mt_iv hv (by decide) (Nat.le_of_ble_eq_true rfl) ?_
  show Go l RX8 cX8_readTry 4 (g_rm (d + 3) 0 0) "readTry" none 117 0 0 (fun _ _ => True) (fun r h' => r = none ∧ (∃ Q : PP, Iv Q h' ∧ MW P Q) ∧ ((h'.2.1 70 5).toInt = 0 → (h.2.1 70 5).toInt = 0) ∧ ((h.2.1 70 4).toInt ≤ (h'.2.1 70 4).toInt) ∧ ((h'.2.1 70 5).toInt = 0 → 6 * (V h'.2.1 73 (h.2.1 70 6).toInt - V h'.2.1 75 (h.2.1 70 6).toInt) - (h'.2.1 70 4).toInt ≤ 6 * (V h.2.1 73 (h.2.1 70 6).toInt - V h.2.1 75 (h.2.1 70 6).toInt) - (h.2.1 70 4).toInt - 5 ∧ 2 * V h'.2.1 74 (h.2.1 70 6).toInt - (h'.2.1 70 4).toInt ≤ 2 * V h.2.1 74 (h.2.1 70 6).toInt - (h.2.1 70 4).toInt) ∧ ((h'.2.1 70 5).toInt = 0 → RT h.2.1 h'.2.1 (h.2.1 70 6).toInt a2.toInt a4.toInt) ∧ (st h' = f_X8_readTry_b g_X8_readBlock (st h) a2.toInt a3.toInt a4.toInt) ∧ (FX KRt h h') ∧ (KP h.2.1 h'.2.1) ∧ (OH h.2.1 h'.2.1 (h.2.1 70 6).toInt) ∧ (CKF h.2.1 → CKF h'.2.1)) 0 0 [(0, .ref 70), (1, .int a2), (2, .int a3), (3, .int a4)] [] h
  obtain ⟨S, hS⟩ : ∃ S : Int, S = (h.2.1 70 6).toInt := ⟨_, rfl⟩
  have S0 : 0 ≤ S := by rw [hS]; exact (hv.2.1 70 6).1
  have S1 : S ≤ 1 := by rw [hS]; exact (hv.2.1 70 6).2
  have oh : OH h.2.1 h.2.1 S := OH.rfl _ _
  have ck : CKF h.2.1 → CKF h.2.1 := id
  have kp : KP h.2.1 h.2.1 := KP.rfl _
  rw [← hS] at hi
  rw [← hS] at hp
  rw [← hS] at ht
  have fx : FX KRt h h := FX.rfl
  obtain ⟨fin, kf⟩ : ∃ z, z = f_X8_readTry_b g_X8_readBlock (st h) a2.toInt a3.toInt a4.toInt := ⟨_, _root_.rfl⟩
  have k0 := kf
  unfold f_X8_readTry_b at k0
  refine go_aload_n (pc := 0) rfl dX8_readTry_0 ?_
  refine gi_getF (pc := 1) (q := 85) hv fL_X8_53 rfl (Nat.le_of_ble_eq_true rfl) rfl (hv.rf (by decide)) dX8_readTry_1 ?_
  refine go_iload_n (pc := 4) rfl dX8_readTry_4 ?_
  refine go_aload_n (pc := 5) rfl dX8_readTry_5 ?_
  refine go_iload_n (pc := 6) rfl dX8_readTry_6 ?_
  refine go_iload_n (pc := 7) rfl dX8_readTry_7 ?_
  refine go_iload_n (pc := 8) rfl dX8_readTry_8 ?_
  refine go_iconst (pc := 9) (v := 1) (by decide) dX8_readTry_9 ?_
  refine gf_iadd (pc := 10) (ti_rfl a4) (ti_c (v := 1) (a := 1) (by decide)) (by omega) (by omega) dX8_readTry_10 (fun v1 e2 => ?_)
  have zd : (v1 : Int32).toInt = a4.toInt + 1 := e2
  have op1 : OP h.2.1 h.2.1 := (OP.rfl _)
  have o80 := (op1 S).2 80 a2.toInt (by omega) (by omega) (by omega) (by omega)
  have sM3 : (h.2.1 70 6).toInt = S := (congrArg Int32.toInt oh.side).trans hS.symm
  have g4 : (0 : Int) ≤ (h.2.1 70 4).toInt := (hv.2.1 70 4).1
  have g5 : (h.2.1 70 4).toInt ≤ 500 := (hv.2.1 70 4).2
  have g6 : (-2147483648 : Int) ≤ (h.2.1 70 5).toInt := (hv.2.1 70 5).1
  have g7 : (h.2.1 70 5).toInt ≤ 2147483647 := (hv.2.1 70 5).2
  refine go_invV (pc := 11) (sl := 0) (ihB hv a2 (by rw [show (a2 : Int32).toInt = a2.toInt from (ti_rfl a2)]; omega) (by rw [show (a2 : Int32).toInt = a2.toInt from (ti_rfl a2)]; omega) a3 (by rw [show (a3 : Int32).toInt = a3.toInt from (ti_rfl a3)]; omega) (by rw [show (a3 : Int32).toInt = a3.toInt from (ti_rfl a3)]; omega) v1 (by rw [show (v1 : Int32).toInt = (a4.toInt + 1) from e2]; omega) (by rw [show (v1 : Int32).toInt = (a4.toInt + 1) from e2]; omega) (by rw [sM3]; exact (fun _ => by omega)) (by rw [sM3]; exact (fun _ => by rw [zd]; exact ⟨(op1 S).1 ht.1, OO.last (by omega) (by omega) (by omega)⟩)) (by omega)) mL_X8_224 iM_X8_readBlock sM_X8_readBlock (hv.sh rfl) rfl rfl rfl (Nat.le_of_ble_eq_true rfl) (show d + 2 + 1 ≤ d + 3 by omega) (show 8 + (5 + 11) + 40 * (d + 2) ≤ 40 * (d + 3) by omega) (g_c0 hv.ln) (Nat.le_of_ble_eq_true rfl) dX8_readTry_11 ?_
  intro r h8 hq _
  obtain ⟨v20, rfl, v20l, v20u, ⟨Q9, hv8, sq10⟩, f11, f12, f13, f14, f15, f16, f17, f18, f19⟩ := hq
  rw [sM3] at f13
  rw [sM3] at f14
  rw [sM3] at f18
  have oh8 : OH h.2.1 h8.2.1 S := oh.trans f18
  have kp8 : KP h.2.1 h8.2.1 := kp.trans f17
  have ck8 : CKF h.2.1 → CKF h8.2.1 := fun z => f19 (ck z)
  try rw [show (v1 : Int32).toInt = (a4.toInt + 1) from e2] at f11
  try rw [show (v1 : Int32).toInt = (a4.toInt + 1) from e2] at f12
  try rw [show (v1 : Int32).toInt = (a4.toInt + 1) from e2] at f13
  try rw [show (v1 : Int32).toInt = (a4.toInt + 1) from e2] at f14
  try rw [show (v1 : Int32).toInt = (a4.toInt + 1) from e2] at f15
  try rw [show (v1 : Int32).toInt = (a4.toInt + 1) from e2] at f16
  try rw [show (v1 : Int32).toInt = (a4.toInt + 1) from e2] at f17
  try rw [show (v1 : Int32).toInt = (a4.toInt + 1) from e2] at f18
  try rw [show (v1 : Int32).toInt = (a4.toInt + 1) from e2] at f19
  have fx8 : FX KRt h h8 := FX.tr fx f16
  have k21 := bd2_e k0 f15
  obtain ⟨u22, u22w⟩ : ∃ v : Int32, v = h8.2.1 70 4 := ⟨_, rfl⟩
  have u22e : (h8.2.1 70 4).toInt = u22.toInt := by rw [u22w]
  have u22l : 0 ≤ u22.toInt := by rw [u22w]; exact (hv8.2.1 70 4).1
  have u22u : u22.toInt ≤ 500 := by rw [u22w]; exact (hv8.2.1 70 4).2
  have k23 := k21
  obtain ⟨u24, u24w⟩ : ∃ v : Int32, v = h8.2.1 70 5 := ⟨_, rfl⟩
  have u24e : (h8.2.1 70 5).toInt = u24.toInt := by rw [u24w]
  have u24l : -2147483648 ≤ u24.toInt := by rw [u24w]; exact (hv8.2.1 70 5).1
  have u24u : u24.toInt ≤ 2147483647 := by rw [u24w]; exact (hv8.2.1 70 5).2
  have k25 := k23
  refine gi_fst (pc := 14) (lo := -1) (hi := 559) (len := 260) hv8 (ti_rfl a2) (ti_rfl v20) rfl (by omega) (by omega) (fun _ => rfl) (by omega) (by omega) (by omega) dX8_readTry_14 (fun h26 hv26 hv26e => ?_)
  have fx26 : FX KRt h h26 := FX.pI fx8 hv26e (by unfold KRt; omega)
  have k27 := bd_e k25 (st_I hv26e (ti_rfl v20))
  refine go_aload_n (pc := 15) rfl dX8_readTry_15 ?_
  refine go_invV (pc := 16) (sl := 0) (s_X8_isGood_f l (d + 1) hv26 ) mL_X8_172 iM_X8_isGood sM_X8_isGood (hv26.sh rfl) rfl rfl rfl (Nat.le_of_ble_eq_true rfl) (show d + 1 + 1 + 1 ≤ d + 3 by omega) (show 8 + (1 + 11) + 40 * (d + 1 + 1) ≤ 40 * (d + 3) by omega) (g_c0 hv26.ln) (Nat.le_of_ble_eq_true rfl) dX8_readTry_16 ?_
  intro r h28 hq _
  obtain ⟨v32, rfl, v32l, v32u, rfl, f29, f30, f31⟩ := hq
  replace f31 : PE _ _ := f31
  have k33 := bd_e k27 f31.symm
  have E26 : h26.2.1 = (w1 h8.2.1 85 a2.toInt (v20 : Int32)) := by
    rw [hv26e]
    rfl
  have oh26 : OH h.2.1 h26.2.1 S := by rw [E26]; exact (oh8.trans (OH.w 130 rfl (by omega) (by omega) (by omega) (by omega)))
  have kp26 : KP h.2.1 h26.2.1 := by rw [E26]; exact (kp8.trans (KP.w (by omega)))
  have n73_26 : V h26.2.1 73 S = V h8.2.1 73 S := by rw [E26, V_ne (by omega)]
  have n74_26 : V h26.2.1 74 S = V h8.2.1 74 S := by rw [E26, V_ne (by omega)]
  have n75_26 : V h26.2.1 75 S = V h8.2.1 75 S := by rw [E26, V_ne (by omega)]
  have ck26 : CKF h.2.1 → CKF h26.2.1 := fun z => by rw [E26]; exact (CKF.w (by omega) (ck8 z))
  refine gf_if_ne (pc := 19) (tgt := 23) (ti_rfl v32) (by decide) dX8_readTry_19 (fun q34 => ?_) (fun q34 => ?_)
  ·
    have k35 := if_t k33 q34
    refine go_aload_n (pc := 23) rfl dX8_readTry_23 ?_
    refine gi_getF (pc := 24) (q := 82) hv26 fL_X8_44 rfl (Nat.le_of_ble_eq_true rfl) rfl (hv26.rf (by decide)) dX8_readTry_24 ?_
    refine go_iload_n (pc := 27) rfl dX8_readTry_27 ?_
    refine go_aload_n (pc := 28) rfl dX8_readTry_28 ?_
    refine go_iconst (pc := 29) (v := 0) (by decide) dX8_readTry_29 ?_
    have g36 : (0 : Int) ≤ (h26.2.1 70 4).toInt := (hv26.2.1 70 4).1
    have g37 : (h26.2.1 70 4).toInt ≤ 500 := (hv26.2.1 70 4).2
    have g38 : (-2147483648 : Int) ≤ (h26.2.1 70 5).toInt := (hv26.2.1 70 5).1
    have g39 : (h26.2.1 70 5).toInt ≤ 2147483647 := (hv26.2.1 70 5).2
    have g40 : (h26.2.1 70 4).toInt = u22.toInt := by rw [← (show u22 = h26.2.1 70 4 from (show u22 = h26.2.1 70 4 from by rw [hv26e]; exact (g_iI rfl u22w.symm).symm))] <;> exact (ti_rfl u22)
    have g41 : (h26.2.1 70 5).toInt = u24.toInt := by rw [← (show u24 = h26.2.1 70 5 from (show u24 = h26.2.1 70 5 from by rw [hv26e]; exact (g_iI rfl u24w.symm).symm))] <;> exact (ti_rfl u24)
    refine go_invV (pc := 30) (sl := 0) (s_X8_nameHere_f l (d + 0) hv26 0 (by rw [show (0 : Int32).toInt = 0 from (ti_c (v := 0) (a := 0) (by decide))]; omega) (by rw [show (0 : Int32).toInt = 0 from (ti_c (v := 0) (a := 0) (by decide))]; omega)) mL_X8_183 iM_X8_nameHere sM_X8_nameHere (hv26.sh rfl) rfl rfl rfl (Nat.le_of_ble_eq_true rfl) (show d + 0 + 2 + 1 ≤ d + 3 by omega) (show 8 + (3 + 11) + 40 * (d + 0 + 2) ≤ 40 * (d + 3) by omega) (g_c0 hv26.ln) (Nat.le_of_ble_eq_true rfl) dX8_readTry_30 ?_
    intro r h42 hq _
    obtain ⟨v50, rfl, v50l, v50u, hv42, f43, f44, f45, f46, f47, f48, f49⟩ := hq
    try rw [show (0 : Int32).toInt = 0 from (ti_c (v := 0) (a := 0) (by decide))] at f43
    try rw [show (0 : Int32).toInt = 0 from (ti_c (v := 0) (a := 0) (by decide))] at f44
    try rw [show (0 : Int32).toInt = 0 from (ti_c (v := 0) (a := 0) (by decide))] at f45
    try rw [show (0 : Int32).toInt = 0 from (ti_c (v := 0) (a := 0) (by decide))] at f46
    try rw [show (0 : Int32).toInt = 0 from (ti_c (v := 0) (a := 0) (by decide))] at f47
    try rw [show (0 : Int32).toInt = 0 from (ti_c (v := 0) (a := 0) (by decide))] at f48
    try rw [show (0 : Int32).toInt = 0 from (ti_c (v := 0) (a := 0) (by decide))] at f49
    have fx42 : FX KRt h h42 := FX.tr fx26 f49
    have k51 := bd2_e k35 f48
    have ve42 : VE h26.2.1 h42.2.1 := VE.of hv26 hv42
    have oh42 : OH h.2.1 h42.2.1 S := oh26.trans (OH.of hv26 hv42 S)
    have kp42 : KP h.2.1 h42.2.1 := kp26.trans (KP.ve ve42)
    have ck42 : CKF h.2.1 → CKF h42.2.1 := fun z => CKF.ve ve42 (ck26 z)
    have n73_42 : V h42.2.1 73 S = V h26.2.1 73 S := ve42.v (by omega) (by omega)
    have n74_42 : V h42.2.1 74 S = V h26.2.1 74 S := ve42.v (by omega) (by omega)
    have n75_42 : V h42.2.1 75 S = V h26.2.1 75 S := ve42.v (by omega) (by omega)
    obtain ⟨u52, u52w⟩ : ∃ v : Int32, v = h42.2.1 70 4 := ⟨_, rfl⟩
    have u52e : (h42.2.1 70 4).toInt = u52.toInt := by rw [u52w]
    have u52l : 0 ≤ u52.toInt := by rw [u52w]; exact (hv42.2.1 70 4).1
    have u52u : u52.toInt ≤ 500 := by rw [u52w]; exact (hv42.2.1 70 4).2
    have k53 := bd_e k51 (congrArg Int32.toInt u52w.symm)
    obtain ⟨u54, u54w⟩ : ∃ v : Int32, v = h42.2.1 70 5 := ⟨_, rfl⟩
    have u54e : (h42.2.1 70 5).toInt = u54.toInt := by rw [u54w]
    have u54l : -2147483648 ≤ u54.toInt := by rw [u54w]; exact (hv42.2.1 70 5).1
    have u54u : u54.toInt ≤ 2147483647 := by rw [u54w]; exact (hv42.2.1 70 5).2
    have k55 := k53
    refine gi_fst (pc := 33) (lo := -1) (hi := 9) (len := 260) hv42 (ti_rfl a2) (ti_rfl v50) rfl (by omega) (by omega) (fun _ => rfl) (by omega) (by omega) (by omega) dX8_readTry_33 (fun h56 hv56 hv56e => ?_)
    have fx56 : FX KRt h h56 := FX.pI fx42 hv56e (by unfold KRt; omega)
    have k57 := bd_e k55 (st_I hv56e (ti_rfl v50))
    refine go_aload_n (pc := 34) rfl dX8_readTry_34 ?_
    refine gi_getF (pc := 35) (q := 82) hv56 fL_X8_44 rfl (Nat.le_of_ble_eq_true rfl) rfl (hv56.rf (by decide)) dX8_readTry_35 ?_
    refine go_iload_n (pc := 38) rfl dX8_readTry_38 ?_
    have E56 : h56.2.1 = (w1 h42.2.1 82 a2.toInt (v50 : Int32)) := by
      rw [hv56e]
      rfl
    have oh56 : OH h.2.1 h56.2.1 S := by rw [E56]; exact (oh42.trans (OH.w 130 rfl (by omega) (by omega) (by omega) (by omega)))
    have kp56 : KP h.2.1 h56.2.1 := by rw [E56]; exact (kp42.trans (KP.w (by omega)))
    have n73_56 : V h56.2.1 73 S = V h42.2.1 73 S := by rw [E56, V_ne (by omega)]
    have n74_56 : V h56.2.1 74 S = V h42.2.1 74 S := by rw [E56, V_ne (by omega)]
    have n75_56 : V h56.2.1 75 S = V h42.2.1 75 S := by rw [E56, V_ne (by omega)]
    have ck56 : CKF h.2.1 → CKF h56.2.1 := fun z => by rw [E56]; exact (CKF.w (by omega) (ck42 z))
    refine gi_iald (pc := 39) (lo := -1) (hi := 9) (len := 260) hv56 (ti_rfl a2) rfl (by omega) (by omega) (fun _ => rfl) dX8_readTry_39 (fun v58 v58l v58u v58w => ?_)
    have k59 := bd_e k57 (congrArg Int32.toInt v58w.symm)
    have v58V : v58.toInt = V h56.2.1 82 a2.toInt := by rw [v58w]; rfl
    have vn0 : V h56.2.1 82 a2.toInt = v50.toInt := by rw [E56, V_eq] <;> exact (ti_rfl v50)
    refine go_iconst (pc := 40) (v := (-1)) (by decide) dX8_readTry_40 ?_
    refine gf_icmp_ne (pc := 41) (tgt := 50) (ti_rfl v58) (ti_c (v := (-1)) (a := (-1)) (by decide)) (by decide) dX8_readTry_41 (fun q60 => ?_) (fun q60 => ?_)
    ·
      have k61 := if_t k59 q60
      refine go_aload_n (pc := 50) rfl dX8_readTry_50 ?_
      refine go_dup (pc := 51) rfl dX8_readTry_51 ?_
      refine gi_get (pc := 52) (lo := 0) (hi := 500) hv56 fL_X8_163 rfl (Nat.le_of_ble_eq_true rfl) rfl rfl dX8_readTry_52 (fun v62 v62l v62u v62w => ?_)
      have v62r : u52 = h56.2.1 70 4 := (show u52 = h56.2.1 70 4 from by rw [hv56e]; exact (g_iI rfl u52w.symm).symm)
      have v62q : TI v62 u52.toInt := by rw [v62w.trans v62r.symm]; exact (ti_rfl u52)
      refine go_iconst (pc := 55) (v := 1) (by decide) dX8_readTry_55 ?_
      refine gf_iadd (pc := 56) v62q (ti_c (v := 1) (a := 1) (by decide)) (by omega) (by omega) dX8_readTry_56 (fun v63 e64 => ?_)
      refine gi_put (pc := 57) (lo := 0) (hi := 500) hv56 e64 (fP_X8_163 _) rfl (Nat.le_of_ble_eq_true rfl) rfl rfl (by omega) (by omega) rfl rfl (by decide) (by decide) (by decide) (by decide) dX8_readTry_57 (fun h65 hv65 hv65e => ?_)
      have fx65 : FX KRt h h65 := FX.pI fx56 hv65e (by unfold KRt; omega)
      have k66 := bd_e k61 (st_I hv65e e64)
      have ve65 : VE h56.2.1 h65.2.1 := VE.of hv56 hv65
      have oh65 : OH h.2.1 h65.2.1 S := oh56.trans (OH.of hv56 hv65 S)
      have kp65 : KP h.2.1 h65.2.1 := kp56.trans (KP.ve ve65)
      have ck65 : CKF h.2.1 → CKF h65.2.1 := fun z => CKF.ve ve65 (ck56 z)
      have n73_65 : V h65.2.1 73 S = V h56.2.1 73 S := ve65.v (by omega) (by omega)
      have n74_65 : V h65.2.1 74 S = V h56.2.1 74 S := ve65.v (by omega) (by omega)
      have n75_65 : V h65.2.1 75 S = V h56.2.1 75 S := ve65.v (by omega) (by omega)
      refine go_aload_n (pc := 60) rfl dX8_readTry_60 ?_
      refine gi_getF (pc := 61) (q := 86) hv65 fL_X8_56 rfl (Nat.le_of_ble_eq_true rfl) rfl (hv65.rf (by decide)) dX8_readTry_61 ?_
      refine go_iload_n (pc := 64) rfl dX8_readTry_64 ?_
      refine go_aload_n (pc := 65) rfl dX8_readTry_65 ?_
      refine go_iload_n (pc := 66) rfl dX8_readTry_66 ?_
      refine go_iload_n (pc := 67) rfl dX8_readTry_67 ?_
      refine go_iload_n (pc := 68) rfl dX8_readTry_68 ?_
      refine go_iconst (pc := 69) (v := 1) (by decide) dX8_readTry_69 ?_
      refine gf_iadd (pc := 70) (ti_rfl a4) (ti_c (v := 1) (a := 1) (by decide)) (by omega) (by omega) dX8_readTry_70 (fun v67 e68 => ?_)
      have zd : (v67 : Int32).toInt = a4.toInt + 1 := e68
      have r1 : R1 h.2.1 h65.2.1 S a2.toInt a4.toInt := (R1.ve (show R1 h.2.1 h56.2.1 S a2.toInt a4.toInt from by rw [E56]; exact R1.nm S0 (R1.ve (show R1 h.2.1 h26.2.1 S a2.toInt a4.toInt from by rw [E26]; exact R1.mk S0 (OP.rfl _) (f14 (by omega)) rfl) ve42) (by omega)) ve65)
      have oo1 := r1.oo ht.1 ht.2.1 ht.2.2.1 ht.2.2.2.1
      have sM69 : (h65.2.1 70 6).toInt = S := (congrArg Int32.toInt oh65.side).trans hS.symm
      have g70 : (0 : Int) ≤ (h65.2.1 70 4).toInt := (hv65.2.1 70 4).1
      have g71 : (h65.2.1 70 4).toInt ≤ 500 := (hv65.2.1 70 4).2
      have g72 : (-2147483648 : Int) ≤ (h65.2.1 70 5).toInt := (hv65.2.1 70 5).1
      have g73 : (h65.2.1 70 5).toInt ≤ 2147483647 := (hv65.2.1 70 5).2
      have g74 : (h65.2.1 70 5).toInt = u54.toInt := by rw [← (show u54 = h65.2.1 70 5 from (show u54 = h65.2.1 70 5 from by rw [hv65e]; exact (g_iI rfl (show u54 = h56.2.1 70 5 from by rw [hv56e]; exact (g_iI rfl u54w.symm).symm).symm).symm))] <;> exact (ti_rfl u54)
      have g75 : (h65.2.1 70 4).toInt = (u52.toInt + 1) := by rw [← (show v63 = h65.2.1 70 4 from (show v63 = h65.2.1 70 4 from by rw [hv65e]; exact g_iS.symm))] <;> exact e64
      refine go_invV (pc := 71) (sl := 0) (ihB hv65 a2 (by rw [show (a2 : Int32).toInt = a2.toInt from (ti_rfl a2)]; omega) (by rw [show (a2 : Int32).toInt = a2.toInt from (ti_rfl a2)]; omega) a3 (by rw [show (a3 : Int32).toInt = a3.toInt from (ti_rfl a3)]; omega) (by rw [show (a3 : Int32).toInt = a3.toInt from (ti_rfl a3)]; omega) v67 (by rw [show (v67 : Int32).toInt = (a4.toInt + 1) from e68]; omega) (by rw [show (v67 : Int32).toInt = (a4.toInt + 1) from e68]; omega) (by rw [sM69]; exact (fun _ => by omega)) (by rw [sM69]; exact (fun _ => by rw [zd]; exact oo1)) (by omega)) mL_X8_224 iM_X8_readBlock sM_X8_readBlock (hv65.sh rfl) rfl rfl rfl (Nat.le_of_ble_eq_true rfl) (show d + 2 + 1 ≤ d + 3 by omega) (show 8 + (5 + 11) + 40 * (d + 2) ≤ 40 * (d + 3) by omega) (g_c0 hv65.ln) (Nat.le_of_ble_eq_true rfl) dX8_readTry_71 ?_
      intro r h76 hq _
      obtain ⟨v88, rfl, v88l, v88u, ⟨Q77, hv76, sq78⟩, f79, f80, f81, f82, f83, f84, f85, f86, f87⟩ := hq
      rw [sM69] at f81
      rw [sM69] at f82
      rw [sM69] at f86
      have oh76 : OH h.2.1 h76.2.1 S := oh65.trans f86
      have kp76 : KP h.2.1 h76.2.1 := kp65.trans f85
      have ck76 : CKF h.2.1 → CKF h76.2.1 := fun z => f87 (ck65 z)
      try rw [show (v67 : Int32).toInt = (a4.toInt + 1) from e68] at f79
      try rw [show (v67 : Int32).toInt = (a4.toInt + 1) from e68] at f80
      try rw [show (v67 : Int32).toInt = (a4.toInt + 1) from e68] at f81
      try rw [show (v67 : Int32).toInt = (a4.toInt + 1) from e68] at f82
      try rw [show (v67 : Int32).toInt = (a4.toInt + 1) from e68] at f83
      try rw [show (v67 : Int32).toInt = (a4.toInt + 1) from e68] at f84
      try rw [show (v67 : Int32).toInt = (a4.toInt + 1) from e68] at f85
      try rw [show (v67 : Int32).toInt = (a4.toInt + 1) from e68] at f86
      try rw [show (v67 : Int32).toInt = (a4.toInt + 1) from e68] at f87
      have fx76 : FX KRt h h76 := FX.tr fx65 f84
      have k89 := bd2_e k66 f83
      obtain ⟨u90, u90w⟩ : ∃ v : Int32, v = h76.2.1 70 4 := ⟨_, rfl⟩
      have u90e : (h76.2.1 70 4).toInt = u90.toInt := by rw [u90w]
      have u90l : 0 ≤ u90.toInt := by rw [u90w]; exact (hv76.2.1 70 4).1
      have u90u : u90.toInt ≤ 500 := by rw [u90w]; exact (hv76.2.1 70 4).2
      have k91 := k89
      obtain ⟨u92, u92w⟩ : ∃ v : Int32, v = h76.2.1 70 5 := ⟨_, rfl⟩
      have u92e : (h76.2.1 70 5).toInt = u92.toInt := by rw [u92w]
      have u92l : -2147483648 ≤ u92.toInt := by rw [u92w]; exact (hv76.2.1 70 5).1
      have u92u : u92.toInt ≤ 2147483647 := by rw [u92w]; exact (hv76.2.1 70 5).2
      have k93 := k91
      refine gi_fst (pc := 74) (lo := -1) (hi := 559) (len := 260) hv76 (ti_rfl a2) (ti_rfl v88) rfl (by omega) (by omega) (fun _ => rfl) (by omega) (by omega) (by omega) dX8_readTry_74 (fun h94 hv94 hv94e => ?_)
      have fx94 : FX KRt h h94 := FX.pI fx76 hv94e (by unfold KRt; omega)
      have k95 := bd_e k93 (st_I hv94e (ti_rfl v88))
      have E94 : h94.2.1 = (w1 h76.2.1 86 a2.toInt (v88 : Int32)) := by
        rw [hv94e]
        rfl
      have oh94 : OH h.2.1 h94.2.1 S := by rw [E94]; exact (oh76.trans (OH.w 130 rfl (by omega) (by omega) (by omega) (by omega)))
      have kp94 : KP h.2.1 h94.2.1 := by rw [E94]; exact (kp76.trans (KP.w (by omega)))
      have n73_94 : V h94.2.1 73 S = V h76.2.1 73 S := by rw [E94, V_ne (by omega)]
      have n74_94 : V h94.2.1 74 S = V h76.2.1 74 S := by rw [E94, V_ne (by omega)]
      have n75_94 : V h94.2.1 75 S = V h76.2.1 75 S := by rw [E94, V_ne (by omega)]
      have ck94 : CKF h.2.1 → CKF h94.2.1 := fun z => by rw [E94]; exact (CKF.w (by omega) (ck76 z))
      have g96 : (0 : Int) ≤ (h94.2.1 70 4).toInt := (hv94.2.1 70 4).1
      have g97 : (h94.2.1 70 4).toInt ≤ 500 := (hv94.2.1 70 4).2
      have g98 : (-2147483648 : Int) ≤ (h94.2.1 70 5).toInt := (hv94.2.1 70 5).1
      have g99 : (h94.2.1 70 5).toInt ≤ 2147483647 := (hv94.2.1 70 5).2
      have g100 : (h94.2.1 70 4).toInt = u90.toInt := by rw [← (show u90 = h94.2.1 70 4 from (show u90 = h94.2.1 70 4 from by rw [hv94e]; exact (g_iI rfl u90w.symm).symm))] <;> exact (ti_rfl u90)
      have g101 : (h94.2.1 70 5).toInt = u92.toInt := by rw [← (show u92 = h94.2.1 70 5 from (show u92 = h94.2.1 70 5 from by rw [hv94e]; exact (g_iI rfl u92w.symm).symm))] <;> exact (ti_rfl u92)
      have pp102 : (h94.2.1 70 5).toInt = 0 → (h.2.1 70 5).toInt = 0 := (by omega)
      have pp103 : (h.2.1 70 4).toInt ≤ (h94.2.1 70 4).toInt := (by omega)
      have pp104 : (h94.2.1 70 5).toInt = 0 → 6 * (V h94.2.1 73 S - V h94.2.1 75 S) - (h94.2.1 70 4).toInt ≤ 6 * (V h.2.1 73 S - V h.2.1 75 S) - (h.2.1 70 4).toInt - 5 ∧ 2 * V h94.2.1 74 S - (h94.2.1 70 4).toInt ≤ 2 * V h.2.1 74 S - (h.2.1 70 4).toInt := (by omega)
      have vn1 : V h65.2.1 82 a2.toInt = V h56.2.1 82 a2.toInt := by rw [ve65.v (by omega) (by omega)]
      have vn2 : V h56.2.1 82 a2.toInt = v50.toInt := by rw [E56, V_eq] <;> exact (ti_rfl v50)
      have pp105 : (h94.2.1 70 5).toInt = 0 → RT h.2.1 h94.2.1 S a2.toInt a4.toInt := (fun hg => by rw [E94]; exact R1.fin2 S0 r1 (f82 (by omega)) rfl (fun _ => by omega))
      have pp106 : st h94 = f_X8_readTry_b g_X8_readBlock (st h) a2.toInt a3.toInt a4.toInt := (k95.symm.trans kf)
      have pp107 : FX KRt h h94 := fx94
      subst hS
      exact gi_vret (pc := 75) ⟨rfl, ⟨_, hv94, (MW.trans (MW.trans (MW.trans (MW.trans sq10 (MW.mz _ _)) (MW.mz _ _)) sq78) (MW.mz _ _))⟩, pp102, pp103, pp104, pp105, pp106, pp107, kp94, oh94, ck94⟩ hv94 dX8_readTry_75
    ·
      have k108 := if_f k59 (fun z => z q60)
      refine go_aload_n (pc := 44) rfl dX8_readTry_44 ?_
      refine go_iconst (pc := 45) (v := 1) (by decide) dX8_readTry_45 ?_
      have g109 : (0 : Int) ≤ (h56.2.1 70 4).toInt := (hv56.2.1 70 4).1
      have g110 : (h56.2.1 70 4).toInt ≤ 500 := (hv56.2.1 70 4).2
      have g111 : (-2147483648 : Int) ≤ (h56.2.1 70 5).toInt := (hv56.2.1 70 5).1
      have g112 : (h56.2.1 70 5).toInt ≤ 2147483647 := (hv56.2.1 70 5).2
      have g113 : (h56.2.1 70 4).toInt = u52.toInt := by rw [← (show u52 = h56.2.1 70 4 from (show u52 = h56.2.1 70 4 from by rw [hv56e]; exact (g_iI rfl u52w.symm).symm))] <;> exact (ti_rfl u52)
      have g114 : (h56.2.1 70 5).toInt = u54.toInt := by rw [← (show u54 = h56.2.1 70 5 from (show u54 = h56.2.1 70 5 from by rw [hv56e]; exact (g_iI rfl u54w.symm).symm))] <;> exact (ti_rfl u54)
      refine go_invV (pc := 46) (sl := 0) (s_X8_fails_f l (d + 1) hv56 1 (by rw [show (1 : Int32).toInt = 1 from (ti_c (v := 1) (a := 1) (by decide))]; omega) (by rw [show (1 : Int32).toInt = 1 from (ti_c (v := 1) (a := 1) (by decide))]; omega)) mL_X8_180 iM_X8_fails sM_X8_fails (hv56.sh rfl) rfl rfl rfl (Nat.le_of_ble_eq_true rfl) (show d + 1 + 1 + 1 ≤ d + 3 by omega) (show 8 + (2 + 11) + 40 * (d + 1 + 1) ≤ 40 * (d + 3) by omega) (g_c0 hv56.ln) (Nat.le_of_ble_eq_true rfl) dX8_readTry_46 ?_
      intro r h115 hq _
      obtain ⟨rfl, hv115, f116, f117, f118, f119⟩ := hq
      try rw [show (1 : Int32).toInt = 1 from (ti_c (v := 1) (a := 1) (by decide))] at f116
      try rw [show (1 : Int32).toInt = 1 from (ti_c (v := 1) (a := 1) (by decide))] at f117
      try rw [show (1 : Int32).toInt = 1 from (ti_c (v := 1) (a := 1) (by decide))] at f118
      try rw [show (1 : Int32).toInt = 1 from (ti_c (v := 1) (a := 1) (by decide))] at f119
      have fx115 : FX KRt h h115 := FX.tr fx56 f119
      have k120 := bd_e k108 f118.symm
      have ve115 : VE h56.2.1 h115.2.1 := VE.of hv56 hv115
      have oh115 : OH h.2.1 h115.2.1 S := oh56.trans (OH.of hv56 hv115 S)
      have kp115 : KP h.2.1 h115.2.1 := kp56.trans (KP.ve ve115)
      have ck115 : CKF h.2.1 → CKF h115.2.1 := fun z => CKF.ve ve115 (ck56 z)
      have n73_115 : V h115.2.1 73 S = V h56.2.1 73 S := ve115.v (by omega) (by omega)
      have n74_115 : V h115.2.1 74 S = V h56.2.1 74 S := ve115.v (by omega) (by omega)
      have n75_115 : V h115.2.1 75 S = V h56.2.1 75 S := ve115.v (by omega) (by omega)
      obtain ⟨u121, u121w⟩ : ∃ v : Int32, v = h115.2.1 70 4 := ⟨_, rfl⟩
      have u121e : (h115.2.1 70 4).toInt = u121.toInt := by rw [u121w]
      have u121l : 0 ≤ u121.toInt := by rw [u121w]; exact (hv115.2.1 70 4).1
      have u121u : u121.toInt ≤ 500 := by rw [u121w]; exact (hv115.2.1 70 4).2
      have k122 := k120
      obtain ⟨u123, u123w⟩ : ∃ v : Int32, v = h115.2.1 70 5 := ⟨_, rfl⟩
      have u123e : (h115.2.1 70 5).toInt = u123.toInt := by rw [u123w]
      have u123l : -2147483648 ≤ u123.toInt := by rw [u123w]; exact (hv115.2.1 70 5).1
      have u123u : u123.toInt ≤ 2147483647 := by rw [u123w]; exact (hv115.2.1 70 5).2
      have k124 := k122
      have g125 : (0 : Int) ≤ (h115.2.1 70 4).toInt := (hv115.2.1 70 4).1
      have g126 : (h115.2.1 70 4).toInt ≤ 500 := (hv115.2.1 70 4).2
      have g127 : (-2147483648 : Int) ≤ (h115.2.1 70 5).toInt := (hv115.2.1 70 5).1
      have g128 : (h115.2.1 70 5).toInt ≤ 2147483647 := (hv115.2.1 70 5).2
      have g129 : (h115.2.1 70 4).toInt = u121.toInt := by rw [← (show u121 = h115.2.1 70 4 from u121w)] <;> exact (ti_rfl u121)
      have g130 : (h115.2.1 70 5).toInt = u123.toInt := by rw [← (show u123 = h115.2.1 70 5 from u123w)] <;> exact (ti_rfl u123)
      have pp131 : (h115.2.1 70 5).toInt = 0 → (h.2.1 70 5).toInt = 0 := (by omega)
      have pp132 : (h.2.1 70 4).toInt ≤ (h115.2.1 70 4).toInt := (by omega)
      have pp133 : (h115.2.1 70 5).toInt = 0 → 6 * (V h115.2.1 73 S - V h115.2.1 75 S) - (h115.2.1 70 4).toInt ≤ 6 * (V h.2.1 73 S - V h.2.1 75 S) - (h.2.1 70 4).toInt - 5 ∧ 2 * V h115.2.1 74 S - (h115.2.1 70 4).toInt ≤ 2 * V h.2.1 74 S - (h.2.1 70 4).toInt := (by omega)
      have pp134 : (h115.2.1 70 5).toInt = 0 → RT h.2.1 h115.2.1 S a2.toInt a4.toInt := (fun hg => absurd hg (by omega))
      have pp135 : st h115 = f_X8_readTry_b g_X8_readBlock (st h) a2.toInt a3.toInt a4.toInt := (k124.symm.trans kf)
      have pp136 : FX KRt h h115 := fx115
      subst hS
      exact gi_vret (pc := 49) ⟨rfl, ⟨_, hv115, (MW.trans (MW.trans sq10 (MW.mz _ _)) (MW.mz _ _))⟩, pp131, pp132, pp133, pp134, pp135, pp136, kp115, oh115, ck115⟩ hv115 dX8_readTry_49
  ·
    have k137 := if_f k33 (fun z => z q34)
    have g138 : (0 : Int) ≤ (h26.2.1 70 4).toInt := (hv26.2.1 70 4).1
    have g139 : (h26.2.1 70 4).toInt ≤ 500 := (hv26.2.1 70 4).2
    have g140 : (-2147483648 : Int) ≤ (h26.2.1 70 5).toInt := (hv26.2.1 70 5).1
    have g141 : (h26.2.1 70 5).toInt ≤ 2147483647 := (hv26.2.1 70 5).2
    have g142 : (h26.2.1 70 4).toInt = u22.toInt := by rw [← (show u22 = h26.2.1 70 4 from (show u22 = h26.2.1 70 4 from by rw [hv26e]; exact (g_iI rfl u22w.symm).symm))] <;> exact (ti_rfl u22)
    have g143 : (h26.2.1 70 5).toInt = u24.toInt := by rw [← (show u24 = h26.2.1 70 5 from (show u24 = h26.2.1 70 5 from by rw [hv26e]; exact (g_iI rfl u24w.symm).symm))] <;> exact (ti_rfl u24)
    have pp144 : (h26.2.1 70 5).toInt = 0 → (h.2.1 70 5).toInt = 0 := (by omega)
    have pp145 : (h.2.1 70 4).toInt ≤ (h26.2.1 70 4).toInt := (by omega)
    have pp146 : (h26.2.1 70 5).toInt = 0 → 6 * (V h26.2.1 73 S - V h26.2.1 75 S) - (h26.2.1 70 4).toInt ≤ 6 * (V h.2.1 73 S - V h.2.1 75 S) - (h.2.1 70 4).toInt - 5 ∧ 2 * V h26.2.1 74 S - (h26.2.1 70 4).toInt ≤ 2 * V h.2.1 74 S - (h.2.1 70 4).toInt := (by omega)
    have pp147 : (h26.2.1 70 5).toInt = 0 → RT h.2.1 h26.2.1 S a2.toInt a4.toInt := (fun hg => absurd hg (by omega))
    have pp148 : st h26 = f_X8_readTry_b g_X8_readBlock (st h) a2.toInt a3.toInt a4.toInt := (k137.symm.trans kf)
    have pp149 : FX KRt h h26 := fx26
    subst hS
    exact gi_vret (pc := 22) ⟨rfl, ⟨_, hv26, (MW.trans sq10 (MW.mz _ _))⟩, pp144, pp145, pp146, pp147, pp148, pp149, kp26, oh26, ck26⟩ hv26 dX8_readTry_22

