def m_B : Nat → ST → Int → Int → Int → ST × Int
  | 0 => f_X8_readBlock_b (fun s _ _ _ => s)
  | t + 1 => f_X8_readBlock_b (f_X8_readItem_b (f_X8_readTest_b (m_B t)) (f_X8_readTry_b (m_B t)))
def f_X8_readBlock : ST → Int → Int → Int → ST × Int := m_B 7
theorem b_readBlock_f (l : Launch) : ∀ (t d : Nat), 3 * t ≤ d → (∀ {P : PP} {h : HP} (_ : Iv P h) (a2 : Int32) (a2l : -1 ≤ a2.toInt) (a2u : a2.toInt ≤ 259) (a3 : Int32) (a3l : 0 ≤ a3.toInt) (a3u : a3.toInt ≤ 4) (a4 : Int32) (a4l : 0 ≤ a4.toInt) (a4u : a4.toInt ≤ 7) (hp : (h.2.1 70 5).toInt = 0 → 6 * (V h.2.1 73 (h.2.1 70 6).toInt - V h.2.1 75 (h.2.1 70 6).toInt) ≤ (h.2.1 70 4).toInt + 5 * a4.toInt ∧ 2 * V h.2.1 74 (h.2.1 70 6).toInt ≤ (h.2.1 70 4).toInt + a4.toInt) (ht : (h.2.1 70 5).toInt = 0 → TR h.2.1 (h.2.1 70 6).toInt ∧ OO h.2.1 (h.2.1 70 6).toInt a2.toInt a4.toInt) (hd : 7 ≤ a4.toInt + (t : Int)), Mt l yX8_readBlock cX8_readBlock 5 (some .int) (d + 3) [.ref 70, .int a2, .int a3, .int a4] h 0 0 (fun r h' => ∃ v : Int32, r = some (.int v) ∧ 0 ≤ v.toInt ∧ v.toInt ≤ 559 ∧ (∃ Q : PP, Iv Q h' ∧ MW P Q) ∧ ((h'.2.1 70 5).toInt = 0 → (h.2.1 70 5).toInt = 0) ∧ ((h.2.1 70 4).toInt ≤ (h'.2.1 70 4).toInt) ∧ ((h'.2.1 70 5).toInt = 0 → (h.2.1 70 4).toInt + 2 ≤ (h'.2.1 70 4).toInt ∧ 6 * (V h'.2.1 73 (h.2.1 70 6).toInt - V h'.2.1 75 (h.2.1 70 6).toInt) - (h'.2.1 70 4).toInt ≤ 6 * (V h.2.1 73 (h.2.1 70 6).toInt - V h.2.1 75 (h.2.1 70 6).toInt) - (h.2.1 70 4).toInt - 2 ∧ 2 * V h'.2.1 74 (h.2.1 70 6).toInt - (h'.2.1 70 4).toInt ≤ 2 * V h.2.1 74 (h.2.1 70 6).toInt - (h.2.1 70 4).toInt) ∧ ((h'.2.1 70 5).toInt = 0 → RB h.2.1 h'.2.1 (h.2.1 70 6).toInt a2.toInt a4.toInt v.toInt) ∧ ((st h', v.toInt) = m_B t (st h) a2.toInt a3.toInt a4.toInt) ∧ (FX KRt h h') ∧ (KP h.2.1 h'.2.1) ∧ (OH h.2.1 h'.2.1 (h.2.1 70 6).toInt) ∧ (CKF h.2.1 → CKF h'.2.1))) := by
  intro t
  induction t with
  | zero =>
    intro d _
    exact @s_X8_readBlock_b_f l (d + 0) 0 (fun s _ _ _ => s) (by intros; exfalso; omega)
  | succ t ih =>
    intro d hd
    obtain ⟨m, rfl⟩ : ∃ m, d = m + 3 := ⟨d - 3, by omega⟩
    have hb := @ih m (by omega)
    have hT := @s_X8_readTest_b_f l (m + 0) t (m_B t) hb
    have hY := @s_X8_readTry_b_f l (m + 1) t (m_B t) hb
    have hI := @s_X8_readItem_b_f l (m + 0) (t + 1) (f_X8_readTest_b (m_B t)) (f_X8_readTry_b (m_B t)) hT hY
    exact @s_X8_readBlock_b_f l (m + 3) (t + 1) (f_X8_readItem_b (f_X8_readTest_b (m_B t)) (f_X8_readTry_b (m_B t))) hI
theorem s_X8_readBlock_f (l : Launch) (d : Nat) {P : PP} {h : HP} (hv : Iv P h) (a2 : Int32) (a2l : -1 ≤ a2.toInt) (a2u : a2.toInt ≤ 259) (a3 : Int32) (a3l : 0 ≤ a3.toInt) (a3u : a3.toInt ≤ 4) (a4 : Int32) (a4l : 0 ≤ a4.toInt) (a4u : a4.toInt ≤ 7) (hp : (h.2.1 70 5).toInt = 0 → 6 * (V h.2.1 73 (h.2.1 70 6).toInt - V h.2.1 75 (h.2.1 70 6).toInt) ≤ (h.2.1 70 4).toInt + 5 * a4.toInt ∧ 2 * V h.2.1 74 (h.2.1 70 6).toInt ≤ (h.2.1 70 4).toInt + a4.toInt) (ht : (h.2.1 70 5).toInt = 0 → TR h.2.1 (h.2.1 70 6).toInt ∧ OO h.2.1 (h.2.1 70 6).toInt a2.toInt a4.toInt) : Mt l yX8_readBlock cX8_readBlock 5 (some .int) (d + 24) [.ref 70, .int a2, .int a3, .int a4] h 0 0 (fun r h' => ∃ v : Int32, r = some (.int v) ∧ 0 ≤ v.toInt ∧ v.toInt ≤ 559 ∧ (∃ Q : PP, Iv Q h' ∧ MW P Q) ∧ ((h'.2.1 70 5).toInt = 0 → (h.2.1 70 5).toInt = 0) ∧ ((h.2.1 70 4).toInt ≤ (h'.2.1 70 4).toInt) ∧ ((h'.2.1 70 5).toInt = 0 → (h.2.1 70 4).toInt + 2 ≤ (h'.2.1 70 4).toInt ∧ 6 * (V h'.2.1 73 (h.2.1 70 6).toInt - V h'.2.1 75 (h.2.1 70 6).toInt) - (h'.2.1 70 4).toInt ≤ 6 * (V h.2.1 73 (h.2.1 70 6).toInt - V h.2.1 75 (h.2.1 70 6).toInt) - (h.2.1 70 4).toInt - 2 ∧ 2 * V h'.2.1 74 (h.2.1 70 6).toInt - (h'.2.1 70 4).toInt ≤ 2 * V h.2.1 74 (h.2.1 70 6).toInt - (h.2.1 70 4).toInt) ∧ ((h'.2.1 70 5).toInt = 0 → RB h.2.1 h'.2.1 (h.2.1 70 6).toInt a2.toInt a4.toInt v.toInt) ∧ ((st h', v.toInt) = f_X8_readBlock (st h) a2.toInt a3.toInt a4.toInt) ∧ (FX KRt h h') ∧ (KP h.2.1 h'.2.1) ∧ (OH h.2.1 h'.2.1 (h.2.1 70 6).toInt) ∧ (CKF h.2.1 → CKF h'.2.1)) := b_readBlock_f l 7 (d + 21) (by omega) hv a2 a2l a2u a3 a3l a3u a4 a4l a4u hp ht (by omega)

def f_X8_readAll_ : Nat → Nat → ST → ST
  | 0, _, sx => sx
  | n + 1, _, sx => bd2 (f_X8_here sx) fun s5 v12 => bd (s5.1 70 4) fun u14 => bd (f_X8_isIn s5 v12 65 90) fun v22 => if ¬ v22 = 0 then (bd (s5.1 70 6) fun v26 => bd (s5.1 76 (v26).toNat) fun v28 => if v28 = 5 then (bd (f_X8_fails s5 3) fun s38 => bd (s38.1 70 4) fun u44 => bd (f_X8_isGood s38) fun v52 => if ¬ v52 = 0 then (bd (s38.1 70 6) fun v56 => bd (s38.1 76 (v56).toNat) fun v58 => bd (s38.1 76 (v56).toNat) fun v61 => bd (sI s38 76 (v56).toNat ((v61 + 1))) fun s65 => bd (sI s65 70 4 ((u44 + 1))) fun s70 => bd2 (f_X8_readBlock s70 (-1) v58 0) fun s84 v96 => bd (sI s84 94 (((5 * v56) + v58)).toNat v96) fun s102 => bd (f_X8_isGood s102) fun v108 => if v108 = 0 then (s102) else (bd2 (f_X8_here s102) fun s128 v135 => if ¬ v135 = (-1) then (f_X8_readAll_ n 0 s128) else (s128))) else (s38)) else (bd (s5.1 76 (v26).toNat) fun v171 => if v12 = (65 + v171) then (bd (f_X8_isGood s5) fun v181 => if ¬ v181 = 0 then (bd (s5.1 76 (v26).toNat) fun v186 => bd (s5.1 76 (v26).toNat) fun v189 => bd (sI s5 76 (v26).toNat ((v189 + 1))) fun s193 => bd (sI s193 70 4 ((u14 + 1))) fun s198 => bd2 (f_X8_readBlock s198 (-1) v186 0) fun s212 v224 => bd (sI s212 94 (((5 * v26) + v186)).toNat v224) fun s230 => bd (f_X8_isGood s230) fun v236 => if v236 = 0 then (s230) else (bd2 (f_X8_here s230) fun s256 v263 => if ¬ v263 = (-1) then (f_X8_readAll_ n 0 s256) else (s256))) else (s5)) else (bd (f_X8_fails s5 3) fun s304 => bd (s304.1 70 4) fun u310 => bd (f_X8_isGood s304) fun v318 => if ¬ v318 = 0 then (bd (s304.1 70 6) fun v322 => bd (s304.1 76 (v322).toNat) fun v324 => bd (s304.1 76 (v322).toNat) fun v327 => bd (sI s304 76 (v322).toNat ((v327 + 1))) fun s331 => bd (sI s331 70 4 ((u310 + 1))) fun s336 => bd2 (f_X8_readBlock s336 (-1) v324 0) fun s350 v362 => bd (sI s350 94 (((5 * v322) + v324)).toNat v362) fun s368 => bd (f_X8_isGood s368) fun v374 => if v374 = 0 then (s368) else (bd2 (f_X8_here s368) fun s394 v401 => if ¬ v401 = (-1) then (f_X8_readAll_ n 0 s394) else (s394))) else (s304)))) else (bd (f_X8_fails s5 1) fun s442 => bd (s442.1 70 4) fun u448 => bd (f_X8_isGood s442) fun v456 => if ¬ v456 = 0 then (bd (s442.1 70 6) fun v460 => bd (s442.1 76 (v460).toNat) fun v462 => bd (s442.1 76 (v460).toNat) fun v465 => bd (sI s442 76 (v460).toNat ((v465 + 1))) fun s469 => bd (sI s469 70 4 ((u448 + 1))) fun s474 => bd2 (f_X8_readBlock s474 (-1) v462 0) fun s488 v500 => bd (sI s488 94 (((5 * v460) + v462)).toNat v500) fun s506 => bd (f_X8_isGood s506) fun v512 => if v512 = 0 then (s506) else (bd2 (f_X8_here s506) fun s532 v539 => if ¬ v539 = (-1) then (f_X8_readAll_ n 0 s532) else (s532))) else (s442))
def f_X8_readAll (s : ST) : ST :=
  f_X8_readAll_ 1522 0 s
set_option maxHeartbeats 4000000 in
set_option maxRecDepth 100000 in
theorem s_X8_readAll_f (l : Launch) (d : Nat) {P : PP} {h : HP} (hv : Iv P h) (hz : (h.2.1 70 5).toInt = 0 ∧ V h.2.1 73 (h.2.1 70 6).toInt = 0 ∧ V h.2.1 74 (h.2.1 70 6).toInt = 0 ∧ V h.2.1 75 (h.2.1 70 6).toInt = 0 ∧ V h.2.1 76 (h.2.1 70 6).toInt = 0) : Mt l yX8_readAll cX8_readAll 3 none (d + 25) [.ref 70] h 0 0 (fun r h' => r = none ∧ (∃ Q : PP, Iv Q h' ∧ MW P Q) ∧ ((h'.2.1 70 5).toInt = 0 → RD h'.2.1 (h.2.1 70 6).toInt ∧ 1 ≤ V h'.2.1 76 (h.2.1 70 6).toInt) ∧ (st h' = f_X8_readAll (st h)) ∧ (FX KRt h h') ∧ (OH h.2.1 h'.2.1 (h.2.1 70 6).toInt) ∧ (CKF h.2.1 → CKF h'.2.1)) := by
  refine Mt_iv hv (by decide) (Nat.le_of_ble_eq_true rfl) ?_
  show Go l RX8 cX8_readAll 3 (g_rm (d + 25) 0 0) "readAll" none 117 0 0 (fun _ _ => True) (fun r h' => r = none ∧ (∃ Q : PP, Iv Q h' ∧ MW P Q) ∧ ((h'.2.1 70 5).toInt = 0 → RD h'.2.1 (h.2.1 70 6).toInt ∧ 1 ≤ V h'.2.1 76 (h.2.1 70 6).toInt) ∧ (st h' = f_X8_readAll (st h)) ∧ (FX KRt h h') ∧ (OH h.2.1 h'.2.1 (h.2.1 70 6).toInt) ∧ (CKF h.2.1 → CKF h'.2.1)) 0 0 [(0, .ref 70)] [] h
  obtain ⟨S, hS⟩ : ∃ S : Int, S = (h.2.1 70 6).toInt := ⟨_, rfl⟩
  have S0 : 0 ≤ S := by rw [hS]; exact (hv.2.1 70 6).1
  have S1 : S ≤ 1 := by rw [hS]; exact (hv.2.1 70 6).2
  have oh : OH h.2.1 h.2.1 S := OH.rfl _ _
  have ck : CKF h.2.1 → CKF h.2.1 := id
  rw [← hS] at hz
  have fx : FX KRt h h := FX.rfl
  obtain ⟨fin, kf⟩ : ∃ z, z = f_X8_readAll (st h) := ⟨_, _root_.rfl⟩
  have k0 := kf
  unfold f_X8_readAll at k0
  have key : ∀ n : Nat, (∀  (Qx : PP) (hx : HP), Iv Qx hx → MW P Qx → ((hx.2.1 70 5).toInt = 0) → (RD hx.2.1 S) → (6 * (V hx.2.1 73 S - V hx.2.1 75 S) ≤ (hx.2.1 70 4).toInt) → (2 * V hx.2.1 74 S ≤ (hx.2.1 70 4).toInt) → OH h.2.1 hx.2.1 S → (CKF h.2.1 → CKF hx.2.1) → (0 : Int) ≤ (hx.2.1 70 4).toInt → (hx.2.1 70 4).toInt ≤ 500 → (-2147483648 : Int) ≤ (hx.2.1 70 5).toInt → (hx.2.1 70 5).toInt ≤ 2147483647 → FX KRt h hx → fin = f_X8_readAll_ n 0 (st hx) → (3 * (500 - (hx.2.1 70 4).toInt) + 2 : Int) < n → Go l RX8 cX8_readAll 3 (g_rm (d + 25) 0 0) "readAll" none 117 0 0 (fun _ _ => True) (fun r h' => r = none ∧ (∃ Q : PP, Iv Q h' ∧ MW P Q) ∧ ((h'.2.1 70 5).toInt = 0 → RD h'.2.1 (h.2.1 70 6).toInt ∧ 1 ≤ V h'.2.1 76 (h.2.1 70 6).toInt) ∧ (st h' = f_X8_readAll (st h)) ∧ (FX KRt h h') ∧ (OH h.2.1 h'.2.1 (h.2.1 70 6).toInt) ∧ (CKF h.2.1 → CKF h'.2.1)) 0 0 [(0, .ref 70)] [] hx) := by
    intro n
    induction n with
    | zero => exact (by intros; omega)
    | succ n ih =>
      refine ?_
      ·
        intro Qx hx hvx sqx x0 x1 x2 x3 ohx ckx y0l y0u y1l y1u fxx kL hm
        rw [f_X8_readAll_] at kL
        have xrd := x1
        refine go_aload_n (pc := 0) rfl dX8_readAll_0 ?_
        have g1 : (0 : Int) ≤ (hx.2.1 70 4).toInt := (hvx.2.1 70 4).1
        have g2 : (hx.2.1 70 4).toInt ≤ 500 := (hvx.2.1 70 4).2
        have g3 : (-2147483648 : Int) ≤ (hx.2.1 70 5).toInt := (hvx.2.1 70 5).1
        have g4 : (hx.2.1 70 5).toInt ≤ 2147483647 := (hvx.2.1 70 5).2
        refine go_invV (pc := 1) (sl := 0) (s_X8_here_f l (d + 23) hvx ) mL_X8_176 iM_X8_here sM_X8_here (hvx.sh rfl) rfl rfl rfl (Nat.le_of_ble_eq_true rfl) (show d + 23 + 1 + 1 ≤ d + 25 by omega) (show 8 + (1 + 11) + 40 * (d + 23 + 1) ≤ 40 * (d + 25) by omega) (g_c0 hvx.ln) (Nat.le_of_ble_eq_true rfl) dX8_readAll_1 ?_
        intro r h5 hq _
        obtain ⟨v12, rfl, v12l, v12u, hv5, f6, f7, f8, f9, f10, f11⟩ := hq
        have fx5 : FX KRt h h5 := FX.tr fxx f11
        have k13 := bd2_e kL f10
        have ve5 : VE hx.2.1 h5.2.1 := VE.of hvx hv5
        have oh5 : OH h.2.1 h5.2.1 S := ohx.trans (OH.of hvx hv5 S)
        have ck5 : CKF h.2.1 → CKF h5.2.1 := fun z => CKF.ve ve5 (ckx z)
        have n73_5 : V h5.2.1 73 S = V hx.2.1 73 S := ve5.v (by omega) (by omega)
        have n74_5 : V h5.2.1 74 S = V hx.2.1 74 S := ve5.v (by omega) (by omega)
        have n75_5 : V h5.2.1 75 S = V hx.2.1 75 S := ve5.v (by omega) (by omega)
        obtain ⟨u14, u14w⟩ : ∃ v : Int32, v = h5.2.1 70 4 := ⟨_, rfl⟩
        have u14e : (h5.2.1 70 4).toInt = u14.toInt := by rw [u14w]
        have u14l : 0 ≤ u14.toInt := by rw [u14w]; exact (hv5.2.1 70 4).1
        have u14u : u14.toInt ≤ 500 := by rw [u14w]; exact (hv5.2.1 70 4).2
        have k15 := bd_e k13 (congrArg Int32.toInt u14w.symm)
        obtain ⟨u16, u16w⟩ : ∃ v : Int32, v = h5.2.1 70 5 := ⟨_, rfl⟩
        have u16e : (h5.2.1 70 5).toInt = u16.toInt := by rw [u16w]
        have u16l : -2147483648 ≤ u16.toInt := by rw [u16w]; exact (hv5.2.1 70 5).1
        have u16u : u16.toInt ≤ 2147483647 := by rw [u16w]; exact (hv5.2.1 70 5).2
        have k17 := k15
        refine go_istore_n (pc := 4) (Nat.le_of_ble_eq_true rfl) dX8_readAll_4 (go_lv (lv2 := [(0, .ref 70), (1, .int v12)]) rfl ?_)
        refine go_iload_n (pc := 5) rfl dX8_readAll_5 ?_
        refine go_bipush (pc := 6) (v := 65) (by decide) dX8_readAll_6 ?_
        refine go_bipush (pc := 8) (v := 90) (by decide) dX8_readAll_8 ?_
        refine go_invS (pc := 10) (sl := 0) (s_X8_isIn_f l (d + 23) hv5 v12 65 90) mL_X8_159 iM_X8_isIn rfl rfl (Nat.le_of_ble_eq_true rfl) (show d + 23 + 1 + 1 ≤ d + 25 by omega) (show 8 + (3 + 11) + 40 * (d + 23 + 1) ≤ 40 * (d + 25) by omega) (g_c0 hv5.ln) (Nat.le_of_ble_eq_true rfl) dX8_readAll_10 ?_
        intro r h18 hq _
        obtain ⟨v22, rfl, v22l, v22u, rfl, f19, f20, f21⟩ := hq
        try rw [show (65 : Int32).toInt = 65 from (ti_c (v := 65) (a := 65) (by decide))] at f19
        try rw [show (90 : Int32).toInt = 90 from (ti_c (v := 90) (a := 90) (by decide))] at f19
        try rw [show (65 : Int32).toInt = 65 from (ti_c (v := 65) (a := 65) (by decide))] at f20
        try rw [show (90 : Int32).toInt = 90 from (ti_c (v := 90) (a := 90) (by decide))] at f20
        try rw [show (65 : Int32).toInt = 65 from (ti_c (v := 65) (a := 65) (by decide))] at f21
        try rw [show (90 : Int32).toInt = 90 from (ti_c (v := 90) (a := 90) (by decide))] at f21
        replace f21 : PE _ _ := f21
        have k23 := bd_e k17 f21.symm
        refine gf_if_ne (pc := 13) (tgt := 24) (ti_rfl v22) (by decide) dX8_readAll_13 (fun q24 => ?_) (fun q24 => ?_)
        ·
          have k25 := if_t k23 q24
          refine go_aload_n (pc := 24) rfl dX8_readAll_24 ?_
          refine gi_getF (pc := 25) (q := 76) hv5 fL_X8_26 rfl (Nat.le_of_ble_eq_true rfl) rfl (hv5.rf (by decide)) dX8_readAll_25 ?_
          refine go_aload_n (pc := 28) rfl dX8_readAll_28 ?_
          refine gi_get (pc := 29) (lo := 0) (hi := 1) hv5 fL_X8_187 rfl (Nat.le_of_ble_eq_true rfl) rfl rfl dX8_readAll_29 (fun v26 v26l v26u v26w => ?_)
          have k27 := bd_e k25 (congrArg Int32.toInt v26w.symm)
          have v26S : v26.toInt = S := by rw [v26w]; exact (congrArg Int32.toInt oh5.side).trans hS.symm
          refine gi_iald (pc := 32) (lo := 0) (hi := 5) (len := 2) hv5 (ti_rfl v26) rfl (by omega) (by omega) (fun _ => rfl) dX8_readAll_32 (fun v28 v28l v28u v28w => ?_)
          have k29 := bd_e k27 (congrArg Int32.toInt v28w.symm)
          have v28V : v28.toInt = V h5.2.1 76 S := by rw [v28w, v26S]; rfl
          refine go_iconst (pc := 33) (v := 5) (by decide) dX8_readAll_33 ?_
          refine gf_icmp_eq (pc := 34) (tgt := 53) (ti_rfl v28) (ti_c (v := 5) (a := 5) (by decide)) (by decide) dX8_readAll_34 (fun q30 => ?_) (fun q30 => ?_)
          ·
            have k31 := if_t k29 q30
            refine go_aload_n (pc := 53) rfl dX8_readAll_53 ?_
            refine go_iconst (pc := 54) (v := 3) (by decide) dX8_readAll_54 ?_
            have g32 : (0 : Int) ≤ (h5.2.1 70 4).toInt := (hv5.2.1 70 4).1
            have g33 : (h5.2.1 70 4).toInt ≤ 500 := (hv5.2.1 70 4).2
            have g34 : (-2147483648 : Int) ≤ (h5.2.1 70 5).toInt := (hv5.2.1 70 5).1
            have g35 : (h5.2.1 70 5).toInt ≤ 2147483647 := (hv5.2.1 70 5).2
            have g36 : (h5.2.1 70 4).toInt = u14.toInt := by rw [← (show u14 = h5.2.1 70 4 from u14w)] <;> exact (ti_rfl u14)
            have g37 : (h5.2.1 70 5).toInt = u16.toInt := by rw [← (show u16 = h5.2.1 70 5 from u16w)] <;> exact (ti_rfl u16)
            refine go_invV (pc := 55) (sl := 0) (s_X8_fails_f l (d + 23) hv5 3 (by rw [show (3 : Int32).toInt = 3 from (ti_c (v := 3) (a := 3) (by decide))]; omega) (by rw [show (3 : Int32).toInt = 3 from (ti_c (v := 3) (a := 3) (by decide))]; omega)) mL_X8_180 iM_X8_fails sM_X8_fails (hv5.sh rfl) rfl rfl rfl (Nat.le_of_ble_eq_true rfl) (show d + 23 + 1 + 1 ≤ d + 25 by omega) (show 8 + (2 + 11) + 40 * (d + 23 + 1) ≤ 40 * (d + 25) by omega) (g_c0 hv5.ln) (Nat.le_of_ble_eq_true rfl) dX8_readAll_55 ?_
            intro r h38 hq _
            obtain ⟨rfl, hv38, f39, f40, f41, f42⟩ := hq
            try rw [show (3 : Int32).toInt = 3 from (ti_c (v := 3) (a := 3) (by decide))] at f39
            try rw [show (3 : Int32).toInt = 3 from (ti_c (v := 3) (a := 3) (by decide))] at f40
            try rw [show (3 : Int32).toInt = 3 from (ti_c (v := 3) (a := 3) (by decide))] at f41
            try rw [show (3 : Int32).toInt = 3 from (ti_c (v := 3) (a := 3) (by decide))] at f42
            have fx38 : FX KRt h h38 := FX.tr fx5 f42
            have k43 := bd_e k31 f41.symm
            have ve38 : VE h5.2.1 h38.2.1 := VE.of hv5 hv38
            have oh38 : OH h.2.1 h38.2.1 S := oh5.trans (OH.of hv5 hv38 S)
            have ck38 : CKF h.2.1 → CKF h38.2.1 := fun z => CKF.ve ve38 (ck5 z)
            have n73_38 : V h38.2.1 73 S = V h5.2.1 73 S := ve38.v (by omega) (by omega)
            have n74_38 : V h38.2.1 74 S = V h5.2.1 74 S := ve38.v (by omega) (by omega)
            have n75_38 : V h38.2.1 75 S = V h5.2.1 75 S := ve38.v (by omega) (by omega)
            obtain ⟨u44, u44w⟩ : ∃ v : Int32, v = h38.2.1 70 4 := ⟨_, rfl⟩
            have u44e : (h38.2.1 70 4).toInt = u44.toInt := by rw [u44w]
            have u44l : 0 ≤ u44.toInt := by rw [u44w]; exact (hv38.2.1 70 4).1
            have u44u : u44.toInt ≤ 500 := by rw [u44w]; exact (hv38.2.1 70 4).2
            have k45 := bd_e k43 (congrArg Int32.toInt u44w.symm)
            obtain ⟨u46, u46w⟩ : ∃ v : Int32, v = h38.2.1 70 5 := ⟨_, rfl⟩
            have u46e : (h38.2.1 70 5).toInt = u46.toInt := by rw [u46w]
            have u46l : -2147483648 ≤ u46.toInt := by rw [u46w]; exact (hv38.2.1 70 5).1
            have u46u : u46.toInt ≤ 2147483647 := by rw [u46w]; exact (hv38.2.1 70 5).2
            have k47 := k45
            refine go_aload_n (pc := 58) rfl dX8_readAll_58 ?_
            refine go_invV (pc := 59) (sl := 0) (s_X8_isGood_f l (d + 23) hv38 ) mL_X8_172 iM_X8_isGood sM_X8_isGood (hv38.sh rfl) rfl rfl rfl (Nat.le_of_ble_eq_true rfl) (show d + 23 + 1 + 1 ≤ d + 25 by omega) (show 8 + (1 + 11) + 40 * (d + 23 + 1) ≤ 40 * (d + 25) by omega) (g_c0 hv38.ln) (Nat.le_of_ble_eq_true rfl) dX8_readAll_59 ?_
            intro r h48 hq _
            obtain ⟨v52, rfl, v52l, v52u, rfl, f49, f50, f51⟩ := hq
            replace f51 : PE _ _ := f51
            have k53 := bd_e k47 f51.symm
            refine gf_if_ne (pc := 62) (tgt := 66) (ti_rfl v52) (by decide) dX8_readAll_62 (fun q54 => ?_) (fun q54 => ?_)
            ·
              have k55 := if_t k53 q54
              refine go_aload_n (pc := 66) rfl dX8_readAll_66 ?_
              refine gi_getF (pc := 67) (q := 76) hv38 fL_X8_26 rfl (Nat.le_of_ble_eq_true rfl) rfl (hv38.rf (by decide)) dX8_readAll_67 ?_
              refine go_aload_n (pc := 70) rfl dX8_readAll_70 ?_
              refine gi_get (pc := 71) (lo := 0) (hi := 1) hv38 fL_X8_187 rfl (Nat.le_of_ble_eq_true rfl) rfl rfl dX8_readAll_71 (fun v56 v56l v56u v56w => ?_)
              have k57 := bd_e k55 (congrArg Int32.toInt v56w.symm)
              have v56S : v56.toInt = S := by rw [v56w]; exact (congrArg Int32.toInt oh38.side).trans hS.symm
              refine gi_iald (pc := 74) (lo := 0) (hi := 5) (len := 2) hv38 (ti_rfl v56) rfl (by omega) (by omega) (fun _ => rfl) dX8_readAll_74 (fun v58 v58l v58u v58w => ?_)
              have k59 := bd_e k57 (congrArg Int32.toInt v58w.symm)
              have v58V : v58.toInt = V h38.2.1 76 S := by rw [v58w, v56S]; rfl
              refine go_istore_n (pc := 75) (Nat.le_of_ble_eq_true rfl) dX8_readAll_75 (go_lv (lv2 := [(0, .ref 70), (1, .int v12), (2, .int v58)]) rfl ?_)
              refine go_aload_n (pc := 76) rfl dX8_readAll_76 ?_
              refine gi_getF (pc := 77) (q := 76) hv38 fL_X8_26 rfl (Nat.le_of_ble_eq_true rfl) rfl (hv38.rf (by decide)) dX8_readAll_77 ?_
              refine go_aload_n (pc := 80) rfl dX8_readAll_80 ?_
              refine gi_get (pc := 81) (lo := 0) (hi := 1) hv38 fL_X8_187 rfl (Nat.le_of_ble_eq_true rfl) rfl rfl dX8_readAll_81 (fun v60 v60l v60u v60w => ?_)
              have v60r : v56 = h38.2.1 70 6 := v56w
              have v60q : TI v60 v56.toInt := by rw [v60w.trans v60r.symm]; exact (ti_rfl v56)
              refine go_dup2 (pc := 84) rfl rfl dX8_readAll_84 ?_
              refine gi_iald (pc := 85) (lo := 0) (hi := 5) (len := 2) hv38 v60q rfl (by omega) (by omega) (fun _ => rfl) dX8_readAll_85 (fun v61 v61l v61u v61w => ?_)
              have k62 := bd_e k59 (congrArg Int32.toInt v61w.symm)
              have v61V : v61.toInt = V h38.2.1 76 S := by rw [v61w, v56S]; rfl
              refine go_iconst (pc := 86) (v := 1) (by decide) dX8_readAll_86 ?_
              refine gf_iadd (pc := 87) (ti_rfl v61) (ti_c (v := 1) (a := 1) (by decide)) (by omega) (by omega) dX8_readAll_87 (fun v63 e64 => ?_)
              refine gi_fst (pc := 88) (lo := 0) (hi := 5) (len := 2) hv38 v60q e64 rfl (by omega) (by omega) (fun _ => rfl) (by omega) (by omega) (by omega) dX8_readAll_88 (fun h65 hv65 hv65e => ?_)
              have fx65 : FX KRt h h65 := FX.pI fx38 hv65e (by unfold KRt; omega)
              have k66 := bd_e k62 (st_I hv65e e64)
              refine go_aload_n (pc := 89) rfl dX8_readAll_89 ?_
              refine go_dup (pc := 90) rfl dX8_readAll_90 ?_
              refine gi_get (pc := 91) (lo := 0) (hi := 500) hv65 fL_X8_163 rfl (Nat.le_of_ble_eq_true rfl) rfl rfl dX8_readAll_91 (fun v67 v67l v67u v67w => ?_)
              have v67r : u44 = h65.2.1 70 4 := (show u44 = h65.2.1 70 4 from by rw [hv65e]; exact (g_iI rfl u44w.symm).symm)
              have v67q : TI v67 u44.toInt := by rw [v67w.trans v67r.symm]; exact (ti_rfl u44)
              refine go_iconst (pc := 94) (v := 1) (by decide) dX8_readAll_94 ?_
              refine gf_iadd (pc := 95) v67q (ti_c (v := 1) (a := 1) (by decide)) (by omega) (by omega) dX8_readAll_95 (fun v68 e69 => ?_)
              have E65 : h65.2.1 = (w1 h38.2.1 76 S (v63 : Int32)) := by
                rw [hv65e]
                rw [v56S]
                rfl
              have oh65 : OH h.2.1 h65.2.1 S := by rw [E65]; exact (oh38.trans (OH.w 1 rfl (by omega) (by omega) (by omega) (by omega)))
              have n73_65 : V h65.2.1 73 S = V h38.2.1 73 S := by rw [E65, V_ne (by omega)]
              have n74_65 : V h65.2.1 74 S = V h38.2.1 74 S := by rw [E65, V_ne (by omega)]
              have n75_65 : V h65.2.1 75 S = V h38.2.1 75 S := by rw [E65, V_ne (by omega)]
              have ck65 : CKF h.2.1 → CKF h65.2.1 := fun z => by rw [E65]; exact (CKF.w (by omega) (ck38 z))
              refine gi_put (pc := 96) (lo := 0) (hi := 500) hv65 e69 (fP_X8_163 _) rfl (Nat.le_of_ble_eq_true rfl) rfl rfl (by omega) (by omega) rfl rfl (by decide) (by decide) (by decide) (by decide) dX8_readAll_96 (fun h70 hv70 hv70e => ?_)
              have fx70 : FX KRt h h70 := FX.pI fx65 hv70e (by unfold KRt; omega)
              have k71 := bd_e k66 (st_I hv70e e69)
              have ve70 : VE h65.2.1 h70.2.1 := VE.of hv65 hv70
              have oh70 : OH h.2.1 h70.2.1 S := oh65.trans (OH.of hv65 hv70 S)
              have ck70 : CKF h.2.1 → CKF h70.2.1 := fun z => CKF.ve ve70 (ck65 z)
              have n73_70 : V h70.2.1 73 S = V h65.2.1 73 S := ve70.v (by omega) (by omega)
              have n74_70 : V h70.2.1 74 S = V h65.2.1 74 S := ve70.v (by omega) (by omega)
              have n75_70 : V h70.2.1 75 S = V h65.2.1 75 S := ve70.v (by omega) (by omega)
              refine go_aload_n (pc := 99) rfl dX8_readAll_99 ?_
              refine gi_getF (pc := 100) (q := 94) hv70 fL_X8_80 rfl (Nat.le_of_ble_eq_true rfl) rfl (hv70.rf (by decide)) dX8_readAll_100 ?_
              refine go_iconst (pc := 103) (v := 5) (by decide) dX8_readAll_103 ?_
              refine go_aload_n (pc := 104) rfl dX8_readAll_104 ?_
              refine gi_get (pc := 105) (lo := 0) (hi := 1) hv70 fL_X8_187 rfl (Nat.le_of_ble_eq_true rfl) rfl rfl dX8_readAll_105 (fun v72 v72l v72u v72w => ?_)
              have v72r : v56 = h70.2.1 70 6 := (show v56 = h70.2.1 70 6 from by rw [hv70e]; exact (g_iI rfl (show v56 = h65.2.1 70 6 from by rw [hv65e]; exact (g_iI rfl v56w.symm).symm).symm).symm)
              have v72q : TI v72 v56.toInt := by rw [v72w.trans v72r.symm]; exact (ti_rfl v56)
              refine gf_imul (pc := 108) (ti_c (v := 5) (a := 5) (by decide)) v72q (by omega) (by omega) dX8_readAll_108 (fun v73 e74 => ?_)
              refine go_iload_n (pc := 109) rfl dX8_readAll_109 ?_
              refine gf_iadd (pc := 110) e74 (ti_rfl v58) (by omega) (by omega) dX8_readAll_110 (fun v75 e76 => ?_)
              refine go_aload_n (pc := 111) rfl dX8_readAll_111 ?_
              refine go_iconst (pc := 112) (v := (-1)) (by decide) dX8_readAll_112 ?_
              refine go_iload_n (pc := 113) rfl dX8_readAll_113 ?_
              refine go_iconst (pc := 114) (v := 0) (by decide) dX8_readAll_114 ?_
              have rdk : TR h70.2.1 S := (TR.ve ve70 (by rw [E65]; exact RD.w76 (RD.ve ve38 (RD.ve ve5 xrd))))
              have zq : (0 : Int32).toInt = 0 := by decide
              have zn : (-1 : Int32).toInt = -1 := by decide
              have sM77 : (h70.2.1 70 6).toInt = S := (congrArg Int32.toInt oh70.side).trans hS.symm
              have g78 : (0 : Int) ≤ (h70.2.1 70 4).toInt := (hv70.2.1 70 4).1
              have g79 : (h70.2.1 70 4).toInt ≤ 500 := (hv70.2.1 70 4).2
              have g80 : (-2147483648 : Int) ≤ (h70.2.1 70 5).toInt := (hv70.2.1 70 5).1
              have g81 : (h70.2.1 70 5).toInt ≤ 2147483647 := (hv70.2.1 70 5).2
              have g82 : (h70.2.1 70 5).toInt = u46.toInt := by rw [← (show u46 = h70.2.1 70 5 from (show u46 = h70.2.1 70 5 from by rw [hv70e]; exact (g_iI rfl (show u46 = h65.2.1 70 5 from by rw [hv65e]; exact (g_iI rfl u46w.symm).symm).symm).symm))] <;> exact (ti_rfl u46)
              have g83 : (h70.2.1 70 4).toInt = (u44.toInt + 1) := by rw [← (show v68 = h70.2.1 70 4 from (show v68 = h70.2.1 70 4 from by rw [hv70e]; exact g_iS.symm))] <;> exact e69
              refine go_invV (pc := 115) (sl := 0) (s_X8_readBlock_f l (d + 0) hv70 (-1) (by rw [show ((-1) : Int32).toInt = (-1) from (ti_c (v := (-1)) (a := (-1)) (by decide))]; omega) (by rw [show ((-1) : Int32).toInt = (-1) from (ti_c (v := (-1)) (a := (-1)) (by decide))]; omega) v58 (by rw [show (v58 : Int32).toInt = v58.toInt from (ti_rfl v58)]; omega) (by rw [show (v58 : Int32).toInt = v58.toInt from (ti_rfl v58)]; omega) 0 (by rw [show (0 : Int32).toInt = 0 from (ti_c (v := 0) (a := 0) (by decide))]; omega) (by rw [show (0 : Int32).toInt = 0 from (ti_c (v := 0) (a := 0) (by decide))]; omega) (by rw [sM77]; exact (fun _ => by omega)) (by rw [sM77]; exact (fun _ => ⟨rdk, Or.inl ⟨by omega, by omega⟩⟩))) mL_X8_224 iM_X8_readBlock sM_X8_readBlock (hv70.sh rfl) rfl rfl rfl (Nat.le_of_ble_eq_true rfl) (show d + 0 + 24 + 1 ≤ d + 25 by omega) (show 8 + (5 + 11) + 40 * (d + 0 + 24) ≤ 40 * (d + 25) by omega) (g_c0 hv70.ln) (Nat.le_of_ble_eq_true rfl) dX8_readAll_115 ?_
              intro r h84 hq _
              obtain ⟨v96, rfl, v96l, v96u, ⟨Q85, hv84, sq86⟩, f87, f88, f89, f90, f91, f92, f93, f94, f95⟩ := hq
              rw [sM77] at f89
              rw [sM77] at f90
              rw [sM77] at f94
              have oh84 : OH h.2.1 h84.2.1 S := oh70.trans f94
              have ck84 : CKF h.2.1 → CKF h84.2.1 := fun z => f95 (ck70 z)
              try rw [show ((-1) : Int32).toInt = (-1) from (ti_c (v := (-1)) (a := (-1)) (by decide))] at f87
              try rw [show (0 : Int32).toInt = 0 from (ti_c (v := 0) (a := 0) (by decide))] at f87
              try rw [show ((-1) : Int32).toInt = (-1) from (ti_c (v := (-1)) (a := (-1)) (by decide))] at f88
              try rw [show (0 : Int32).toInt = 0 from (ti_c (v := 0) (a := 0) (by decide))] at f88
              try rw [show ((-1) : Int32).toInt = (-1) from (ti_c (v := (-1)) (a := (-1)) (by decide))] at f89
              try rw [show (0 : Int32).toInt = 0 from (ti_c (v := 0) (a := 0) (by decide))] at f89
              try rw [show ((-1) : Int32).toInt = (-1) from (ti_c (v := (-1)) (a := (-1)) (by decide))] at f90
              try rw [show (0 : Int32).toInt = 0 from (ti_c (v := 0) (a := 0) (by decide))] at f90
              try rw [show ((-1) : Int32).toInt = (-1) from (ti_c (v := (-1)) (a := (-1)) (by decide))] at f91
              try rw [show (0 : Int32).toInt = 0 from (ti_c (v := 0) (a := 0) (by decide))] at f91
              try rw [show ((-1) : Int32).toInt = (-1) from (ti_c (v := (-1)) (a := (-1)) (by decide))] at f92
              try rw [show (0 : Int32).toInt = 0 from (ti_c (v := 0) (a := 0) (by decide))] at f92
              try rw [show ((-1) : Int32).toInt = (-1) from (ti_c (v := (-1)) (a := (-1)) (by decide))] at f93
              try rw [show (0 : Int32).toInt = 0 from (ti_c (v := 0) (a := 0) (by decide))] at f93
              try rw [show ((-1) : Int32).toInt = (-1) from (ti_c (v := (-1)) (a := (-1)) (by decide))] at f94
              try rw [show (0 : Int32).toInt = 0 from (ti_c (v := 0) (a := 0) (by decide))] at f94
              try rw [show ((-1) : Int32).toInt = (-1) from (ti_c (v := (-1)) (a := (-1)) (by decide))] at f95
              try rw [show (0 : Int32).toInt = 0 from (ti_c (v := 0) (a := 0) (by decide))] at f95
              have fx84 : FX KRt h h84 := FX.tr fx70 f92
              have k97 := bd2_e k71 f91
              obtain ⟨u98, u98w⟩ : ∃ v : Int32, v = h84.2.1 70 4 := ⟨_, rfl⟩
              have u98e : (h84.2.1 70 4).toInt = u98.toInt := by rw [u98w]
              have u98l : 0 ≤ u98.toInt := by rw [u98w]; exact (hv84.2.1 70 4).1
              have u98u : u98.toInt ≤ 500 := by rw [u98w]; exact (hv84.2.1 70 4).2
              have k99 := k97
              obtain ⟨u100, u100w⟩ : ∃ v : Int32, v = h84.2.1 70 5 := ⟨_, rfl⟩
              have u100e : (h84.2.1 70 5).toInt = u100.toInt := by rw [u100w]
              have u100l : -2147483648 ≤ u100.toInt := by rw [u100w]; exact (hv84.2.1 70 5).1
              have u100u : u100.toInt ≤ 2147483647 := by rw [u100w]; exact (hv84.2.1 70 5).2
              have k101 := k99
              refine gi_fst (pc := 118) (lo := 0) (hi := 559) (len := 10) hv84 e76 (ti_rfl v96) rfl (by omega) (by omega) (fun _ => rfl) (by omega) (by omega) (by omega) dX8_readAll_118 (fun h102 hv102 hv102e => ?_)
              have fx102 : FX KRt h h102 := FX.pI fx84 hv102e (by unfold KRt; omega)
              have k103 := bd_e k101 (st_I hv102e (ti_rfl v96))
              refine go_aload_n (pc := 119) rfl dX8_readAll_119 ?_
              refine go_invV (pc := 120) (sl := 0) (s_X8_isGood_f l (d + 23) hv102 ) mL_X8_172 iM_X8_isGood sM_X8_isGood (hv102.sh rfl) rfl rfl rfl (Nat.le_of_ble_eq_true rfl) (show d + 23 + 1 + 1 ≤ d + 25 by omega) (show 8 + (1 + 11) + 40 * (d + 23 + 1) ≤ 40 * (d + 25) by omega) (g_c0 hv102.ln) (Nat.le_of_ble_eq_true rfl) dX8_readAll_120 ?_
              intro r h104 hq _
              obtain ⟨v108, rfl, v108l, v108u, rfl, f105, f106, f107⟩ := hq
              replace f107 : PE _ _ := f107
              have k109 := bd_e k103 f107.symm
              have E102 : h102.2.1 = (w1 h84.2.1 94 (((5 * S) + v58.toInt)) (v96 : Int32)) := by
                rw [hv102e]
                rw [v56S]
                rfl
              have oh102 : OH h.2.1 h102.2.1 S := by rw [E102]; exact (oh84.trans (OH.w 5 rfl (by omega) (by omega) (by omega) (by omega)))
              have n73_102 : V h102.2.1 73 S = V h84.2.1 73 S := by rw [E102, V_ne (by omega)]
              have n74_102 : V h102.2.1 74 S = V h84.2.1 74 S := by rw [E102, V_ne (by omega)]
              have n75_102 : V h102.2.1 75 S = V h84.2.1 75 S := by rw [E102, V_ne (by omega)]
              have ck102 : CKF h.2.1 → CKF h102.2.1 := fun z => by rw [E102]; exact (CKF.w (by omega) (ck84 z))
              refine gf_if_eq (pc := 123) (tgt := 134) (ti_rfl v108) (by decide) dX8_readAll_123 (fun q110 => ?_) (fun q110 => ?_)
              ·
                have k111 := if_t k109 q110
                have g112 : (0 : Int) ≤ (h102.2.1 70 4).toInt := (hv102.2.1 70 4).1
                have g113 : (h102.2.1 70 4).toInt ≤ 500 := (hv102.2.1 70 4).2
                have g114 : (-2147483648 : Int) ≤ (h102.2.1 70 5).toInt := (hv102.2.1 70 5).1
                have g115 : (h102.2.1 70 5).toInt ≤ 2147483647 := (hv102.2.1 70 5).2
                have g116 : (h102.2.1 70 4).toInt = u98.toInt := by rw [← (show u98 = h102.2.1 70 4 from (show u98 = h102.2.1 70 4 from by rw [hv102e]; exact (g_iI rfl u98w.symm).symm))] <;> exact (ti_rfl u98)
                have g117 : (h102.2.1 70 5).toInt = u100.toInt := by rw [← (show u100 = h102.2.1 70 5 from (show u100 = h102.2.1 70 5 from by rw [hv102e]; exact (g_iI rfl u100w.symm).symm))] <;> exact (ti_rfl u100)
                have v76 : V h102.2.1 76 S = (v61.toInt + 1) := by rw [E102, V_ne (by omega), f93.v (by omega), ve70.v (by omega) (by omega), E65, V_eq]; exact e64
                have pp118 : (h102.2.1 70 5).toInt = 0 → RD h102.2.1 S ∧ 1 ≤ V h102.2.1 76 S := (fun hg => ⟨(show RD h102.2.1 S from by rw [E102]; exact RD.proc (x := (v63 : Int32)) S0 (RD.ve ve38 (RD.ve ve5 xrd)) (by rw [show (v63 : Int32).toInt = (v61.toInt + 1) from e64]; omega) (by rw [← E65]; exact ve70) (f90 (by omega)) f93 (by omega) rfl), by omega⟩)
                have pp119 : st h102 = f_X8_readAll (st h) := (k111.symm.trans kf)
                have pp120 : FX KRt h h102 := fx102
                subst hS
                exact gi_vret (pc := 134) ⟨rfl, ⟨_, hv102, (MW.trans (MW.trans (MW.trans sqx (MW.mz _ _)) sq86) (MW.mz _ _))⟩, pp118, pp119, pp120, oh102, ck102⟩ hv102 dX8_readAll_134
              ·
                have k121 := if_f k109 q110
                refine go_aload_n (pc := 126) rfl dX8_readAll_126 ?_
                have g122 : (0 : Int) ≤ (h102.2.1 70 4).toInt := (hv102.2.1 70 4).1
                have g123 : (h102.2.1 70 4).toInt ≤ 500 := (hv102.2.1 70 4).2
                have g124 : (-2147483648 : Int) ≤ (h102.2.1 70 5).toInt := (hv102.2.1 70 5).1
                have g125 : (h102.2.1 70 5).toInt ≤ 2147483647 := (hv102.2.1 70 5).2
                have g126 : (h102.2.1 70 4).toInt = u98.toInt := by rw [← (show u98 = h102.2.1 70 4 from (show u98 = h102.2.1 70 4 from by rw [hv102e]; exact (g_iI rfl u98w.symm).symm))] <;> exact (ti_rfl u98)
                have g127 : (h102.2.1 70 5).toInt = u100.toInt := by rw [← (show u100 = h102.2.1 70 5 from (show u100 = h102.2.1 70 5 from by rw [hv102e]; exact (g_iI rfl u100w.symm).symm))] <;> exact (ti_rfl u100)
                refine go_invV (pc := 127) (sl := 0) (s_X8_here_f l (d + 23) hv102 ) mL_X8_176 iM_X8_here sM_X8_here (hv102.sh rfl) rfl rfl rfl (Nat.le_of_ble_eq_true rfl) (show d + 23 + 1 + 1 ≤ d + 25 by omega) (show 8 + (1 + 11) + 40 * (d + 23 + 1) ≤ 40 * (d + 25) by omega) (g_c0 hv102.ln) (Nat.le_of_ble_eq_true rfl) dX8_readAll_127 ?_
                intro r h128 hq _
                obtain ⟨v135, rfl, v135l, v135u, hv128, f129, f130, f131, f132, f133, f134⟩ := hq
                have fx128 : FX KRt h h128 := FX.tr fx102 f134
                have k136 := bd2_e k121 f133
                have ve128 : VE h102.2.1 h128.2.1 := VE.of hv102 hv128
                have oh128 : OH h.2.1 h128.2.1 S := oh102.trans (OH.of hv102 hv128 S)
                have ck128 : CKF h.2.1 → CKF h128.2.1 := fun z => CKF.ve ve128 (ck102 z)
                have n73_128 : V h128.2.1 73 S = V h102.2.1 73 S := ve128.v (by omega) (by omega)
                have n74_128 : V h128.2.1 74 S = V h102.2.1 74 S := ve128.v (by omega) (by omega)
                have n75_128 : V h128.2.1 75 S = V h102.2.1 75 S := ve128.v (by omega) (by omega)
                obtain ⟨u137, u137w⟩ : ∃ v : Int32, v = h128.2.1 70 4 := ⟨_, rfl⟩
                have u137e : (h128.2.1 70 4).toInt = u137.toInt := by rw [u137w]
                have u137l : 0 ≤ u137.toInt := by rw [u137w]; exact (hv128.2.1 70 4).1
                have u137u : u137.toInt ≤ 500 := by rw [u137w]; exact (hv128.2.1 70 4).2
                have k138 := k136
                obtain ⟨u139, u139w⟩ : ∃ v : Int32, v = h128.2.1 70 5 := ⟨_, rfl⟩
                have u139e : (h128.2.1 70 5).toInt = u139.toInt := by rw [u139w]
                have u139l : -2147483648 ≤ u139.toInt := by rw [u139w]; exact (hv128.2.1 70 5).1
                have u139u : u139.toInt ≤ 2147483647 := by rw [u139w]; exact (hv128.2.1 70 5).2
                have k140 := k138
                refine go_iconst (pc := 130) (v := (-1)) (by decide) dX8_readAll_130 ?_
                refine gf_icmp_ne (pc := 131) (tgt := 0) (ti_rfl v135) (ti_c (v := (-1)) (a := (-1)) (by decide)) (by decide) dX8_readAll_131 (fun q141 => ?_) (fun q141 => ?_)
                ·
                  have k142 := if_t k140 q141
                  have g143 : (0 : Int) ≤ (h128.2.1 70 4).toInt := (hv128.2.1 70 4).1
                  have g144 : (h128.2.1 70 4).toInt ≤ 500 := (hv128.2.1 70 4).2
                  have g145 : (-2147483648 : Int) ≤ (h128.2.1 70 5).toInt := (hv128.2.1 70 5).1
                  have g146 : (h128.2.1 70 5).toInt ≤ 2147483647 := (hv128.2.1 70 5).2
                  have g147 : (h128.2.1 70 4).toInt = u137.toInt := by rw [← (show u137 = h128.2.1 70 4 from u137w)] <;> exact (ti_rfl u137)
                  have g148 : (h128.2.1 70 5).toInt = u139.toInt := by rw [← (show u139 = h128.2.1 70 5 from u139w)] <;> exact (ti_rfl u139)
                  exact go_lv rfl (ih  _ h128 hv128 (MW.trans (MW.trans (MW.trans sqx (MW.mz _ _)) sq86) (MW.mz _ _)) (by omega) (RD.ve ve128 (show RD h102.2.1 S from by rw [E102]; exact RD.proc (x := (v63 : Int32)) S0 (RD.ve ve38 (RD.ve ve5 xrd)) (by rw [show (v63 : Int32).toInt = (v61.toInt + 1) from e64]; omega) (by rw [← E65]; exact ve70) (f90 (by omega)) f93 (by omega) rfl)) (by omega) (by omega) oh128 ck128 (by omega) (by omega) (by omega) (by omega) fx128 k142 (by omega))
                ·
                  have k149 := if_f k140 (fun z => z q141)
                  have g150 : (0 : Int) ≤ (h128.2.1 70 4).toInt := (hv128.2.1 70 4).1
                  have g151 : (h128.2.1 70 4).toInt ≤ 500 := (hv128.2.1 70 4).2
                  have g152 : (-2147483648 : Int) ≤ (h128.2.1 70 5).toInt := (hv128.2.1 70 5).1
                  have g153 : (h128.2.1 70 5).toInt ≤ 2147483647 := (hv128.2.1 70 5).2
                  have g154 : (h128.2.1 70 4).toInt = u137.toInt := by rw [← (show u137 = h128.2.1 70 4 from u137w)] <;> exact (ti_rfl u137)
                  have g155 : (h128.2.1 70 5).toInt = u139.toInt := by rw [← (show u139 = h128.2.1 70 5 from u139w)] <;> exact (ti_rfl u139)
                  have v76 : V h128.2.1 76 S = (v61.toInt + 1) := by rw [ve128.v (by omega) (by omega), E102, V_ne (by omega), f93.v (by omega), ve70.v (by omega) (by omega), E65, V_eq]; exact e64
                  have pp156 : (h128.2.1 70 5).toInt = 0 → RD h128.2.1 S ∧ 1 ≤ V h128.2.1 76 S := (fun hg => ⟨(RD.ve ve128 (show RD h102.2.1 S from by rw [E102]; exact RD.proc (x := (v63 : Int32)) S0 (RD.ve ve38 (RD.ve ve5 xrd)) (by rw [show (v63 : Int32).toInt = (v61.toInt + 1) from e64]; omega) (by rw [← E65]; exact ve70) (f90 (by omega)) f93 (by omega) rfl)), by omega⟩)
                  have pp157 : st h128 = f_X8_readAll (st h) := (k149.symm.trans kf)
                  have pp158 : FX KRt h h128 := fx128
                  subst hS
                  exact gi_vret (pc := 134) ⟨rfl, ⟨_, hv128, (MW.trans (MW.trans (MW.trans sqx (MW.mz _ _)) sq86) (MW.mz _ _))⟩, pp156, pp157, pp158, oh128, ck128⟩ hv128 dX8_readAll_134
            ·
              have k159 := if_f k53 (fun z => z q54)
              have g160 : (0 : Int) ≤ (h38.2.1 70 4).toInt := (hv38.2.1 70 4).1
              have g161 : (h38.2.1 70 4).toInt ≤ 500 := (hv38.2.1 70 4).2
              have g162 : (-2147483648 : Int) ≤ (h38.2.1 70 5).toInt := (hv38.2.1 70 5).1
              have g163 : (h38.2.1 70 5).toInt ≤ 2147483647 := (hv38.2.1 70 5).2
              have g164 : (h38.2.1 70 4).toInt = u44.toInt := by rw [← (show u44 = h38.2.1 70 4 from u44w)] <;> exact (ti_rfl u44)
              have g165 : (h38.2.1 70 5).toInt = u46.toInt := by rw [← (show u46 = h38.2.1 70 5 from u46w)] <;> exact (ti_rfl u46)
              have pp166 : (h38.2.1 70 5).toInt = 0 → RD h38.2.1 S ∧ 1 ≤ V h38.2.1 76 S := (fun hg => absurd hg (by omega))
              have pp167 : st h38 = f_X8_readAll (st h) := (k159.symm.trans kf)
              have pp168 : FX KRt h h38 := fx38
              subst hS
              exact gi_vret (pc := 65) ⟨rfl, ⟨_, hv38, sqx⟩, pp166, pp167, pp168, oh38, ck38⟩ hv38 dX8_readAll_65
          ·
            have k169 := if_f k29 q30
            refine go_iload_n (pc := 37) rfl dX8_readAll_37 ?_
            refine go_bipush (pc := 38) (v := 65) (by decide) dX8_readAll_38 ?_
            refine go_aload_n (pc := 40) rfl dX8_readAll_40 ?_
            refine gi_getF (pc := 41) (q := 76) hv5 fL_X8_26 rfl (Nat.le_of_ble_eq_true rfl) rfl (hv5.rf (by decide)) dX8_readAll_41 ?_
            refine go_aload_n (pc := 44) rfl dX8_readAll_44 ?_
            refine gi_get (pc := 45) (lo := 0) (hi := 1) hv5 fL_X8_187 rfl (Nat.le_of_ble_eq_true rfl) rfl rfl dX8_readAll_45 (fun v170 v170l v170u v170w => ?_)
            have v170r : v26 = h5.2.1 70 6 := v26w
            have v170q : TI v170 v26.toInt := by rw [v170w.trans v170r.symm]; exact (ti_rfl v26)
            refine gi_iald (pc := 48) (lo := 0) (hi := 5) (len := 2) hv5 v170q rfl (by omega) (by omega) (fun _ => rfl) dX8_readAll_48 (fun v171 v171l v171u v171w => ?_)
            have k172 := bd_e k169 (congrArg Int32.toInt v171w.symm)
            have v171V : v171.toInt = V h5.2.1 76 S := by rw [v171w, v26S]; rfl
            refine gf_iadd (pc := 49) (ti_c (v := 65) (a := 65) (by decide)) (ti_rfl v171) (by omega) (by omega) dX8_readAll_49 (fun v173 e174 => ?_)
            refine gf_icmp_eq (pc := 50) (tgt := 58) (ti_rfl v12) e174 (by decide) dX8_readAll_50 (fun q175 => ?_) (fun q175 => ?_)
            ·
              have k176 := if_t k172 q175
              refine go_aload_n (pc := 58) rfl dX8_readAll_58 ?_
              refine go_invV (pc := 59) (sl := 0) (s_X8_isGood_f l (d + 23) hv5 ) mL_X8_172 iM_X8_isGood sM_X8_isGood (hv5.sh rfl) rfl rfl rfl (Nat.le_of_ble_eq_true rfl) (show d + 23 + 1 + 1 ≤ d + 25 by omega) (show 8 + (1 + 11) + 40 * (d + 23 + 1) ≤ 40 * (d + 25) by omega) (g_c0 hv5.ln) (Nat.le_of_ble_eq_true rfl) dX8_readAll_59 ?_
              intro r h177 hq _
              obtain ⟨v181, rfl, v181l, v181u, rfl, f178, f179, f180⟩ := hq
              replace f180 : PE _ _ := f180
              have k182 := bd_e k176 f180.symm
              refine gf_if_ne (pc := 62) (tgt := 66) (ti_rfl v181) (by decide) dX8_readAll_62 (fun q183 => ?_) (fun q183 => ?_)
              ·
                have k184 := if_t k182 q183
                refine go_aload_n (pc := 66) rfl dX8_readAll_66 ?_
                refine gi_getF (pc := 67) (q := 76) hv5 fL_X8_26 rfl (Nat.le_of_ble_eq_true rfl) rfl (hv5.rf (by decide)) dX8_readAll_67 ?_
                refine go_aload_n (pc := 70) rfl dX8_readAll_70 ?_
                refine gi_get (pc := 71) (lo := 0) (hi := 1) hv5 fL_X8_187 rfl (Nat.le_of_ble_eq_true rfl) rfl rfl dX8_readAll_71 (fun v185 v185l v185u v185w => ?_)
                have v185r : v26 = h5.2.1 70 6 := v26w
                have v185q : TI v185 v26.toInt := by rw [v185w.trans v185r.symm]; exact (ti_rfl v26)
                refine gi_iald (pc := 74) (lo := 0) (hi := 5) (len := 2) hv5 v185q rfl (by omega) (by omega) (fun _ => rfl) dX8_readAll_74 (fun v186 v186l v186u v186w => ?_)
                have k187 := bd_e k184 (congrArg Int32.toInt v186w.symm)
                have v186V : v186.toInt = V h5.2.1 76 S := by rw [v186w, v26S]; rfl
                refine go_istore_n (pc := 75) (Nat.le_of_ble_eq_true rfl) dX8_readAll_75 (go_lv (lv2 := [(0, .ref 70), (1, .int v12), (2, .int v186)]) rfl ?_)
                refine go_aload_n (pc := 76) rfl dX8_readAll_76 ?_
                refine gi_getF (pc := 77) (q := 76) hv5 fL_X8_26 rfl (Nat.le_of_ble_eq_true rfl) rfl (hv5.rf (by decide)) dX8_readAll_77 ?_
                refine go_aload_n (pc := 80) rfl dX8_readAll_80 ?_
                refine gi_get (pc := 81) (lo := 0) (hi := 1) hv5 fL_X8_187 rfl (Nat.le_of_ble_eq_true rfl) rfl rfl dX8_readAll_81 (fun v188 v188l v188u v188w => ?_)
                have v188r : v26 = h5.2.1 70 6 := v26w
                have v188q : TI v188 v26.toInt := by rw [v188w.trans v188r.symm]; exact (ti_rfl v26)
                refine go_dup2 (pc := 84) rfl rfl dX8_readAll_84 ?_
                refine gi_iald (pc := 85) (lo := 0) (hi := 5) (len := 2) hv5 v188q rfl (by omega) (by omega) (fun _ => rfl) dX8_readAll_85 (fun v189 v189l v189u v189w => ?_)
                have k190 := bd_e k187 (congrArg Int32.toInt v189w.symm)
                have v189V : v189.toInt = V h5.2.1 76 S := by rw [v189w, v26S]; rfl
                refine go_iconst (pc := 86) (v := 1) (by decide) dX8_readAll_86 ?_
                refine gf_iadd (pc := 87) (ti_rfl v189) (ti_c (v := 1) (a := 1) (by decide)) (by omega) (by omega) dX8_readAll_87 (fun v191 e192 => ?_)
                refine gi_fst (pc := 88) (lo := 0) (hi := 5) (len := 2) hv5 v188q e192 rfl (by omega) (by omega) (fun _ => rfl) (by omega) (by omega) (by omega) dX8_readAll_88 (fun h193 hv193 hv193e => ?_)
                have fx193 : FX KRt h h193 := FX.pI fx5 hv193e (by unfold KRt; omega)
                have k194 := bd_e k190 (st_I hv193e e192)
                refine go_aload_n (pc := 89) rfl dX8_readAll_89 ?_
                refine go_dup (pc := 90) rfl dX8_readAll_90 ?_
                refine gi_get (pc := 91) (lo := 0) (hi := 500) hv193 fL_X8_163 rfl (Nat.le_of_ble_eq_true rfl) rfl rfl dX8_readAll_91 (fun v195 v195l v195u v195w => ?_)
                have v195r : u14 = h193.2.1 70 4 := (show u14 = h193.2.1 70 4 from by rw [hv193e]; exact (g_iI rfl u14w.symm).symm)
                have v195q : TI v195 u14.toInt := by rw [v195w.trans v195r.symm]; exact (ti_rfl u14)
                refine go_iconst (pc := 94) (v := 1) (by decide) dX8_readAll_94 ?_
                refine gf_iadd (pc := 95) v195q (ti_c (v := 1) (a := 1) (by decide)) (by omega) (by omega) dX8_readAll_95 (fun v196 e197 => ?_)
                have E193 : h193.2.1 = (w1 h5.2.1 76 S (v191 : Int32)) := by
                  rw [hv193e]
                  rw [v26S]
                  rfl
                have oh193 : OH h.2.1 h193.2.1 S := by rw [E193]; exact (oh5.trans (OH.w 1 rfl (by omega) (by omega) (by omega) (by omega)))
                have n73_193 : V h193.2.1 73 S = V h5.2.1 73 S := by rw [E193, V_ne (by omega)]
                have n74_193 : V h193.2.1 74 S = V h5.2.1 74 S := by rw [E193, V_ne (by omega)]
                have n75_193 : V h193.2.1 75 S = V h5.2.1 75 S := by rw [E193, V_ne (by omega)]
                have ck193 : CKF h.2.1 → CKF h193.2.1 := fun z => by rw [E193]; exact (CKF.w (by omega) (ck5 z))
                refine gi_put (pc := 96) (lo := 0) (hi := 500) hv193 e197 (fP_X8_163 _) rfl (Nat.le_of_ble_eq_true rfl) rfl rfl (by omega) (by omega) rfl rfl (by decide) (by decide) (by decide) (by decide) dX8_readAll_96 (fun h198 hv198 hv198e => ?_)
                have fx198 : FX KRt h h198 := FX.pI fx193 hv198e (by unfold KRt; omega)
                have k199 := bd_e k194 (st_I hv198e e197)
                have ve198 : VE h193.2.1 h198.2.1 := VE.of hv193 hv198
                have oh198 : OH h.2.1 h198.2.1 S := oh193.trans (OH.of hv193 hv198 S)
                have ck198 : CKF h.2.1 → CKF h198.2.1 := fun z => CKF.ve ve198 (ck193 z)
                have n73_198 : V h198.2.1 73 S = V h193.2.1 73 S := ve198.v (by omega) (by omega)
                have n74_198 : V h198.2.1 74 S = V h193.2.1 74 S := ve198.v (by omega) (by omega)
                have n75_198 : V h198.2.1 75 S = V h193.2.1 75 S := ve198.v (by omega) (by omega)
                refine go_aload_n (pc := 99) rfl dX8_readAll_99 ?_
                refine gi_getF (pc := 100) (q := 94) hv198 fL_X8_80 rfl (Nat.le_of_ble_eq_true rfl) rfl (hv198.rf (by decide)) dX8_readAll_100 ?_
                refine go_iconst (pc := 103) (v := 5) (by decide) dX8_readAll_103 ?_
                refine go_aload_n (pc := 104) rfl dX8_readAll_104 ?_
                refine gi_get (pc := 105) (lo := 0) (hi := 1) hv198 fL_X8_187 rfl (Nat.le_of_ble_eq_true rfl) rfl rfl dX8_readAll_105 (fun v200 v200l v200u v200w => ?_)
                have v200r : v26 = h198.2.1 70 6 := (show v26 = h198.2.1 70 6 from by rw [hv198e]; exact (g_iI rfl (show v26 = h193.2.1 70 6 from by rw [hv193e]; exact (g_iI rfl v26w.symm).symm).symm).symm)
                have v200q : TI v200 v26.toInt := by rw [v200w.trans v200r.symm]; exact (ti_rfl v26)
                refine gf_imul (pc := 108) (ti_c (v := 5) (a := 5) (by decide)) v200q (by omega) (by omega) dX8_readAll_108 (fun v201 e202 => ?_)
                refine go_iload_n (pc := 109) rfl dX8_readAll_109 ?_
                refine gf_iadd (pc := 110) e202 (ti_rfl v186) (by omega) (by omega) dX8_readAll_110 (fun v203 e204 => ?_)
                refine go_aload_n (pc := 111) rfl dX8_readAll_111 ?_
                refine go_iconst (pc := 112) (v := (-1)) (by decide) dX8_readAll_112 ?_
                refine go_iload_n (pc := 113) rfl dX8_readAll_113 ?_
                refine go_iconst (pc := 114) (v := 0) (by decide) dX8_readAll_114 ?_
                have rdk : TR h198.2.1 S := (TR.ve ve198 (by rw [E193]; exact RD.w76 (RD.ve ve5 xrd)))
                have zq : (0 : Int32).toInt = 0 := by decide
                have zn : (-1 : Int32).toInt = -1 := by decide
                have sM205 : (h198.2.1 70 6).toInt = S := (congrArg Int32.toInt oh198.side).trans hS.symm
                have g206 : (0 : Int) ≤ (h198.2.1 70 4).toInt := (hv198.2.1 70 4).1
                have g207 : (h198.2.1 70 4).toInt ≤ 500 := (hv198.2.1 70 4).2
                have g208 : (-2147483648 : Int) ≤ (h198.2.1 70 5).toInt := (hv198.2.1 70 5).1
                have g209 : (h198.2.1 70 5).toInt ≤ 2147483647 := (hv198.2.1 70 5).2
                have g210 : (h198.2.1 70 5).toInt = u16.toInt := by rw [← (show u16 = h198.2.1 70 5 from (show u16 = h198.2.1 70 5 from by rw [hv198e]; exact (g_iI rfl (show u16 = h193.2.1 70 5 from by rw [hv193e]; exact (g_iI rfl u16w.symm).symm).symm).symm))] <;> exact (ti_rfl u16)
                have g211 : (h198.2.1 70 4).toInt = (u14.toInt + 1) := by rw [← (show v196 = h198.2.1 70 4 from (show v196 = h198.2.1 70 4 from by rw [hv198e]; exact g_iS.symm))] <;> exact e197
                refine go_invV (pc := 115) (sl := 0) (s_X8_readBlock_f l (d + 0) hv198 (-1) (by rw [show ((-1) : Int32).toInt = (-1) from (ti_c (v := (-1)) (a := (-1)) (by decide))]; omega) (by rw [show ((-1) : Int32).toInt = (-1) from (ti_c (v := (-1)) (a := (-1)) (by decide))]; omega) v186 (by rw [show (v186 : Int32).toInt = v186.toInt from (ti_rfl v186)]; omega) (by rw [show (v186 : Int32).toInt = v186.toInt from (ti_rfl v186)]; omega) 0 (by rw [show (0 : Int32).toInt = 0 from (ti_c (v := 0) (a := 0) (by decide))]; omega) (by rw [show (0 : Int32).toInt = 0 from (ti_c (v := 0) (a := 0) (by decide))]; omega) (by rw [sM205]; exact (fun _ => by omega)) (by rw [sM205]; exact (fun _ => ⟨rdk, Or.inl ⟨by omega, by omega⟩⟩))) mL_X8_224 iM_X8_readBlock sM_X8_readBlock (hv198.sh rfl) rfl rfl rfl (Nat.le_of_ble_eq_true rfl) (show d + 0 + 24 + 1 ≤ d + 25 by omega) (show 8 + (5 + 11) + 40 * (d + 0 + 24) ≤ 40 * (d + 25) by omega) (g_c0 hv198.ln) (Nat.le_of_ble_eq_true rfl) dX8_readAll_115 ?_
                intro r h212 hq _
                obtain ⟨v224, rfl, v224l, v224u, ⟨Q213, hv212, sq214⟩, f215, f216, f217, f218, f219, f220, f221, f222, f223⟩ := hq
                rw [sM205] at f217
                rw [sM205] at f218
                rw [sM205] at f222
                have oh212 : OH h.2.1 h212.2.1 S := oh198.trans f222
                have ck212 : CKF h.2.1 → CKF h212.2.1 := fun z => f223 (ck198 z)
                try rw [show ((-1) : Int32).toInt = (-1) from (ti_c (v := (-1)) (a := (-1)) (by decide))] at f215
                try rw [show (0 : Int32).toInt = 0 from (ti_c (v := 0) (a := 0) (by decide))] at f215
                try rw [show ((-1) : Int32).toInt = (-1) from (ti_c (v := (-1)) (a := (-1)) (by decide))] at f216
                try rw [show (0 : Int32).toInt = 0 from (ti_c (v := 0) (a := 0) (by decide))] at f216
                try rw [show ((-1) : Int32).toInt = (-1) from (ti_c (v := (-1)) (a := (-1)) (by decide))] at f217
                try rw [show (0 : Int32).toInt = 0 from (ti_c (v := 0) (a := 0) (by decide))] at f217
                try rw [show ((-1) : Int32).toInt = (-1) from (ti_c (v := (-1)) (a := (-1)) (by decide))] at f218
                try rw [show (0 : Int32).toInt = 0 from (ti_c (v := 0) (a := 0) (by decide))] at f218
                try rw [show ((-1) : Int32).toInt = (-1) from (ti_c (v := (-1)) (a := (-1)) (by decide))] at f219
                try rw [show (0 : Int32).toInt = 0 from (ti_c (v := 0) (a := 0) (by decide))] at f219
                try rw [show ((-1) : Int32).toInt = (-1) from (ti_c (v := (-1)) (a := (-1)) (by decide))] at f220
                try rw [show (0 : Int32).toInt = 0 from (ti_c (v := 0) (a := 0) (by decide))] at f220
                try rw [show ((-1) : Int32).toInt = (-1) from (ti_c (v := (-1)) (a := (-1)) (by decide))] at f221
                try rw [show (0 : Int32).toInt = 0 from (ti_c (v := 0) (a := 0) (by decide))] at f221
                try rw [show ((-1) : Int32).toInt = (-1) from (ti_c (v := (-1)) (a := (-1)) (by decide))] at f222
                try rw [show (0 : Int32).toInt = 0 from (ti_c (v := 0) (a := 0) (by decide))] at f222
                try rw [show ((-1) : Int32).toInt = (-1) from (ti_c (v := (-1)) (a := (-1)) (by decide))] at f223
                try rw [show (0 : Int32).toInt = 0 from (ti_c (v := 0) (a := 0) (by decide))] at f223
                have fx212 : FX KRt h h212 := FX.tr fx198 f220
                have k225 := bd2_e k199 f219
                obtain ⟨u226, u226w⟩ : ∃ v : Int32, v = h212.2.1 70 4 := ⟨_, rfl⟩
                have u226e : (h212.2.1 70 4).toInt = u226.toInt := by rw [u226w]
                have u226l : 0 ≤ u226.toInt := by rw [u226w]; exact (hv212.2.1 70 4).1
                have u226u : u226.toInt ≤ 500 := by rw [u226w]; exact (hv212.2.1 70 4).2
                have k227 := k225
                obtain ⟨u228, u228w⟩ : ∃ v : Int32, v = h212.2.1 70 5 := ⟨_, rfl⟩
                have u228e : (h212.2.1 70 5).toInt = u228.toInt := by rw [u228w]
                have u228l : -2147483648 ≤ u228.toInt := by rw [u228w]; exact (hv212.2.1 70 5).1
                have u228u : u228.toInt ≤ 2147483647 := by rw [u228w]; exact (hv212.2.1 70 5).2
                have k229 := k227
                refine gi_fst (pc := 118) (lo := 0) (hi := 559) (len := 10) hv212 e204 (ti_rfl v224) rfl (by omega) (by omega) (fun _ => rfl) (by omega) (by omega) (by omega) dX8_readAll_118 (fun h230 hv230 hv230e => ?_)
                have fx230 : FX KRt h h230 := FX.pI fx212 hv230e (by unfold KRt; omega)
                have k231 := bd_e k229 (st_I hv230e (ti_rfl v224))
                refine go_aload_n (pc := 119) rfl dX8_readAll_119 ?_
                refine go_invV (pc := 120) (sl := 0) (s_X8_isGood_f l (d + 23) hv230 ) mL_X8_172 iM_X8_isGood sM_X8_isGood (hv230.sh rfl) rfl rfl rfl (Nat.le_of_ble_eq_true rfl) (show d + 23 + 1 + 1 ≤ d + 25 by omega) (show 8 + (1 + 11) + 40 * (d + 23 + 1) ≤ 40 * (d + 25) by omega) (g_c0 hv230.ln) (Nat.le_of_ble_eq_true rfl) dX8_readAll_120 ?_
                intro r h232 hq _
                obtain ⟨v236, rfl, v236l, v236u, rfl, f233, f234, f235⟩ := hq
                replace f235 : PE _ _ := f235
                have k237 := bd_e k231 f235.symm
                have E230 : h230.2.1 = (w1 h212.2.1 94 (((5 * S) + v186.toInt)) (v224 : Int32)) := by
                  rw [hv230e]
                  rw [v26S]
                  rfl
                have oh230 : OH h.2.1 h230.2.1 S := by rw [E230]; exact (oh212.trans (OH.w 5 rfl (by omega) (by omega) (by omega) (by omega)))
                have n73_230 : V h230.2.1 73 S = V h212.2.1 73 S := by rw [E230, V_ne (by omega)]
                have n74_230 : V h230.2.1 74 S = V h212.2.1 74 S := by rw [E230, V_ne (by omega)]
                have n75_230 : V h230.2.1 75 S = V h212.2.1 75 S := by rw [E230, V_ne (by omega)]
                have ck230 : CKF h.2.1 → CKF h230.2.1 := fun z => by rw [E230]; exact (CKF.w (by omega) (ck212 z))
                refine gf_if_eq (pc := 123) (tgt := 134) (ti_rfl v236) (by decide) dX8_readAll_123 (fun q238 => ?_) (fun q238 => ?_)
                ·
                  have k239 := if_t k237 q238
                  have g240 : (0 : Int) ≤ (h230.2.1 70 4).toInt := (hv230.2.1 70 4).1
                  have g241 : (h230.2.1 70 4).toInt ≤ 500 := (hv230.2.1 70 4).2
                  have g242 : (-2147483648 : Int) ≤ (h230.2.1 70 5).toInt := (hv230.2.1 70 5).1
                  have g243 : (h230.2.1 70 5).toInt ≤ 2147483647 := (hv230.2.1 70 5).2
                  have g244 : (h230.2.1 70 4).toInt = u226.toInt := by rw [← (show u226 = h230.2.1 70 4 from (show u226 = h230.2.1 70 4 from by rw [hv230e]; exact (g_iI rfl u226w.symm).symm))] <;> exact (ti_rfl u226)
                  have g245 : (h230.2.1 70 5).toInt = u228.toInt := by rw [← (show u228 = h230.2.1 70 5 from (show u228 = h230.2.1 70 5 from by rw [hv230e]; exact (g_iI rfl u228w.symm).symm))] <;> exact (ti_rfl u228)
                  have v76 : V h230.2.1 76 S = (v189.toInt + 1) := by rw [E230, V_ne (by omega), f221.v (by omega), ve198.v (by omega) (by omega), E193, V_eq]; exact e192
                  have pp246 : (h230.2.1 70 5).toInt = 0 → RD h230.2.1 S ∧ 1 ≤ V h230.2.1 76 S := (fun hg => ⟨(show RD h230.2.1 S from by rw [E230]; exact RD.proc (x := (v191 : Int32)) S0 (RD.ve ve5 xrd) (by rw [show (v191 : Int32).toInt = (v189.toInt + 1) from e192]; omega) (by rw [← E193]; exact ve198) (f218 (by omega)) f221 (by omega) rfl), by omega⟩)
                  have pp247 : st h230 = f_X8_readAll (st h) := (k239.symm.trans kf)
                  have pp248 : FX KRt h h230 := fx230
                  subst hS
                  exact gi_vret (pc := 134) ⟨rfl, ⟨_, hv230, (MW.trans (MW.trans (MW.trans sqx (MW.mz _ _)) sq214) (MW.mz _ _))⟩, pp246, pp247, pp248, oh230, ck230⟩ hv230 dX8_readAll_134
                ·
                  have k249 := if_f k237 q238
                  refine go_aload_n (pc := 126) rfl dX8_readAll_126 ?_
                  have g250 : (0 : Int) ≤ (h230.2.1 70 4).toInt := (hv230.2.1 70 4).1
                  have g251 : (h230.2.1 70 4).toInt ≤ 500 := (hv230.2.1 70 4).2
                  have g252 : (-2147483648 : Int) ≤ (h230.2.1 70 5).toInt := (hv230.2.1 70 5).1
                  have g253 : (h230.2.1 70 5).toInt ≤ 2147483647 := (hv230.2.1 70 5).2
                  have g254 : (h230.2.1 70 4).toInt = u226.toInt := by rw [← (show u226 = h230.2.1 70 4 from (show u226 = h230.2.1 70 4 from by rw [hv230e]; exact (g_iI rfl u226w.symm).symm))] <;> exact (ti_rfl u226)
                  have g255 : (h230.2.1 70 5).toInt = u228.toInt := by rw [← (show u228 = h230.2.1 70 5 from (show u228 = h230.2.1 70 5 from by rw [hv230e]; exact (g_iI rfl u228w.symm).symm))] <;> exact (ti_rfl u228)
                  refine go_invV (pc := 127) (sl := 0) (s_X8_here_f l (d + 23) hv230 ) mL_X8_176 iM_X8_here sM_X8_here (hv230.sh rfl) rfl rfl rfl (Nat.le_of_ble_eq_true rfl) (show d + 23 + 1 + 1 ≤ d + 25 by omega) (show 8 + (1 + 11) + 40 * (d + 23 + 1) ≤ 40 * (d + 25) by omega) (g_c0 hv230.ln) (Nat.le_of_ble_eq_true rfl) dX8_readAll_127 ?_
                  intro r h256 hq _
                  obtain ⟨v263, rfl, v263l, v263u, hv256, f257, f258, f259, f260, f261, f262⟩ := hq
                  have fx256 : FX KRt h h256 := FX.tr fx230 f262
                  have k264 := bd2_e k249 f261
                  have ve256 : VE h230.2.1 h256.2.1 := VE.of hv230 hv256
                  have oh256 : OH h.2.1 h256.2.1 S := oh230.trans (OH.of hv230 hv256 S)
                  have ck256 : CKF h.2.1 → CKF h256.2.1 := fun z => CKF.ve ve256 (ck230 z)
                  have n73_256 : V h256.2.1 73 S = V h230.2.1 73 S := ve256.v (by omega) (by omega)
                  have n74_256 : V h256.2.1 74 S = V h230.2.1 74 S := ve256.v (by omega) (by omega)
                  have n75_256 : V h256.2.1 75 S = V h230.2.1 75 S := ve256.v (by omega) (by omega)
                  obtain ⟨u265, u265w⟩ : ∃ v : Int32, v = h256.2.1 70 4 := ⟨_, rfl⟩
                  have u265e : (h256.2.1 70 4).toInt = u265.toInt := by rw [u265w]
                  have u265l : 0 ≤ u265.toInt := by rw [u265w]; exact (hv256.2.1 70 4).1
                  have u265u : u265.toInt ≤ 500 := by rw [u265w]; exact (hv256.2.1 70 4).2
                  have k266 := k264
                  obtain ⟨u267, u267w⟩ : ∃ v : Int32, v = h256.2.1 70 5 := ⟨_, rfl⟩
                  have u267e : (h256.2.1 70 5).toInt = u267.toInt := by rw [u267w]
                  have u267l : -2147483648 ≤ u267.toInt := by rw [u267w]; exact (hv256.2.1 70 5).1
                  have u267u : u267.toInt ≤ 2147483647 := by rw [u267w]; exact (hv256.2.1 70 5).2
                  have k268 := k266
                  refine go_iconst (pc := 130) (v := (-1)) (by decide) dX8_readAll_130 ?_
                  refine gf_icmp_ne (pc := 131) (tgt := 0) (ti_rfl v263) (ti_c (v := (-1)) (a := (-1)) (by decide)) (by decide) dX8_readAll_131 (fun q269 => ?_) (fun q269 => ?_)
                  ·
                    have k270 := if_t k268 q269
                    have g271 : (0 : Int) ≤ (h256.2.1 70 4).toInt := (hv256.2.1 70 4).1
                    have g272 : (h256.2.1 70 4).toInt ≤ 500 := (hv256.2.1 70 4).2
                    have g273 : (-2147483648 : Int) ≤ (h256.2.1 70 5).toInt := (hv256.2.1 70 5).1
                    have g274 : (h256.2.1 70 5).toInt ≤ 2147483647 := (hv256.2.1 70 5).2
                    have g275 : (h256.2.1 70 4).toInt = u265.toInt := by rw [← (show u265 = h256.2.1 70 4 from u265w)] <;> exact (ti_rfl u265)
                    have g276 : (h256.2.1 70 5).toInt = u267.toInt := by rw [← (show u267 = h256.2.1 70 5 from u267w)] <;> exact (ti_rfl u267)
                    exact go_lv rfl (ih  _ h256 hv256 (MW.trans (MW.trans (MW.trans sqx (MW.mz _ _)) sq214) (MW.mz _ _)) (by omega) (RD.ve ve256 (show RD h230.2.1 S from by rw [E230]; exact RD.proc (x := (v191 : Int32)) S0 (RD.ve ve5 xrd) (by rw [show (v191 : Int32).toInt = (v189.toInt + 1) from e192]; omega) (by rw [← E193]; exact ve198) (f218 (by omega)) f221 (by omega) rfl)) (by omega) (by omega) oh256 ck256 (by omega) (by omega) (by omega) (by omega) fx256 k270 (by omega))
                  ·
                    have k277 := if_f k268 (fun z => z q269)
                    have g278 : (0 : Int) ≤ (h256.2.1 70 4).toInt := (hv256.2.1 70 4).1
                    have g279 : (h256.2.1 70 4).toInt ≤ 500 := (hv256.2.1 70 4).2
                    have g280 : (-2147483648 : Int) ≤ (h256.2.1 70 5).toInt := (hv256.2.1 70 5).1
                    have g281 : (h256.2.1 70 5).toInt ≤ 2147483647 := (hv256.2.1 70 5).2
                    have g282 : (h256.2.1 70 4).toInt = u265.toInt := by rw [← (show u265 = h256.2.1 70 4 from u265w)] <;> exact (ti_rfl u265)
                    have g283 : (h256.2.1 70 5).toInt = u267.toInt := by rw [← (show u267 = h256.2.1 70 5 from u267w)] <;> exact (ti_rfl u267)
                    have v76 : V h256.2.1 76 S = (v189.toInt + 1) := by rw [ve256.v (by omega) (by omega), E230, V_ne (by omega), f221.v (by omega), ve198.v (by omega) (by omega), E193, V_eq]; exact e192
                    have pp284 : (h256.2.1 70 5).toInt = 0 → RD h256.2.1 S ∧ 1 ≤ V h256.2.1 76 S := (fun hg => ⟨(RD.ve ve256 (show RD h230.2.1 S from by rw [E230]; exact RD.proc (x := (v191 : Int32)) S0 (RD.ve ve5 xrd) (by rw [show (v191 : Int32).toInt = (v189.toInt + 1) from e192]; omega) (by rw [← E193]; exact ve198) (f218 (by omega)) f221 (by omega) rfl)), by omega⟩)
                    have pp285 : st h256 = f_X8_readAll (st h) := (k277.symm.trans kf)
                    have pp286 : FX KRt h h256 := fx256
                    subst hS
                    exact gi_vret (pc := 134) ⟨rfl, ⟨_, hv256, (MW.trans (MW.trans (MW.trans sqx (MW.mz _ _)) sq214) (MW.mz _ _))⟩, pp284, pp285, pp286, oh256, ck256⟩ hv256 dX8_readAll_134
              ·
                have k287 := if_f k182 (fun z => z q183)
                have g288 : (0 : Int) ≤ (h5.2.1 70 4).toInt := (hv5.2.1 70 4).1
                have g289 : (h5.2.1 70 4).toInt ≤ 500 := (hv5.2.1 70 4).2
                have g290 : (-2147483648 : Int) ≤ (h5.2.1 70 5).toInt := (hv5.2.1 70 5).1
                have g291 : (h5.2.1 70 5).toInt ≤ 2147483647 := (hv5.2.1 70 5).2
                have g292 : (h5.2.1 70 4).toInt = u14.toInt := by rw [← (show u14 = h5.2.1 70 4 from u14w)] <;> exact (ti_rfl u14)
                have g293 : (h5.2.1 70 5).toInt = u16.toInt := by rw [← (show u16 = h5.2.1 70 5 from u16w)] <;> exact (ti_rfl u16)
                have pp294 : (h5.2.1 70 5).toInt = 0 → RD h5.2.1 S ∧ 1 ≤ V h5.2.1 76 S := (fun hg => absurd hg (by omega))
                have pp295 : st h5 = f_X8_readAll (st h) := (k287.symm.trans kf)
                have pp296 : FX KRt h h5 := fx5
                subst hS
                exact gi_vret (pc := 65) ⟨rfl, ⟨_, hv5, sqx⟩, pp294, pp295, pp296, oh5, ck5⟩ hv5 dX8_readAll_65
            ·
              have k297 := if_f k172 q175
              refine go_aload_n (pc := 53) rfl dX8_readAll_53 ?_
              refine go_iconst (pc := 54) (v := 3) (by decide) dX8_readAll_54 ?_
              have g298 : (0 : Int) ≤ (h5.2.1 70 4).toInt := (hv5.2.1 70 4).1
              have g299 : (h5.2.1 70 4).toInt ≤ 500 := (hv5.2.1 70 4).2
              have g300 : (-2147483648 : Int) ≤ (h5.2.1 70 5).toInt := (hv5.2.1 70 5).1
              have g301 : (h5.2.1 70 5).toInt ≤ 2147483647 := (hv5.2.1 70 5).2
              have g302 : (h5.2.1 70 4).toInt = u14.toInt := by rw [← (show u14 = h5.2.1 70 4 from u14w)] <;> exact (ti_rfl u14)
              have g303 : (h5.2.1 70 5).toInt = u16.toInt := by rw [← (show u16 = h5.2.1 70 5 from u16w)] <;> exact (ti_rfl u16)
              refine go_invV (pc := 55) (sl := 0) (s_X8_fails_f l (d + 23) hv5 3 (by rw [show (3 : Int32).toInt = 3 from (ti_c (v := 3) (a := 3) (by decide))]; omega) (by rw [show (3 : Int32).toInt = 3 from (ti_c (v := 3) (a := 3) (by decide))]; omega)) mL_X8_180 iM_X8_fails sM_X8_fails (hv5.sh rfl) rfl rfl rfl (Nat.le_of_ble_eq_true rfl) (show d + 23 + 1 + 1 ≤ d + 25 by omega) (show 8 + (2 + 11) + 40 * (d + 23 + 1) ≤ 40 * (d + 25) by omega) (g_c0 hv5.ln) (Nat.le_of_ble_eq_true rfl) dX8_readAll_55 ?_
              intro r h304 hq _
              obtain ⟨rfl, hv304, f305, f306, f307, f308⟩ := hq
              try rw [show (3 : Int32).toInt = 3 from (ti_c (v := 3) (a := 3) (by decide))] at f305
              try rw [show (3 : Int32).toInt = 3 from (ti_c (v := 3) (a := 3) (by decide))] at f306
              try rw [show (3 : Int32).toInt = 3 from (ti_c (v := 3) (a := 3) (by decide))] at f307
              try rw [show (3 : Int32).toInt = 3 from (ti_c (v := 3) (a := 3) (by decide))] at f308
              have fx304 : FX KRt h h304 := FX.tr fx5 f308
              have k309 := bd_e k297 f307.symm
              have ve304 : VE h5.2.1 h304.2.1 := VE.of hv5 hv304
              have oh304 : OH h.2.1 h304.2.1 S := oh5.trans (OH.of hv5 hv304 S)
              have ck304 : CKF h.2.1 → CKF h304.2.1 := fun z => CKF.ve ve304 (ck5 z)
              have n73_304 : V h304.2.1 73 S = V h5.2.1 73 S := ve304.v (by omega) (by omega)
              have n74_304 : V h304.2.1 74 S = V h5.2.1 74 S := ve304.v (by omega) (by omega)
              have n75_304 : V h304.2.1 75 S = V h5.2.1 75 S := ve304.v (by omega) (by omega)
              obtain ⟨u310, u310w⟩ : ∃ v : Int32, v = h304.2.1 70 4 := ⟨_, rfl⟩
              have u310e : (h304.2.1 70 4).toInt = u310.toInt := by rw [u310w]
              have u310l : 0 ≤ u310.toInt := by rw [u310w]; exact (hv304.2.1 70 4).1
              have u310u : u310.toInt ≤ 500 := by rw [u310w]; exact (hv304.2.1 70 4).2
              have k311 := bd_e k309 (congrArg Int32.toInt u310w.symm)
              obtain ⟨u312, u312w⟩ : ∃ v : Int32, v = h304.2.1 70 5 := ⟨_, rfl⟩
              have u312e : (h304.2.1 70 5).toInt = u312.toInt := by rw [u312w]
              have u312l : -2147483648 ≤ u312.toInt := by rw [u312w]; exact (hv304.2.1 70 5).1
              have u312u : u312.toInt ≤ 2147483647 := by rw [u312w]; exact (hv304.2.1 70 5).2
              have k313 := k311
              refine go_aload_n (pc := 58) rfl dX8_readAll_58 ?_
              refine go_invV (pc := 59) (sl := 0) (s_X8_isGood_f l (d + 23) hv304 ) mL_X8_172 iM_X8_isGood sM_X8_isGood (hv304.sh rfl) rfl rfl rfl (Nat.le_of_ble_eq_true rfl) (show d + 23 + 1 + 1 ≤ d + 25 by omega) (show 8 + (1 + 11) + 40 * (d + 23 + 1) ≤ 40 * (d + 25) by omega) (g_c0 hv304.ln) (Nat.le_of_ble_eq_true rfl) dX8_readAll_59 ?_
              intro r h314 hq _
              obtain ⟨v318, rfl, v318l, v318u, rfl, f315, f316, f317⟩ := hq
              replace f317 : PE _ _ := f317
              have k319 := bd_e k313 f317.symm
              refine gf_if_ne (pc := 62) (tgt := 66) (ti_rfl v318) (by decide) dX8_readAll_62 (fun q320 => ?_) (fun q320 => ?_)
              ·
                have k321 := if_t k319 q320
                refine go_aload_n (pc := 66) rfl dX8_readAll_66 ?_
                refine gi_getF (pc := 67) (q := 76) hv304 fL_X8_26 rfl (Nat.le_of_ble_eq_true rfl) rfl (hv304.rf (by decide)) dX8_readAll_67 ?_
                refine go_aload_n (pc := 70) rfl dX8_readAll_70 ?_
                refine gi_get (pc := 71) (lo := 0) (hi := 1) hv304 fL_X8_187 rfl (Nat.le_of_ble_eq_true rfl) rfl rfl dX8_readAll_71 (fun v322 v322l v322u v322w => ?_)
                have k323 := bd_e k321 (congrArg Int32.toInt v322w.symm)
                have v322S : v322.toInt = S := by rw [v322w]; exact (congrArg Int32.toInt oh304.side).trans hS.symm
                refine gi_iald (pc := 74) (lo := 0) (hi := 5) (len := 2) hv304 (ti_rfl v322) rfl (by omega) (by omega) (fun _ => rfl) dX8_readAll_74 (fun v324 v324l v324u v324w => ?_)
                have k325 := bd_e k323 (congrArg Int32.toInt v324w.symm)
                have v324V : v324.toInt = V h304.2.1 76 S := by rw [v324w, v322S]; rfl
                refine go_istore_n (pc := 75) (Nat.le_of_ble_eq_true rfl) dX8_readAll_75 (go_lv (lv2 := [(0, .ref 70), (1, .int v12), (2, .int v324)]) rfl ?_)
                refine go_aload_n (pc := 76) rfl dX8_readAll_76 ?_
                refine gi_getF (pc := 77) (q := 76) hv304 fL_X8_26 rfl (Nat.le_of_ble_eq_true rfl) rfl (hv304.rf (by decide)) dX8_readAll_77 ?_
                refine go_aload_n (pc := 80) rfl dX8_readAll_80 ?_
                refine gi_get (pc := 81) (lo := 0) (hi := 1) hv304 fL_X8_187 rfl (Nat.le_of_ble_eq_true rfl) rfl rfl dX8_readAll_81 (fun v326 v326l v326u v326w => ?_)
                have v326r : v322 = h304.2.1 70 6 := v322w
                have v326q : TI v326 v322.toInt := by rw [v326w.trans v326r.symm]; exact (ti_rfl v322)
                refine go_dup2 (pc := 84) rfl rfl dX8_readAll_84 ?_
                refine gi_iald (pc := 85) (lo := 0) (hi := 5) (len := 2) hv304 v326q rfl (by omega) (by omega) (fun _ => rfl) dX8_readAll_85 (fun v327 v327l v327u v327w => ?_)
                have k328 := bd_e k325 (congrArg Int32.toInt v327w.symm)
                have v327V : v327.toInt = V h304.2.1 76 S := by rw [v327w, v322S]; rfl
                refine go_iconst (pc := 86) (v := 1) (by decide) dX8_readAll_86 ?_
                refine gf_iadd (pc := 87) (ti_rfl v327) (ti_c (v := 1) (a := 1) (by decide)) (by omega) (by omega) dX8_readAll_87 (fun v329 e330 => ?_)
                refine gi_fst (pc := 88) (lo := 0) (hi := 5) (len := 2) hv304 v326q e330 rfl (by omega) (by omega) (fun _ => rfl) (by omega) (by omega) (by omega) dX8_readAll_88 (fun h331 hv331 hv331e => ?_)
                have fx331 : FX KRt h h331 := FX.pI fx304 hv331e (by unfold KRt; omega)
                have k332 := bd_e k328 (st_I hv331e e330)
                refine go_aload_n (pc := 89) rfl dX8_readAll_89 ?_
                refine go_dup (pc := 90) rfl dX8_readAll_90 ?_
                refine gi_get (pc := 91) (lo := 0) (hi := 500) hv331 fL_X8_163 rfl (Nat.le_of_ble_eq_true rfl) rfl rfl dX8_readAll_91 (fun v333 v333l v333u v333w => ?_)
                have v333r : u310 = h331.2.1 70 4 := (show u310 = h331.2.1 70 4 from by rw [hv331e]; exact (g_iI rfl u310w.symm).symm)
                have v333q : TI v333 u310.toInt := by rw [v333w.trans v333r.symm]; exact (ti_rfl u310)
                refine go_iconst (pc := 94) (v := 1) (by decide) dX8_readAll_94 ?_
                refine gf_iadd (pc := 95) v333q (ti_c (v := 1) (a := 1) (by decide)) (by omega) (by omega) dX8_readAll_95 (fun v334 e335 => ?_)
                have E331 : h331.2.1 = (w1 h304.2.1 76 S (v329 : Int32)) := by
                  rw [hv331e]
                  rw [v322S]
                  rfl
                have oh331 : OH h.2.1 h331.2.1 S := by rw [E331]; exact (oh304.trans (OH.w 1 rfl (by omega) (by omega) (by omega) (by omega)))
                have n73_331 : V h331.2.1 73 S = V h304.2.1 73 S := by rw [E331, V_ne (by omega)]
                have n74_331 : V h331.2.1 74 S = V h304.2.1 74 S := by rw [E331, V_ne (by omega)]
                have n75_331 : V h331.2.1 75 S = V h304.2.1 75 S := by rw [E331, V_ne (by omega)]
                have ck331 : CKF h.2.1 → CKF h331.2.1 := fun z => by rw [E331]; exact (CKF.w (by omega) (ck304 z))
                refine gi_put (pc := 96) (lo := 0) (hi := 500) hv331 e335 (fP_X8_163 _) rfl (Nat.le_of_ble_eq_true rfl) rfl rfl (by omega) (by omega) rfl rfl (by decide) (by decide) (by decide) (by decide) dX8_readAll_96 (fun h336 hv336 hv336e => ?_)
                have fx336 : FX KRt h h336 := FX.pI fx331 hv336e (by unfold KRt; omega)
                have k337 := bd_e k332 (st_I hv336e e335)
                have ve336 : VE h331.2.1 h336.2.1 := VE.of hv331 hv336
                have oh336 : OH h.2.1 h336.2.1 S := oh331.trans (OH.of hv331 hv336 S)
                have ck336 : CKF h.2.1 → CKF h336.2.1 := fun z => CKF.ve ve336 (ck331 z)
                have n73_336 : V h336.2.1 73 S = V h331.2.1 73 S := ve336.v (by omega) (by omega)
                have n74_336 : V h336.2.1 74 S = V h331.2.1 74 S := ve336.v (by omega) (by omega)
                have n75_336 : V h336.2.1 75 S = V h331.2.1 75 S := ve336.v (by omega) (by omega)
                refine go_aload_n (pc := 99) rfl dX8_readAll_99 ?_
                refine gi_getF (pc := 100) (q := 94) hv336 fL_X8_80 rfl (Nat.le_of_ble_eq_true rfl) rfl (hv336.rf (by decide)) dX8_readAll_100 ?_
                refine go_iconst (pc := 103) (v := 5) (by decide) dX8_readAll_103 ?_
                refine go_aload_n (pc := 104) rfl dX8_readAll_104 ?_
                refine gi_get (pc := 105) (lo := 0) (hi := 1) hv336 fL_X8_187 rfl (Nat.le_of_ble_eq_true rfl) rfl rfl dX8_readAll_105 (fun v338 v338l v338u v338w => ?_)
                have v338r : v322 = h336.2.1 70 6 := (show v322 = h336.2.1 70 6 from by rw [hv336e]; exact (g_iI rfl (show v322 = h331.2.1 70 6 from by rw [hv331e]; exact (g_iI rfl v322w.symm).symm).symm).symm)
                have v338q : TI v338 v322.toInt := by rw [v338w.trans v338r.symm]; exact (ti_rfl v322)
                refine gf_imul (pc := 108) (ti_c (v := 5) (a := 5) (by decide)) v338q (by omega) (by omega) dX8_readAll_108 (fun v339 e340 => ?_)
                refine go_iload_n (pc := 109) rfl dX8_readAll_109 ?_
                refine gf_iadd (pc := 110) e340 (ti_rfl v324) (by omega) (by omega) dX8_readAll_110 (fun v341 e342 => ?_)
                refine go_aload_n (pc := 111) rfl dX8_readAll_111 ?_
                refine go_iconst (pc := 112) (v := (-1)) (by decide) dX8_readAll_112 ?_
                refine go_iload_n (pc := 113) rfl dX8_readAll_113 ?_
                refine go_iconst (pc := 114) (v := 0) (by decide) dX8_readAll_114 ?_
                have rdk : TR h336.2.1 S := (TR.ve ve336 (by rw [E331]; exact RD.w76 (RD.ve ve304 (RD.ve ve5 xrd))))
                have zq : (0 : Int32).toInt = 0 := by decide
                have zn : (-1 : Int32).toInt = -1 := by decide
                have sM343 : (h336.2.1 70 6).toInt = S := (congrArg Int32.toInt oh336.side).trans hS.symm
                have g344 : (0 : Int) ≤ (h336.2.1 70 4).toInt := (hv336.2.1 70 4).1
                have g345 : (h336.2.1 70 4).toInt ≤ 500 := (hv336.2.1 70 4).2
                have g346 : (-2147483648 : Int) ≤ (h336.2.1 70 5).toInt := (hv336.2.1 70 5).1
                have g347 : (h336.2.1 70 5).toInt ≤ 2147483647 := (hv336.2.1 70 5).2
                have g348 : (h336.2.1 70 5).toInt = u312.toInt := by rw [← (show u312 = h336.2.1 70 5 from (show u312 = h336.2.1 70 5 from by rw [hv336e]; exact (g_iI rfl (show u312 = h331.2.1 70 5 from by rw [hv331e]; exact (g_iI rfl u312w.symm).symm).symm).symm))] <;> exact (ti_rfl u312)
                have g349 : (h336.2.1 70 4).toInt = (u310.toInt + 1) := by rw [← (show v334 = h336.2.1 70 4 from (show v334 = h336.2.1 70 4 from by rw [hv336e]; exact g_iS.symm))] <;> exact e335
                refine go_invV (pc := 115) (sl := 0) (s_X8_readBlock_f l (d + 0) hv336 (-1) (by rw [show ((-1) : Int32).toInt = (-1) from (ti_c (v := (-1)) (a := (-1)) (by decide))]; omega) (by rw [show ((-1) : Int32).toInt = (-1) from (ti_c (v := (-1)) (a := (-1)) (by decide))]; omega) v324 (by rw [show (v324 : Int32).toInt = v324.toInt from (ti_rfl v324)]; omega) (by rw [show (v324 : Int32).toInt = v324.toInt from (ti_rfl v324)]; omega) 0 (by rw [show (0 : Int32).toInt = 0 from (ti_c (v := 0) (a := 0) (by decide))]; omega) (by rw [show (0 : Int32).toInt = 0 from (ti_c (v := 0) (a := 0) (by decide))]; omega) (by rw [sM343]; exact (fun _ => by omega)) (by rw [sM343]; exact (fun _ => ⟨rdk, Or.inl ⟨by omega, by omega⟩⟩))) mL_X8_224 iM_X8_readBlock sM_X8_readBlock (hv336.sh rfl) rfl rfl rfl (Nat.le_of_ble_eq_true rfl) (show d + 0 + 24 + 1 ≤ d + 25 by omega) (show 8 + (5 + 11) + 40 * (d + 0 + 24) ≤ 40 * (d + 25) by omega) (g_c0 hv336.ln) (Nat.le_of_ble_eq_true rfl) dX8_readAll_115 ?_
                intro r h350 hq _
                obtain ⟨v362, rfl, v362l, v362u, ⟨Q351, hv350, sq352⟩, f353, f354, f355, f356, f357, f358, f359, f360, f361⟩ := hq
                rw [sM343] at f355
                rw [sM343] at f356
                rw [sM343] at f360
                have oh350 : OH h.2.1 h350.2.1 S := oh336.trans f360
                have ck350 : CKF h.2.1 → CKF h350.2.1 := fun z => f361 (ck336 z)
                try rw [show ((-1) : Int32).toInt = (-1) from (ti_c (v := (-1)) (a := (-1)) (by decide))] at f353
                try rw [show (0 : Int32).toInt = 0 from (ti_c (v := 0) (a := 0) (by decide))] at f353
                try rw [show ((-1) : Int32).toInt = (-1) from (ti_c (v := (-1)) (a := (-1)) (by decide))] at f354
                try rw [show (0 : Int32).toInt = 0 from (ti_c (v := 0) (a := 0) (by decide))] at f354
                try rw [show ((-1) : Int32).toInt = (-1) from (ti_c (v := (-1)) (a := (-1)) (by decide))] at f355
                try rw [show (0 : Int32).toInt = 0 from (ti_c (v := 0) (a := 0) (by decide))] at f355
                try rw [show ((-1) : Int32).toInt = (-1) from (ti_c (v := (-1)) (a := (-1)) (by decide))] at f356
                try rw [show (0 : Int32).toInt = 0 from (ti_c (v := 0) (a := 0) (by decide))] at f356
                try rw [show ((-1) : Int32).toInt = (-1) from (ti_c (v := (-1)) (a := (-1)) (by decide))] at f357
                try rw [show (0 : Int32).toInt = 0 from (ti_c (v := 0) (a := 0) (by decide))] at f357
                try rw [show ((-1) : Int32).toInt = (-1) from (ti_c (v := (-1)) (a := (-1)) (by decide))] at f358
                try rw [show (0 : Int32).toInt = 0 from (ti_c (v := 0) (a := 0) (by decide))] at f358
                try rw [show ((-1) : Int32).toInt = (-1) from (ti_c (v := (-1)) (a := (-1)) (by decide))] at f359
                try rw [show (0 : Int32).toInt = 0 from (ti_c (v := 0) (a := 0) (by decide))] at f359
                try rw [show ((-1) : Int32).toInt = (-1) from (ti_c (v := (-1)) (a := (-1)) (by decide))] at f360
                try rw [show (0 : Int32).toInt = 0 from (ti_c (v := 0) (a := 0) (by decide))] at f360
                try rw [show ((-1) : Int32).toInt = (-1) from (ti_c (v := (-1)) (a := (-1)) (by decide))] at f361
                try rw [show (0 : Int32).toInt = 0 from (ti_c (v := 0) (a := 0) (by decide))] at f361
                have fx350 : FX KRt h h350 := FX.tr fx336 f358
                have k363 := bd2_e k337 f357
                obtain ⟨u364, u364w⟩ : ∃ v : Int32, v = h350.2.1 70 4 := ⟨_, rfl⟩
                have u364e : (h350.2.1 70 4).toInt = u364.toInt := by rw [u364w]
                have u364l : 0 ≤ u364.toInt := by rw [u364w]; exact (hv350.2.1 70 4).1
                have u364u : u364.toInt ≤ 500 := by rw [u364w]; exact (hv350.2.1 70 4).2
                have k365 := k363
                obtain ⟨u366, u366w⟩ : ∃ v : Int32, v = h350.2.1 70 5 := ⟨_, rfl⟩
                have u366e : (h350.2.1 70 5).toInt = u366.toInt := by rw [u366w]
                have u366l : -2147483648 ≤ u366.toInt := by rw [u366w]; exact (hv350.2.1 70 5).1
                have u366u : u366.toInt ≤ 2147483647 := by rw [u366w]; exact (hv350.2.1 70 5).2
                have k367 := k365
                refine gi_fst (pc := 118) (lo := 0) (hi := 559) (len := 10) hv350 e342 (ti_rfl v362) rfl (by omega) (by omega) (fun _ => rfl) (by omega) (by omega) (by omega) dX8_readAll_118 (fun h368 hv368 hv368e => ?_)
                have fx368 : FX KRt h h368 := FX.pI fx350 hv368e (by unfold KRt; omega)
                have k369 := bd_e k367 (st_I hv368e (ti_rfl v362))
                refine go_aload_n (pc := 119) rfl dX8_readAll_119 ?_
                refine go_invV (pc := 120) (sl := 0) (s_X8_isGood_f l (d + 23) hv368 ) mL_X8_172 iM_X8_isGood sM_X8_isGood (hv368.sh rfl) rfl rfl rfl (Nat.le_of_ble_eq_true rfl) (show d + 23 + 1 + 1 ≤ d + 25 by omega) (show 8 + (1 + 11) + 40 * (d + 23 + 1) ≤ 40 * (d + 25) by omega) (g_c0 hv368.ln) (Nat.le_of_ble_eq_true rfl) dX8_readAll_120 ?_
                intro r h370 hq _
                obtain ⟨v374, rfl, v374l, v374u, rfl, f371, f372, f373⟩ := hq
                replace f373 : PE _ _ := f373
                have k375 := bd_e k369 f373.symm
                have E368 : h368.2.1 = (w1 h350.2.1 94 (((5 * S) + v324.toInt)) (v362 : Int32)) := by
                  rw [hv368e]
                  rw [v322S]
                  rfl
                have oh368 : OH h.2.1 h368.2.1 S := by rw [E368]; exact (oh350.trans (OH.w 5 rfl (by omega) (by omega) (by omega) (by omega)))
                have n73_368 : V h368.2.1 73 S = V h350.2.1 73 S := by rw [E368, V_ne (by omega)]
                have n74_368 : V h368.2.1 74 S = V h350.2.1 74 S := by rw [E368, V_ne (by omega)]
                have n75_368 : V h368.2.1 75 S = V h350.2.1 75 S := by rw [E368, V_ne (by omega)]
                have ck368 : CKF h.2.1 → CKF h368.2.1 := fun z => by rw [E368]; exact (CKF.w (by omega) (ck350 z))
                refine gf_if_eq (pc := 123) (tgt := 134) (ti_rfl v374) (by decide) dX8_readAll_123 (fun q376 => ?_) (fun q376 => ?_)
                ·
                  have k377 := if_t k375 q376
                  have g378 : (0 : Int) ≤ (h368.2.1 70 4).toInt := (hv368.2.1 70 4).1
                  have g379 : (h368.2.1 70 4).toInt ≤ 500 := (hv368.2.1 70 4).2
                  have g380 : (-2147483648 : Int) ≤ (h368.2.1 70 5).toInt := (hv368.2.1 70 5).1
                  have g381 : (h368.2.1 70 5).toInt ≤ 2147483647 := (hv368.2.1 70 5).2
                  have g382 : (h368.2.1 70 4).toInt = u364.toInt := by rw [← (show u364 = h368.2.1 70 4 from (show u364 = h368.2.1 70 4 from by rw [hv368e]; exact (g_iI rfl u364w.symm).symm))] <;> exact (ti_rfl u364)
                  have g383 : (h368.2.1 70 5).toInt = u366.toInt := by rw [← (show u366 = h368.2.1 70 5 from (show u366 = h368.2.1 70 5 from by rw [hv368e]; exact (g_iI rfl u366w.symm).symm))] <;> exact (ti_rfl u366)
                  have v76 : V h368.2.1 76 S = (v327.toInt + 1) := by rw [E368, V_ne (by omega), f359.v (by omega), ve336.v (by omega) (by omega), E331, V_eq]; exact e330
                  have pp384 : (h368.2.1 70 5).toInt = 0 → RD h368.2.1 S ∧ 1 ≤ V h368.2.1 76 S := (fun hg => ⟨(show RD h368.2.1 S from by rw [E368]; exact RD.proc (x := (v329 : Int32)) S0 (RD.ve ve304 (RD.ve ve5 xrd)) (by rw [show (v329 : Int32).toInt = (v327.toInt + 1) from e330]; omega) (by rw [← E331]; exact ve336) (f356 (by omega)) f359 (by omega) rfl), by omega⟩)
                  have pp385 : st h368 = f_X8_readAll (st h) := (k377.symm.trans kf)
                  have pp386 : FX KRt h h368 := fx368
                  subst hS
                  exact gi_vret (pc := 134) ⟨rfl, ⟨_, hv368, (MW.trans (MW.trans (MW.trans sqx (MW.mz _ _)) sq352) (MW.mz _ _))⟩, pp384, pp385, pp386, oh368, ck368⟩ hv368 dX8_readAll_134
                ·
                  have k387 := if_f k375 q376
                  refine go_aload_n (pc := 126) rfl dX8_readAll_126 ?_
                  have g388 : (0 : Int) ≤ (h368.2.1 70 4).toInt := (hv368.2.1 70 4).1
                  have g389 : (h368.2.1 70 4).toInt ≤ 500 := (hv368.2.1 70 4).2
                  have g390 : (-2147483648 : Int) ≤ (h368.2.1 70 5).toInt := (hv368.2.1 70 5).1
                  have g391 : (h368.2.1 70 5).toInt ≤ 2147483647 := (hv368.2.1 70 5).2
                  have g392 : (h368.2.1 70 4).toInt = u364.toInt := by rw [← (show u364 = h368.2.1 70 4 from (show u364 = h368.2.1 70 4 from by rw [hv368e]; exact (g_iI rfl u364w.symm).symm))] <;> exact (ti_rfl u364)
                  have g393 : (h368.2.1 70 5).toInt = u366.toInt := by rw [← (show u366 = h368.2.1 70 5 from (show u366 = h368.2.1 70 5 from by rw [hv368e]; exact (g_iI rfl u366w.symm).symm))] <;> exact (ti_rfl u366)
                  refine go_invV (pc := 127) (sl := 0) (s_X8_here_f l (d + 23) hv368 ) mL_X8_176 iM_X8_here sM_X8_here (hv368.sh rfl) rfl rfl rfl (Nat.le_of_ble_eq_true rfl) (show d + 23 + 1 + 1 ≤ d + 25 by omega) (show 8 + (1 + 11) + 40 * (d + 23 + 1) ≤ 40 * (d + 25) by omega) (g_c0 hv368.ln) (Nat.le_of_ble_eq_true rfl) dX8_readAll_127 ?_
                  intro r h394 hq _
                  obtain ⟨v401, rfl, v401l, v401u, hv394, f395, f396, f397, f398, f399, f400⟩ := hq
                  have fx394 : FX KRt h h394 := FX.tr fx368 f400
                  have k402 := bd2_e k387 f399
                  have ve394 : VE h368.2.1 h394.2.1 := VE.of hv368 hv394
                  have oh394 : OH h.2.1 h394.2.1 S := oh368.trans (OH.of hv368 hv394 S)
                  have ck394 : CKF h.2.1 → CKF h394.2.1 := fun z => CKF.ve ve394 (ck368 z)
                  have n73_394 : V h394.2.1 73 S = V h368.2.1 73 S := ve394.v (by omega) (by omega)
                  have n74_394 : V h394.2.1 74 S = V h368.2.1 74 S := ve394.v (by omega) (by omega)
                  have n75_394 : V h394.2.1 75 S = V h368.2.1 75 S := ve394.v (by omega) (by omega)
                  obtain ⟨u403, u403w⟩ : ∃ v : Int32, v = h394.2.1 70 4 := ⟨_, rfl⟩
                  have u403e : (h394.2.1 70 4).toInt = u403.toInt := by rw [u403w]
                  have u403l : 0 ≤ u403.toInt := by rw [u403w]; exact (hv394.2.1 70 4).1
                  have u403u : u403.toInt ≤ 500 := by rw [u403w]; exact (hv394.2.1 70 4).2
                  have k404 := k402
                  obtain ⟨u405, u405w⟩ : ∃ v : Int32, v = h394.2.1 70 5 := ⟨_, rfl⟩
                  have u405e : (h394.2.1 70 5).toInt = u405.toInt := by rw [u405w]
                  have u405l : -2147483648 ≤ u405.toInt := by rw [u405w]; exact (hv394.2.1 70 5).1
                  have u405u : u405.toInt ≤ 2147483647 := by rw [u405w]; exact (hv394.2.1 70 5).2
                  have k406 := k404
                  refine go_iconst (pc := 130) (v := (-1)) (by decide) dX8_readAll_130 ?_
                  refine gf_icmp_ne (pc := 131) (tgt := 0) (ti_rfl v401) (ti_c (v := (-1)) (a := (-1)) (by decide)) (by decide) dX8_readAll_131 (fun q407 => ?_) (fun q407 => ?_)
                  ·
                    have k408 := if_t k406 q407
                    have g409 : (0 : Int) ≤ (h394.2.1 70 4).toInt := (hv394.2.1 70 4).1
                    have g410 : (h394.2.1 70 4).toInt ≤ 500 := (hv394.2.1 70 4).2
                    have g411 : (-2147483648 : Int) ≤ (h394.2.1 70 5).toInt := (hv394.2.1 70 5).1
                    have g412 : (h394.2.1 70 5).toInt ≤ 2147483647 := (hv394.2.1 70 5).2
                    have g413 : (h394.2.1 70 4).toInt = u403.toInt := by rw [← (show u403 = h394.2.1 70 4 from u403w)] <;> exact (ti_rfl u403)
                    have g414 : (h394.2.1 70 5).toInt = u405.toInt := by rw [← (show u405 = h394.2.1 70 5 from u405w)] <;> exact (ti_rfl u405)
                    exact go_lv rfl (ih  _ h394 hv394 (MW.trans (MW.trans (MW.trans sqx (MW.mz _ _)) sq352) (MW.mz _ _)) (by omega) (RD.ve ve394 (show RD h368.2.1 S from by rw [E368]; exact RD.proc (x := (v329 : Int32)) S0 (RD.ve ve304 (RD.ve ve5 xrd)) (by rw [show (v329 : Int32).toInt = (v327.toInt + 1) from e330]; omega) (by rw [← E331]; exact ve336) (f356 (by omega)) f359 (by omega) rfl)) (by omega) (by omega) oh394 ck394 (by omega) (by omega) (by omega) (by omega) fx394 k408 (by omega))
                  ·
                    have k415 := if_f k406 (fun z => z q407)
                    have g416 : (0 : Int) ≤ (h394.2.1 70 4).toInt := (hv394.2.1 70 4).1
                    have g417 : (h394.2.1 70 4).toInt ≤ 500 := (hv394.2.1 70 4).2
                    have g418 : (-2147483648 : Int) ≤ (h394.2.1 70 5).toInt := (hv394.2.1 70 5).1
                    have g419 : (h394.2.1 70 5).toInt ≤ 2147483647 := (hv394.2.1 70 5).2
                    have g420 : (h394.2.1 70 4).toInt = u403.toInt := by rw [← (show u403 = h394.2.1 70 4 from u403w)] <;> exact (ti_rfl u403)
                    have g421 : (h394.2.1 70 5).toInt = u405.toInt := by rw [← (show u405 = h394.2.1 70 5 from u405w)] <;> exact (ti_rfl u405)
                    have v76 : V h394.2.1 76 S = (v327.toInt + 1) := by rw [ve394.v (by omega) (by omega), E368, V_ne (by omega), f359.v (by omega), ve336.v (by omega) (by omega), E331, V_eq]; exact e330
                    have pp422 : (h394.2.1 70 5).toInt = 0 → RD h394.2.1 S ∧ 1 ≤ V h394.2.1 76 S := (fun hg => ⟨(RD.ve ve394 (show RD h368.2.1 S from by rw [E368]; exact RD.proc (x := (v329 : Int32)) S0 (RD.ve ve304 (RD.ve ve5 xrd)) (by rw [show (v329 : Int32).toInt = (v327.toInt + 1) from e330]; omega) (by rw [← E331]; exact ve336) (f356 (by omega)) f359 (by omega) rfl)), by omega⟩)
                    have pp423 : st h394 = f_X8_readAll (st h) := (k415.symm.trans kf)
                    have pp424 : FX KRt h h394 := fx394
                    subst hS
                    exact gi_vret (pc := 134) ⟨rfl, ⟨_, hv394, (MW.trans (MW.trans (MW.trans sqx (MW.mz _ _)) sq352) (MW.mz _ _))⟩, pp422, pp423, pp424, oh394, ck394⟩ hv394 dX8_readAll_134
              ·
                have k425 := if_f k319 (fun z => z q320)
                have g426 : (0 : Int) ≤ (h304.2.1 70 4).toInt := (hv304.2.1 70 4).1
                have g427 : (h304.2.1 70 4).toInt ≤ 500 := (hv304.2.1 70 4).2
                have g428 : (-2147483648 : Int) ≤ (h304.2.1 70 5).toInt := (hv304.2.1 70 5).1
                have g429 : (h304.2.1 70 5).toInt ≤ 2147483647 := (hv304.2.1 70 5).2
                have g430 : (h304.2.1 70 4).toInt = u310.toInt := by rw [← (show u310 = h304.2.1 70 4 from u310w)] <;> exact (ti_rfl u310)
                have g431 : (h304.2.1 70 5).toInt = u312.toInt := by rw [← (show u312 = h304.2.1 70 5 from u312w)] <;> exact (ti_rfl u312)
                have pp432 : (h304.2.1 70 5).toInt = 0 → RD h304.2.1 S ∧ 1 ≤ V h304.2.1 76 S := (fun hg => absurd hg (by omega))
                have pp433 : st h304 = f_X8_readAll (st h) := (k425.symm.trans kf)
                have pp434 : FX KRt h h304 := fx304
                subst hS
                exact gi_vret (pc := 65) ⟨rfl, ⟨_, hv304, sqx⟩, pp432, pp433, pp434, oh304, ck304⟩ hv304 dX8_readAll_65
        ·
          have k435 := if_f k23 (fun z => z q24)
          refine go_aload_n (pc := 16) rfl dX8_readAll_16 ?_
          refine go_iconst (pc := 17) (v := 1) (by decide) dX8_readAll_17 ?_
          have g436 : (0 : Int) ≤ (h5.2.1 70 4).toInt := (hv5.2.1 70 4).1
          have g437 : (h5.2.1 70 4).toInt ≤ 500 := (hv5.2.1 70 4).2
          have g438 : (-2147483648 : Int) ≤ (h5.2.1 70 5).toInt := (hv5.2.1 70 5).1
          have g439 : (h5.2.1 70 5).toInt ≤ 2147483647 := (hv5.2.1 70 5).2
          have g440 : (h5.2.1 70 4).toInt = u14.toInt := by rw [← (show u14 = h5.2.1 70 4 from u14w)] <;> exact (ti_rfl u14)
          have g441 : (h5.2.1 70 5).toInt = u16.toInt := by rw [← (show u16 = h5.2.1 70 5 from u16w)] <;> exact (ti_rfl u16)
          refine go_invV (pc := 18) (sl := 0) (s_X8_fails_f l (d + 23) hv5 1 (by rw [show (1 : Int32).toInt = 1 from (ti_c (v := 1) (a := 1) (by decide))]; omega) (by rw [show (1 : Int32).toInt = 1 from (ti_c (v := 1) (a := 1) (by decide))]; omega)) mL_X8_180 iM_X8_fails sM_X8_fails (hv5.sh rfl) rfl rfl rfl (Nat.le_of_ble_eq_true rfl) (show d + 23 + 1 + 1 ≤ d + 25 by omega) (show 8 + (2 + 11) + 40 * (d + 23 + 1) ≤ 40 * (d + 25) by omega) (g_c0 hv5.ln) (Nat.le_of_ble_eq_true rfl) dX8_readAll_18 ?_
          intro r h442 hq _
          obtain ⟨rfl, hv442, f443, f444, f445, f446⟩ := hq
          try rw [show (1 : Int32).toInt = 1 from (ti_c (v := 1) (a := 1) (by decide))] at f443
          try rw [show (1 : Int32).toInt = 1 from (ti_c (v := 1) (a := 1) (by decide))] at f444
          try rw [show (1 : Int32).toInt = 1 from (ti_c (v := 1) (a := 1) (by decide))] at f445
          try rw [show (1 : Int32).toInt = 1 from (ti_c (v := 1) (a := 1) (by decide))] at f446
          have fx442 : FX KRt h h442 := FX.tr fx5 f446
          have k447 := bd_e k435 f445.symm
          have ve442 : VE h5.2.1 h442.2.1 := VE.of hv5 hv442
          have oh442 : OH h.2.1 h442.2.1 S := oh5.trans (OH.of hv5 hv442 S)
          have ck442 : CKF h.2.1 → CKF h442.2.1 := fun z => CKF.ve ve442 (ck5 z)
          have n73_442 : V h442.2.1 73 S = V h5.2.1 73 S := ve442.v (by omega) (by omega)
          have n74_442 : V h442.2.1 74 S = V h5.2.1 74 S := ve442.v (by omega) (by omega)
          have n75_442 : V h442.2.1 75 S = V h5.2.1 75 S := ve442.v (by omega) (by omega)
          obtain ⟨u448, u448w⟩ : ∃ v : Int32, v = h442.2.1 70 4 := ⟨_, rfl⟩
          have u448e : (h442.2.1 70 4).toInt = u448.toInt := by rw [u448w]
          have u448l : 0 ≤ u448.toInt := by rw [u448w]; exact (hv442.2.1 70 4).1
          have u448u : u448.toInt ≤ 500 := by rw [u448w]; exact (hv442.2.1 70 4).2
          have k449 := bd_e k447 (congrArg Int32.toInt u448w.symm)
          obtain ⟨u450, u450w⟩ : ∃ v : Int32, v = h442.2.1 70 5 := ⟨_, rfl⟩
          have u450e : (h442.2.1 70 5).toInt = u450.toInt := by rw [u450w]
          have u450l : -2147483648 ≤ u450.toInt := by rw [u450w]; exact (hv442.2.1 70 5).1
          have u450u : u450.toInt ≤ 2147483647 := by rw [u450w]; exact (hv442.2.1 70 5).2
          have k451 := k449
          refine go_goto (pc := 21) (tgt := 58) (by decide) dX8_readAll_21 ?_
          refine go_aload_n (pc := 58) rfl dX8_readAll_58 ?_
          refine go_invV (pc := 59) (sl := 0) (s_X8_isGood_f l (d + 23) hv442 ) mL_X8_172 iM_X8_isGood sM_X8_isGood (hv442.sh rfl) rfl rfl rfl (Nat.le_of_ble_eq_true rfl) (show d + 23 + 1 + 1 ≤ d + 25 by omega) (show 8 + (1 + 11) + 40 * (d + 23 + 1) ≤ 40 * (d + 25) by omega) (g_c0 hv442.ln) (Nat.le_of_ble_eq_true rfl) dX8_readAll_59 ?_
          intro r h452 hq _
          obtain ⟨v456, rfl, v456l, v456u, rfl, f453, f454, f455⟩ := hq
          replace f455 : PE _ _ := f455
          have k457 := bd_e k451 f455.symm
          refine gf_if_ne (pc := 62) (tgt := 66) (ti_rfl v456) (by decide) dX8_readAll_62 (fun q458 => ?_) (fun q458 => ?_)
          ·
            have k459 := if_t k457 q458
            refine go_aload_n (pc := 66) rfl dX8_readAll_66 ?_
            refine gi_getF (pc := 67) (q := 76) hv442 fL_X8_26 rfl (Nat.le_of_ble_eq_true rfl) rfl (hv442.rf (by decide)) dX8_readAll_67 ?_
            refine go_aload_n (pc := 70) rfl dX8_readAll_70 ?_
            refine gi_get (pc := 71) (lo := 0) (hi := 1) hv442 fL_X8_187 rfl (Nat.le_of_ble_eq_true rfl) rfl rfl dX8_readAll_71 (fun v460 v460l v460u v460w => ?_)
            have k461 := bd_e k459 (congrArg Int32.toInt v460w.symm)
            have v460S : v460.toInt = S := by rw [v460w]; exact (congrArg Int32.toInt oh442.side).trans hS.symm
            refine gi_iald (pc := 74) (lo := 0) (hi := 5) (len := 2) hv442 (ti_rfl v460) rfl (by omega) (by omega) (fun _ => rfl) dX8_readAll_74 (fun v462 v462l v462u v462w => ?_)
            have k463 := bd_e k461 (congrArg Int32.toInt v462w.symm)
            have v462V : v462.toInt = V h442.2.1 76 S := by rw [v462w, v460S]; rfl
            refine go_istore_n (pc := 75) (Nat.le_of_ble_eq_true rfl) dX8_readAll_75 (go_lv (lv2 := [(0, .ref 70), (1, .int v12), (2, .int v462)]) rfl ?_)
            refine go_aload_n (pc := 76) rfl dX8_readAll_76 ?_
            refine gi_getF (pc := 77) (q := 76) hv442 fL_X8_26 rfl (Nat.le_of_ble_eq_true rfl) rfl (hv442.rf (by decide)) dX8_readAll_77 ?_
            refine go_aload_n (pc := 80) rfl dX8_readAll_80 ?_
            refine gi_get (pc := 81) (lo := 0) (hi := 1) hv442 fL_X8_187 rfl (Nat.le_of_ble_eq_true rfl) rfl rfl dX8_readAll_81 (fun v464 v464l v464u v464w => ?_)
            have v464r : v460 = h442.2.1 70 6 := v460w
            have v464q : TI v464 v460.toInt := by rw [v464w.trans v464r.symm]; exact (ti_rfl v460)
            refine go_dup2 (pc := 84) rfl rfl dX8_readAll_84 ?_
            refine gi_iald (pc := 85) (lo := 0) (hi := 5) (len := 2) hv442 v464q rfl (by omega) (by omega) (fun _ => rfl) dX8_readAll_85 (fun v465 v465l v465u v465w => ?_)
            have k466 := bd_e k463 (congrArg Int32.toInt v465w.symm)
            have v465V : v465.toInt = V h442.2.1 76 S := by rw [v465w, v460S]; rfl
            refine go_iconst (pc := 86) (v := 1) (by decide) dX8_readAll_86 ?_
            refine gf_iadd (pc := 87) (ti_rfl v465) (ti_c (v := 1) (a := 1) (by decide)) (by omega) (by omega) dX8_readAll_87 (fun v467 e468 => ?_)
            refine gi_fst (pc := 88) (lo := 0) (hi := 5) (len := 2) hv442 v464q e468 rfl (by omega) (by omega) (fun _ => rfl) (by omega) (by omega) (by omega) dX8_readAll_88 (fun h469 hv469 hv469e => ?_)
            have fx469 : FX KRt h h469 := FX.pI fx442 hv469e (by unfold KRt; omega)
            have k470 := bd_e k466 (st_I hv469e e468)
            refine go_aload_n (pc := 89) rfl dX8_readAll_89 ?_
            refine go_dup (pc := 90) rfl dX8_readAll_90 ?_
            refine gi_get (pc := 91) (lo := 0) (hi := 500) hv469 fL_X8_163 rfl (Nat.le_of_ble_eq_true rfl) rfl rfl dX8_readAll_91 (fun v471 v471l v471u v471w => ?_)
            have v471r : u448 = h469.2.1 70 4 := (show u448 = h469.2.1 70 4 from by rw [hv469e]; exact (g_iI rfl u448w.symm).symm)
            have v471q : TI v471 u448.toInt := by rw [v471w.trans v471r.symm]; exact (ti_rfl u448)
            refine go_iconst (pc := 94) (v := 1) (by decide) dX8_readAll_94 ?_
            refine gf_iadd (pc := 95) v471q (ti_c (v := 1) (a := 1) (by decide)) (by omega) (by omega) dX8_readAll_95 (fun v472 e473 => ?_)
            have E469 : h469.2.1 = (w1 h442.2.1 76 S (v467 : Int32)) := by
              rw [hv469e]
              rw [v460S]
              rfl
            have oh469 : OH h.2.1 h469.2.1 S := by rw [E469]; exact (oh442.trans (OH.w 1 rfl (by omega) (by omega) (by omega) (by omega)))
            have n73_469 : V h469.2.1 73 S = V h442.2.1 73 S := by rw [E469, V_ne (by omega)]
            have n74_469 : V h469.2.1 74 S = V h442.2.1 74 S := by rw [E469, V_ne (by omega)]
            have n75_469 : V h469.2.1 75 S = V h442.2.1 75 S := by rw [E469, V_ne (by omega)]
            have ck469 : CKF h.2.1 → CKF h469.2.1 := fun z => by rw [E469]; exact (CKF.w (by omega) (ck442 z))
            refine gi_put (pc := 96) (lo := 0) (hi := 500) hv469 e473 (fP_X8_163 _) rfl (Nat.le_of_ble_eq_true rfl) rfl rfl (by omega) (by omega) rfl rfl (by decide) (by decide) (by decide) (by decide) dX8_readAll_96 (fun h474 hv474 hv474e => ?_)
            have fx474 : FX KRt h h474 := FX.pI fx469 hv474e (by unfold KRt; omega)
            have k475 := bd_e k470 (st_I hv474e e473)
            have ve474 : VE h469.2.1 h474.2.1 := VE.of hv469 hv474
            have oh474 : OH h.2.1 h474.2.1 S := oh469.trans (OH.of hv469 hv474 S)
            have ck474 : CKF h.2.1 → CKF h474.2.1 := fun z => CKF.ve ve474 (ck469 z)
            have n73_474 : V h474.2.1 73 S = V h469.2.1 73 S := ve474.v (by omega) (by omega)
            have n74_474 : V h474.2.1 74 S = V h469.2.1 74 S := ve474.v (by omega) (by omega)
            have n75_474 : V h474.2.1 75 S = V h469.2.1 75 S := ve474.v (by omega) (by omega)
            refine go_aload_n (pc := 99) rfl dX8_readAll_99 ?_
            refine gi_getF (pc := 100) (q := 94) hv474 fL_X8_80 rfl (Nat.le_of_ble_eq_true rfl) rfl (hv474.rf (by decide)) dX8_readAll_100 ?_
            refine go_iconst (pc := 103) (v := 5) (by decide) dX8_readAll_103 ?_
            refine go_aload_n (pc := 104) rfl dX8_readAll_104 ?_
            refine gi_get (pc := 105) (lo := 0) (hi := 1) hv474 fL_X8_187 rfl (Nat.le_of_ble_eq_true rfl) rfl rfl dX8_readAll_105 (fun v476 v476l v476u v476w => ?_)
            have v476r : v460 = h474.2.1 70 6 := (show v460 = h474.2.1 70 6 from by rw [hv474e]; exact (g_iI rfl (show v460 = h469.2.1 70 6 from by rw [hv469e]; exact (g_iI rfl v460w.symm).symm).symm).symm)
            have v476q : TI v476 v460.toInt := by rw [v476w.trans v476r.symm]; exact (ti_rfl v460)
            refine gf_imul (pc := 108) (ti_c (v := 5) (a := 5) (by decide)) v476q (by omega) (by omega) dX8_readAll_108 (fun v477 e478 => ?_)
            refine go_iload_n (pc := 109) rfl dX8_readAll_109 ?_
            refine gf_iadd (pc := 110) e478 (ti_rfl v462) (by omega) (by omega) dX8_readAll_110 (fun v479 e480 => ?_)
            refine go_aload_n (pc := 111) rfl dX8_readAll_111 ?_
            refine go_iconst (pc := 112) (v := (-1)) (by decide) dX8_readAll_112 ?_
            refine go_iload_n (pc := 113) rfl dX8_readAll_113 ?_
            refine go_iconst (pc := 114) (v := 0) (by decide) dX8_readAll_114 ?_
            have rdk : TR h474.2.1 S := (TR.ve ve474 (by rw [E469]; exact RD.w76 (RD.ve ve442 (RD.ve ve5 xrd))))
            have zq : (0 : Int32).toInt = 0 := by decide
            have zn : (-1 : Int32).toInt = -1 := by decide
            have sM481 : (h474.2.1 70 6).toInt = S := (congrArg Int32.toInt oh474.side).trans hS.symm
            have g482 : (0 : Int) ≤ (h474.2.1 70 4).toInt := (hv474.2.1 70 4).1
            have g483 : (h474.2.1 70 4).toInt ≤ 500 := (hv474.2.1 70 4).2
            have g484 : (-2147483648 : Int) ≤ (h474.2.1 70 5).toInt := (hv474.2.1 70 5).1
            have g485 : (h474.2.1 70 5).toInt ≤ 2147483647 := (hv474.2.1 70 5).2
            have g486 : (h474.2.1 70 5).toInt = u450.toInt := by rw [← (show u450 = h474.2.1 70 5 from (show u450 = h474.2.1 70 5 from by rw [hv474e]; exact (g_iI rfl (show u450 = h469.2.1 70 5 from by rw [hv469e]; exact (g_iI rfl u450w.symm).symm).symm).symm))] <;> exact (ti_rfl u450)
            have g487 : (h474.2.1 70 4).toInt = (u448.toInt + 1) := by rw [← (show v472 = h474.2.1 70 4 from (show v472 = h474.2.1 70 4 from by rw [hv474e]; exact g_iS.symm))] <;> exact e473
            refine go_invV (pc := 115) (sl := 0) (s_X8_readBlock_f l (d + 0) hv474 (-1) (by rw [show ((-1) : Int32).toInt = (-1) from (ti_c (v := (-1)) (a := (-1)) (by decide))]; omega) (by rw [show ((-1) : Int32).toInt = (-1) from (ti_c (v := (-1)) (a := (-1)) (by decide))]; omega) v462 (by rw [show (v462 : Int32).toInt = v462.toInt from (ti_rfl v462)]; omega) (by rw [show (v462 : Int32).toInt = v462.toInt from (ti_rfl v462)]; omega) 0 (by rw [show (0 : Int32).toInt = 0 from (ti_c (v := 0) (a := 0) (by decide))]; omega) (by rw [show (0 : Int32).toInt = 0 from (ti_c (v := 0) (a := 0) (by decide))]; omega) (by rw [sM481]; exact (fun _ => by omega)) (by rw [sM481]; exact (fun _ => ⟨rdk, Or.inl ⟨by omega, by omega⟩⟩))) mL_X8_224 iM_X8_readBlock sM_X8_readBlock (hv474.sh rfl) rfl rfl rfl (Nat.le_of_ble_eq_true rfl) (show d + 0 + 24 + 1 ≤ d + 25 by omega) (show 8 + (5 + 11) + 40 * (d + 0 + 24) ≤ 40 * (d + 25) by omega) (g_c0 hv474.ln) (Nat.le_of_ble_eq_true rfl) dX8_readAll_115 ?_
            intro r h488 hq _
            obtain ⟨v500, rfl, v500l, v500u, ⟨Q489, hv488, sq490⟩, f491, f492, f493, f494, f495, f496, f497, f498, f499⟩ := hq
            rw [sM481] at f493
            rw [sM481] at f494
            rw [sM481] at f498
            have oh488 : OH h.2.1 h488.2.1 S := oh474.trans f498
            have ck488 : CKF h.2.1 → CKF h488.2.1 := fun z => f499 (ck474 z)
            try rw [show ((-1) : Int32).toInt = (-1) from (ti_c (v := (-1)) (a := (-1)) (by decide))] at f491
            try rw [show (0 : Int32).toInt = 0 from (ti_c (v := 0) (a := 0) (by decide))] at f491
            try rw [show ((-1) : Int32).toInt = (-1) from (ti_c (v := (-1)) (a := (-1)) (by decide))] at f492
            try rw [show (0 : Int32).toInt = 0 from (ti_c (v := 0) (a := 0) (by decide))] at f492
            try rw [show ((-1) : Int32).toInt = (-1) from (ti_c (v := (-1)) (a := (-1)) (by decide))] at f493
            try rw [show (0 : Int32).toInt = 0 from (ti_c (v := 0) (a := 0) (by decide))] at f493
            try rw [show ((-1) : Int32).toInt = (-1) from (ti_c (v := (-1)) (a := (-1)) (by decide))] at f494
            try rw [show (0 : Int32).toInt = 0 from (ti_c (v := 0) (a := 0) (by decide))] at f494
            try rw [show ((-1) : Int32).toInt = (-1) from (ti_c (v := (-1)) (a := (-1)) (by decide))] at f495
            try rw [show (0 : Int32).toInt = 0 from (ti_c (v := 0) (a := 0) (by decide))] at f495
            try rw [show ((-1) : Int32).toInt = (-1) from (ti_c (v := (-1)) (a := (-1)) (by decide))] at f496
            try rw [show (0 : Int32).toInt = 0 from (ti_c (v := 0) (a := 0) (by decide))] at f496
            try rw [show ((-1) : Int32).toInt = (-1) from (ti_c (v := (-1)) (a := (-1)) (by decide))] at f497
            try rw [show (0 : Int32).toInt = 0 from (ti_c (v := 0) (a := 0) (by decide))] at f497
            try rw [show ((-1) : Int32).toInt = (-1) from (ti_c (v := (-1)) (a := (-1)) (by decide))] at f498
            try rw [show (0 : Int32).toInt = 0 from (ti_c (v := 0) (a := 0) (by decide))] at f498
            try rw [show ((-1) : Int32).toInt = (-1) from (ti_c (v := (-1)) (a := (-1)) (by decide))] at f499
            try rw [show (0 : Int32).toInt = 0 from (ti_c (v := 0) (a := 0) (by decide))] at f499
            have fx488 : FX KRt h h488 := FX.tr fx474 f496
            have k501 := bd2_e k475 f495
            obtain ⟨u502, u502w⟩ : ∃ v : Int32, v = h488.2.1 70 4 := ⟨_, rfl⟩
            have u502e : (h488.2.1 70 4).toInt = u502.toInt := by rw [u502w]
            have u502l : 0 ≤ u502.toInt := by rw [u502w]; exact (hv488.2.1 70 4).1
            have u502u : u502.toInt ≤ 500 := by rw [u502w]; exact (hv488.2.1 70 4).2
            have k503 := k501
            obtain ⟨u504, u504w⟩ : ∃ v : Int32, v = h488.2.1 70 5 := ⟨_, rfl⟩
            have u504e : (h488.2.1 70 5).toInt = u504.toInt := by rw [u504w]
            have u504l : -2147483648 ≤ u504.toInt := by rw [u504w]; exact (hv488.2.1 70 5).1
            have u504u : u504.toInt ≤ 2147483647 := by rw [u504w]; exact (hv488.2.1 70 5).2
            have k505 := k503
            refine gi_fst (pc := 118) (lo := 0) (hi := 559) (len := 10) hv488 e480 (ti_rfl v500) rfl (by omega) (by omega) (fun _ => rfl) (by omega) (by omega) (by omega) dX8_readAll_118 (fun h506 hv506 hv506e => ?_)
            have fx506 : FX KRt h h506 := FX.pI fx488 hv506e (by unfold KRt; omega)
            have k507 := bd_e k505 (st_I hv506e (ti_rfl v500))
            refine go_aload_n (pc := 119) rfl dX8_readAll_119 ?_
            refine go_invV (pc := 120) (sl := 0) (s_X8_isGood_f l (d + 23) hv506 ) mL_X8_172 iM_X8_isGood sM_X8_isGood (hv506.sh rfl) rfl rfl rfl (Nat.le_of_ble_eq_true rfl) (show d + 23 + 1 + 1 ≤ d + 25 by omega) (show 8 + (1 + 11) + 40 * (d + 23 + 1) ≤ 40 * (d + 25) by omega) (g_c0 hv506.ln) (Nat.le_of_ble_eq_true rfl) dX8_readAll_120 ?_
            intro r h508 hq _
            obtain ⟨v512, rfl, v512l, v512u, rfl, f509, f510, f511⟩ := hq
            replace f511 : PE _ _ := f511
            have k513 := bd_e k507 f511.symm
            have E506 : h506.2.1 = (w1 h488.2.1 94 (((5 * S) + v462.toInt)) (v500 : Int32)) := by
              rw [hv506e]
              rw [v460S]
              rfl
            have oh506 : OH h.2.1 h506.2.1 S := by rw [E506]; exact (oh488.trans (OH.w 5 rfl (by omega) (by omega) (by omega) (by omega)))
            have n73_506 : V h506.2.1 73 S = V h488.2.1 73 S := by rw [E506, V_ne (by omega)]
            have n74_506 : V h506.2.1 74 S = V h488.2.1 74 S := by rw [E506, V_ne (by omega)]
            have n75_506 : V h506.2.1 75 S = V h488.2.1 75 S := by rw [E506, V_ne (by omega)]
            have ck506 : CKF h.2.1 → CKF h506.2.1 := fun z => by rw [E506]; exact (CKF.w (by omega) (ck488 z))
            refine gf_if_eq (pc := 123) (tgt := 134) (ti_rfl v512) (by decide) dX8_readAll_123 (fun q514 => ?_) (fun q514 => ?_)
            ·
              have k515 := if_t k513 q514
              have g516 : (0 : Int) ≤ (h506.2.1 70 4).toInt := (hv506.2.1 70 4).1
              have g517 : (h506.2.1 70 4).toInt ≤ 500 := (hv506.2.1 70 4).2
              have g518 : (-2147483648 : Int) ≤ (h506.2.1 70 5).toInt := (hv506.2.1 70 5).1
              have g519 : (h506.2.1 70 5).toInt ≤ 2147483647 := (hv506.2.1 70 5).2
              have g520 : (h506.2.1 70 4).toInt = u502.toInt := by rw [← (show u502 = h506.2.1 70 4 from (show u502 = h506.2.1 70 4 from by rw [hv506e]; exact (g_iI rfl u502w.symm).symm))] <;> exact (ti_rfl u502)
              have g521 : (h506.2.1 70 5).toInt = u504.toInt := by rw [← (show u504 = h506.2.1 70 5 from (show u504 = h506.2.1 70 5 from by rw [hv506e]; exact (g_iI rfl u504w.symm).symm))] <;> exact (ti_rfl u504)
              have v76 : V h506.2.1 76 S = (v465.toInt + 1) := by rw [E506, V_ne (by omega), f497.v (by omega), ve474.v (by omega) (by omega), E469, V_eq]; exact e468
              have pp522 : (h506.2.1 70 5).toInt = 0 → RD h506.2.1 S ∧ 1 ≤ V h506.2.1 76 S := (fun hg => ⟨(show RD h506.2.1 S from by rw [E506]; exact RD.proc (x := (v467 : Int32)) S0 (RD.ve ve442 (RD.ve ve5 xrd)) (by rw [show (v467 : Int32).toInt = (v465.toInt + 1) from e468]; omega) (by rw [← E469]; exact ve474) (f494 (by omega)) f497 (by omega) rfl), by omega⟩)
              have pp523 : st h506 = f_X8_readAll (st h) := (k515.symm.trans kf)
              have pp524 : FX KRt h h506 := fx506
              subst hS
              exact gi_vret (pc := 134) ⟨rfl, ⟨_, hv506, (MW.trans (MW.trans (MW.trans sqx (MW.mz _ _)) sq490) (MW.mz _ _))⟩, pp522, pp523, pp524, oh506, ck506⟩ hv506 dX8_readAll_134
            ·
              have k525 := if_f k513 q514
              refine go_aload_n (pc := 126) rfl dX8_readAll_126 ?_
              have g526 : (0 : Int) ≤ (h506.2.1 70 4).toInt := (hv506.2.1 70 4).1
              have g527 : (h506.2.1 70 4).toInt ≤ 500 := (hv506.2.1 70 4).2
              have g528 : (-2147483648 : Int) ≤ (h506.2.1 70 5).toInt := (hv506.2.1 70 5).1
              have g529 : (h506.2.1 70 5).toInt ≤ 2147483647 := (hv506.2.1 70 5).2
              have g530 : (h506.2.1 70 4).toInt = u502.toInt := by rw [← (show u502 = h506.2.1 70 4 from (show u502 = h506.2.1 70 4 from by rw [hv506e]; exact (g_iI rfl u502w.symm).symm))] <;> exact (ti_rfl u502)
              have g531 : (h506.2.1 70 5).toInt = u504.toInt := by rw [← (show u504 = h506.2.1 70 5 from (show u504 = h506.2.1 70 5 from by rw [hv506e]; exact (g_iI rfl u504w.symm).symm))] <;> exact (ti_rfl u504)
              refine go_invV (pc := 127) (sl := 0) (s_X8_here_f l (d + 23) hv506 ) mL_X8_176 iM_X8_here sM_X8_here (hv506.sh rfl) rfl rfl rfl (Nat.le_of_ble_eq_true rfl) (show d + 23 + 1 + 1 ≤ d + 25 by omega) (show 8 + (1 + 11) + 40 * (d + 23 + 1) ≤ 40 * (d + 25) by omega) (g_c0 hv506.ln) (Nat.le_of_ble_eq_true rfl) dX8_readAll_127 ?_
              intro r h532 hq _
              obtain ⟨v539, rfl, v539l, v539u, hv532, f533, f534, f535, f536, f537, f538⟩ := hq
              have fx532 : FX KRt h h532 := FX.tr fx506 f538
              have k540 := bd2_e k525 f537
              have ve532 : VE h506.2.1 h532.2.1 := VE.of hv506 hv532
              have oh532 : OH h.2.1 h532.2.1 S := oh506.trans (OH.of hv506 hv532 S)
              have ck532 : CKF h.2.1 → CKF h532.2.1 := fun z => CKF.ve ve532 (ck506 z)
              have n73_532 : V h532.2.1 73 S = V h506.2.1 73 S := ve532.v (by omega) (by omega)
              have n74_532 : V h532.2.1 74 S = V h506.2.1 74 S := ve532.v (by omega) (by omega)
              have n75_532 : V h532.2.1 75 S = V h506.2.1 75 S := ve532.v (by omega) (by omega)
              obtain ⟨u541, u541w⟩ : ∃ v : Int32, v = h532.2.1 70 4 := ⟨_, rfl⟩
              have u541e : (h532.2.1 70 4).toInt = u541.toInt := by rw [u541w]
              have u541l : 0 ≤ u541.toInt := by rw [u541w]; exact (hv532.2.1 70 4).1
              have u541u : u541.toInt ≤ 500 := by rw [u541w]; exact (hv532.2.1 70 4).2
              have k542 := k540
              obtain ⟨u543, u543w⟩ : ∃ v : Int32, v = h532.2.1 70 5 := ⟨_, rfl⟩
              have u543e : (h532.2.1 70 5).toInt = u543.toInt := by rw [u543w]
              have u543l : -2147483648 ≤ u543.toInt := by rw [u543w]; exact (hv532.2.1 70 5).1
              have u543u : u543.toInt ≤ 2147483647 := by rw [u543w]; exact (hv532.2.1 70 5).2
              have k544 := k542
              refine go_iconst (pc := 130) (v := (-1)) (by decide) dX8_readAll_130 ?_
              refine gf_icmp_ne (pc := 131) (tgt := 0) (ti_rfl v539) (ti_c (v := (-1)) (a := (-1)) (by decide)) (by decide) dX8_readAll_131 (fun q545 => ?_) (fun q545 => ?_)
              ·
                have k546 := if_t k544 q545
                have g547 : (0 : Int) ≤ (h532.2.1 70 4).toInt := (hv532.2.1 70 4).1
                have g548 : (h532.2.1 70 4).toInt ≤ 500 := (hv532.2.1 70 4).2
                have g549 : (-2147483648 : Int) ≤ (h532.2.1 70 5).toInt := (hv532.2.1 70 5).1
                have g550 : (h532.2.1 70 5).toInt ≤ 2147483647 := (hv532.2.1 70 5).2
                have g551 : (h532.2.1 70 4).toInt = u541.toInt := by rw [← (show u541 = h532.2.1 70 4 from u541w)] <;> exact (ti_rfl u541)
                have g552 : (h532.2.1 70 5).toInt = u543.toInt := by rw [← (show u543 = h532.2.1 70 5 from u543w)] <;> exact (ti_rfl u543)
                exact go_lv rfl (ih  _ h532 hv532 (MW.trans (MW.trans (MW.trans sqx (MW.mz _ _)) sq490) (MW.mz _ _)) (by omega) (RD.ve ve532 (show RD h506.2.1 S from by rw [E506]; exact RD.proc (x := (v467 : Int32)) S0 (RD.ve ve442 (RD.ve ve5 xrd)) (by rw [show (v467 : Int32).toInt = (v465.toInt + 1) from e468]; omega) (by rw [← E469]; exact ve474) (f494 (by omega)) f497 (by omega) rfl)) (by omega) (by omega) oh532 ck532 (by omega) (by omega) (by omega) (by omega) fx532 k546 (by omega))
              ·
                have k553 := if_f k544 (fun z => z q545)
                have g554 : (0 : Int) ≤ (h532.2.1 70 4).toInt := (hv532.2.1 70 4).1
                have g555 : (h532.2.1 70 4).toInt ≤ 500 := (hv532.2.1 70 4).2
                have g556 : (-2147483648 : Int) ≤ (h532.2.1 70 5).toInt := (hv532.2.1 70 5).1
                have g557 : (h532.2.1 70 5).toInt ≤ 2147483647 := (hv532.2.1 70 5).2
                have g558 : (h532.2.1 70 4).toInt = u541.toInt := by rw [← (show u541 = h532.2.1 70 4 from u541w)] <;> exact (ti_rfl u541)
                have g559 : (h532.2.1 70 5).toInt = u543.toInt := by rw [← (show u543 = h532.2.1 70 5 from u543w)] <;> exact (ti_rfl u543)
                have v76 : V h532.2.1 76 S = (v465.toInt + 1) := by rw [ve532.v (by omega) (by omega), E506, V_ne (by omega), f497.v (by omega), ve474.v (by omega) (by omega), E469, V_eq]; exact e468
                have pp560 : (h532.2.1 70 5).toInt = 0 → RD h532.2.1 S ∧ 1 ≤ V h532.2.1 76 S := (fun hg => ⟨(RD.ve ve532 (show RD h506.2.1 S from by rw [E506]; exact RD.proc (x := (v467 : Int32)) S0 (RD.ve ve442 (RD.ve ve5 xrd)) (by rw [show (v467 : Int32).toInt = (v465.toInt + 1) from e468]; omega) (by rw [← E469]; exact ve474) (f494 (by omega)) f497 (by omega) rfl)), by omega⟩)
                have pp561 : st h532 = f_X8_readAll (st h) := (k553.symm.trans kf)
                have pp562 : FX KRt h h532 := fx532
                subst hS
                exact gi_vret (pc := 134) ⟨rfl, ⟨_, hv532, (MW.trans (MW.trans (MW.trans sqx (MW.mz _ _)) sq490) (MW.mz _ _))⟩, pp560, pp561, pp562, oh532, ck532⟩ hv532 dX8_readAll_134
          ·
            have k563 := if_f k457 (fun z => z q458)
            have g564 : (0 : Int) ≤ (h442.2.1 70 4).toInt := (hv442.2.1 70 4).1
            have g565 : (h442.2.1 70 4).toInt ≤ 500 := (hv442.2.1 70 4).2
            have g566 : (-2147483648 : Int) ≤ (h442.2.1 70 5).toInt := (hv442.2.1 70 5).1
            have g567 : (h442.2.1 70 5).toInt ≤ 2147483647 := (hv442.2.1 70 5).2
            have g568 : (h442.2.1 70 4).toInt = u448.toInt := by rw [← (show u448 = h442.2.1 70 4 from u448w)] <;> exact (ti_rfl u448)
            have g569 : (h442.2.1 70 5).toInt = u450.toInt := by rw [← (show u450 = h442.2.1 70 5 from u450w)] <;> exact (ti_rfl u450)
            have pp570 : (h442.2.1 70 5).toInt = 0 → RD h442.2.1 S ∧ 1 ≤ V h442.2.1 76 S := (fun hg => absurd hg (by omega))
            have pp571 : st h442 = f_X8_readAll (st h) := (k563.symm.trans kf)
            have pp572 : FX KRt h h442 := fx442
            subst hS
            exact gi_vret (pc := 65) ⟨rfl, ⟨_, hv442, sqx⟩, pp570, pp571, pp572, oh442, ck442⟩ hv442 dX8_readAll_65
  have g573 : (0 : Int) ≤ (h.2.1 70 4).toInt := (hv.2.1 70 4).1
  have g574 : (h.2.1 70 4).toInt ≤ 500 := (hv.2.1 70 4).2
  have g575 : (-2147483648 : Int) ≤ (h.2.1 70 5).toInt := (hv.2.1 70 5).1
  have g576 : (h.2.1 70 5).toInt ≤ 2147483647 := (hv.2.1 70 5).2
  exact go_lv rfl ((key 1522)  _ h hv (MW.rfl _) (by omega) (RD.init S0 (by omega) (by omega) (by omega) (by omega)) (by omega) (by omega) oh ck (by omega) (by omega) (by omega) (by omega) fx k0 (by omega))
def f_X8_isTold_ : Nat → Nat → Int → ST → Int
  | 0, _, _, _ => 0
  | n + 1, _, l1, s => bd (s.1 70 6) fun v1 => bd (s.1 75 (v1).toNat) fun v3 => if v3 ≤ l1 then (1) else (bd (s.1 93 (((40 * v1) + l1)).toNat) fun v13 => bd (s.1 84 (v13).toNat) fun v15 => bd (s.1 76 (v1).toNat) fun v18 => if v15 < v18 then (f_X8_isTold_ n 2 ((l1 + 1)) s) else (0))
def f_X8_isTold (s : ST) : Int :=
  f_X8_isTold_ 139 2 0 s
set_option maxHeartbeats 4000000 in
set_option maxRecDepth 100000 in
theorem s_X8_isTold_f (l : Launch) (d : Nat) {P : PP} {h : HP} (hv : Iv P h)  : Mt l yX8_isTold cX8_isTold 2 (some .boolean) (d + 1) [.ref 70] h 0 0 (fun r h' => ∃ v : Int32, r = some (.int v) ∧ 0 ≤ v.toInt ∧ v.toInt ≤ 1 ∧ h = h' ∧ (v.toInt = 1 → TD h.2.1 (h.2.1 70 6).toInt) ∧ (v.toInt = f_X8_isTold (st h))) := by
  refine Mt_iv hv (by decide) (Nat.le_of_ble_eq_true rfl) ?_
  show Go l RX8 cX8_isTold 2 (g_rm (d + 1) 0 0) "isTold" (some .boolean) 117 0 0 (fun _ _ => True) (fun r h' => ∃ v : Int32, r = some (.int v) ∧ 0 ≤ v.toInt ∧ v.toInt ≤ 1 ∧ h = h' ∧ (v.toInt = 1 → TD h.2.1 (h.2.1 70 6).toInt) ∧ (v.toInt = f_X8_isTold (st h))) 0 0 [(0, .ref 70)] [] h
  obtain ⟨S, hS⟩ : ∃ S : Int, S = (h.2.1 70 6).toInt := ⟨_, rfl⟩
  have S0 : 0 ≤ S := by rw [hS]; exact (hv.2.1 70 6).1
  have S1 : S ≤ 1 := by rw [hS]; exact (hv.2.1 70 6).2
  obtain ⟨fin, kf⟩ : ∃ z, z = f_X8_isTold (st h) := ⟨_, _root_.rfl⟩
  have k0 := kf
  unfold f_X8_isTold at k0
  have key : ∀ n : Nat, (∀ (l1 : Int32), 0 ≤ l1.toInt → l1.toInt ≤ 40 → (∀ k : Int, 0 ≤ k → k < l1.toInt → V h.2.1 84 (V h.2.1 93 (40 * S + k)) < V h.2.1 76 S) → fin = f_X8_isTold_ n 2 l1.toInt (st h) → (3 * (40 - l1.toInt) + 2 : Int) < n → Go l RX8 cX8_isTold 2 (g_rm (d + 1) 0 0) "isTold" (some .boolean) 117 0 0 (fun _ _ => True) (fun r h' => ∃ v : Int32, r = some (.int v) ∧ 0 ≤ v.toInt ∧ v.toInt ≤ 1 ∧ h = h' ∧ (v.toInt = 1 → TD h.2.1 (h.2.1 70 6).toInt) ∧ (v.toInt = f_X8_isTold (st h))) 0 2 [(0, .ref 70), (1, .int l1)] [] h) := by
    intro n
    induction n with
    | zero => exact (by intros; omega)
    | succ n ih =>
      refine ?_
      ·
        intro l1 l1l l1u x0 kL hm
        rw [f_X8_isTold_] at kL
        refine go_iload_n (pc := 2) rfl dX8_isTold_2 ?_
        refine go_aload_n (pc := 3) rfl dX8_isTold_3 ?_
        refine gi_getF (pc := 4) (q := 75) hv fL_X8_23 rfl (Nat.le_of_ble_eq_true rfl) rfl (hv.rf (by decide)) dX8_isTold_4 ?_
        refine go_aload_n (pc := 7) rfl dX8_isTold_7 ?_
        refine gi_get (pc := 8) (lo := 0) (hi := 1) hv fL_X8_187 rfl (Nat.le_of_ble_eq_true rfl) rfl rfl dX8_isTold_8 (fun v1 v1l v1u v1w => ?_)
        have k2 := bd_e kL (congrArg Int32.toInt v1w.symm)
        have v1S : v1.toInt = S := by rw [v1w, hv.fy (j := 6) (by omega), ← hv.fy (j := 6) (by omega)]; exact hS.symm
        refine gi_iald (pc := 11) (lo := 0) (hi := 40) (len := 2) hv (ti_rfl v1) rfl (by omega) (by omega) (fun _ => rfl) dX8_isTold_11 (fun v3 v3l v3u v3w => ?_)
        have k4 := bd_e k2 (congrArg Int32.toInt v3w.symm)
        have v3V : v3.toInt = V h.2.1 75 S := by rw [v3w, v1S]; rfl
        refine gf_icmp_ge (pc := 12) (tgt := 54) (ti_rfl l1) (ti_rfl v3) (by decide) dX8_isTold_12 (fun q5 => ?_) (fun q5 => ?_)
        ·
          have k6 := if_t k4 q5
          refine go_iconst (pc := 54) (v := 1) (by decide) dX8_isTold_54 ?_
          exact gi_zret (pc := 55) (ti_c (v := 1) (a := 1) (by decide)) (by omega) (by omega) ⟨_, rfl, (by rw [show (1 : Int32).toInt = 1 from (ti_c (v := 1) (a := 1) (by decide))]; omega), (by rw [show (1 : Int32).toInt = 1 from (ti_c (v := 1) (a := 1) (by decide))]; omega), rfl, (fun _ => by rw [← hS]; exact fun k h1 h2 => x0 k h1 (by omega)), (by rw [show (1 : Int32).toInt = 1 from (ti_c (v := 1) (a := 1) (by decide))]; exact k6.symm.trans kf)⟩ hv dX8_isTold_55
        ·
          have k7 := if_f k4 (Int.not_le.mpr q5)
          refine go_aload_n (pc := 15) rfl dX8_isTold_15 ?_
          refine gi_getF (pc := 16) (q := 84) hv fL_X8_50 rfl (Nat.le_of_ble_eq_true rfl) rfl (hv.rf (by decide)) dX8_isTold_16 ?_
          refine go_aload_n (pc := 19) rfl dX8_isTold_19 ?_
          refine gi_getF (pc := 20) (q := 93) hv fL_X8_77 rfl (Nat.le_of_ble_eq_true rfl) rfl (hv.rf (by decide)) dX8_isTold_20 ?_
          refine go_bipush (pc := 23) (v := 40) (by decide) dX8_isTold_23 ?_
          refine go_aload_n (pc := 25) rfl dX8_isTold_25 ?_
          refine gi_get (pc := 26) (lo := 0) (hi := 1) hv fL_X8_187 rfl (Nat.le_of_ble_eq_true rfl) rfl rfl dX8_isTold_26 (fun v8 v8l v8u v8w => ?_)
          have v8r : v1 = h.2.1 70 6 := v1w
          have v8q : TI v8 v1.toInt := by rw [v8w.trans v8r.symm]; exact (ti_rfl v1)
          refine gf_imul (pc := 29) (ti_c (v := 40) (a := 40) (by decide)) v8q (by omega) (by omega) dX8_isTold_29 (fun v9 e10 => ?_)
          refine go_iload_n (pc := 30) rfl dX8_isTold_30 ?_
          refine gf_iadd (pc := 31) e10 (ti_rfl l1) (by omega) (by omega) dX8_isTold_31 (fun v11 e12 => ?_)
          refine gi_iald (pc := 32) (lo := 0) (hi := 259) (len := 80) hv e12 rfl (by omega) (by omega) (fun _ => rfl) dX8_isTold_32 (fun v13 v13l v13u v13w => ?_)
          have k14 := bd_e k7 (congrArg Int32.toInt v13w.symm)
          have v13V : v13.toInt = V h.2.1 93 (((40 * S) + l1.toInt)) := by rw [v13w, v1S]; rfl
          refine gi_iald (pc := 33) (lo := -2) (hi := 4) (len := 260) hv (ti_rfl v13) rfl (by omega) (by omega) (fun _ => rfl) dX8_isTold_33 (fun v15 v15l v15u v15w => ?_)
          have k16 := bd_e k14 (congrArg Int32.toInt v15w.symm)
          have v15V : v15.toInt = V h.2.1 84 v13.toInt := by rw [v15w]; rfl
          refine go_aload_n (pc := 34) rfl dX8_isTold_34 ?_
          refine gi_getF (pc := 35) (q := 76) hv fL_X8_26 rfl (Nat.le_of_ble_eq_true rfl) rfl (hv.rf (by decide)) dX8_isTold_35 ?_
          refine go_aload_n (pc := 38) rfl dX8_isTold_38 ?_
          refine gi_get (pc := 39) (lo := 0) (hi := 1) hv fL_X8_187 rfl (Nat.le_of_ble_eq_true rfl) rfl rfl dX8_isTold_39 (fun v17 v17l v17u v17w => ?_)
          have v17r : v1 = h.2.1 70 6 := v1w
          have v17q : TI v17 v1.toInt := by rw [v17w.trans v17r.symm]; exact (ti_rfl v1)
          refine gi_iald (pc := 42) (lo := 0) (hi := 5) (len := 2) hv v17q rfl (by omega) (by omega) (fun _ => rfl) dX8_isTold_42 (fun v18 v18l v18u v18w => ?_)
          have k19 := bd_e k16 (congrArg Int32.toInt v18w.symm)
          have v18V : v18.toInt = V h.2.1 76 S := by rw [v18w, v1S]; rfl
          refine gf_icmp_lt (pc := 43) (tgt := 48) (ti_rfl v15) (ti_rfl v18) (by decide) dX8_isTold_43 (fun q20 => ?_) (fun q20 => ?_)
          ·
            have k21 := if_t k19 q20
            refine gf_iinc (pc := 48) (Nat.le_of_ble_eq_true rfl) rfl (ti_rfl l1) (ti_c (by decide)) (by omega) (by omega) dX8_isTold_48 (fun v22 e23 => ?_)
            refine go_lv (lv2 := [(0, .ref 70), (1, .int v22)]) rfl ?_
            refine go_goto (pc := 51) (tgt := 2) (by decide) dX8_isTold_51 ?_
            have z24 : (v22 : Int32).toInt = (l1.toInt + 1) := e23
            exact go_lv rfl (ih v22  (by omega) (by omega) (fun k h1 h2 => by rcases Int.lt_or_eq_of_le (show k ≤ l1.toInt by omega) with q | q; (exact x0 k h1 q); (rw [q, ← v13V]; omega)) (by rw [show (v22 : Int32).toInt = (l1.toInt + 1) from e23]; exact k21) (by omega))
          ·
            have k25 := if_f k19 (Int.not_lt.mpr q20)
            refine go_iconst (pc := 46) (v := 0) (by decide) dX8_isTold_46 ?_
            exact gi_zret (pc := 47) (ti_c (v := 0) (a := 0) (by decide)) (by omega) (by omega) ⟨_, rfl, (by rw [show (0 : Int32).toInt = 0 from (ti_c (v := 0) (a := 0) (by decide))]; omega), (by rw [show (0 : Int32).toInt = 0 from (ti_c (v := 0) (a := 0) (by decide))]; omega), rfl, (by intro q; exact absurd q (by decide)), (by rw [show (0 : Int32).toInt = 0 from (ti_c (v := 0) (a := 0) (by decide))]; exact k25.symm.trans kf)⟩ hv dX8_isTold_47
  refine go_iconst (pc := 0) (v := 0) (by decide) dX8_isTold_0 ?_
  refine go_istore_n (pc := 1) (Nat.le_of_ble_eq_true rfl) dX8_isTold_1 (go_lv (lv2 := [(0, .ref 70), (1, .int 0)]) rfl ?_)
  have z26 : (0 : Int32).toInt = 0 := (ti_c (v := 0) (a := 0) (by decide))
  exact go_lv rfl ((key 139) 0  (by omega) (by omega) (fun k h1 h2 => absurd h2 (by omega)) (by rw [show (0 : Int32).toInt = 0 from (ti_c (v := 0) (a := 0) (by decide))]; exact k0) (by omega))

