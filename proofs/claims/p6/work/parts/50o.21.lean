
set_option maxHeartbeats 4000000 in
set_option maxRecDepth 100000 in
theorem s_X7_hangs_f (l : Launch) (d : Nat) {P : PP} {h : HP} (hv : Iv P h) (a2 : Int32) (a3 : Int32) : Mt l yX7_hangs cX7_hangs 3 (some .int) (d + 7) [.ref 0, .int a2, .int a3] h 0 0 (fun r h' => ∃ v : Int32, r = some (.int v) ∧ -2147483648 ≤ v.toInt ∧ v.toInt ≤ 2147483647 ∧ Iv P h' ∧ (FX KAc h h')) := by
  refine Mt_iv hv (by decide) (Nat.le_of_ble_eq_true rfl) ?_
  show Go l RX7 cX7_hangs 3 (g_rm (d + 7) 0 0) "hangs" (some .int) 117 0 0 (fun _ _ => True) (fun r h' => ∃ v : Int32, r = some (.int v) ∧ -2147483648 ≤ v.toInt ∧ v.toInt ≤ 2147483647 ∧ Iv P h' ∧ (FX KAc h h')) 0 0 [(0, .ref 0), (1, .int a2), (2, .int a3)] [] h
  have fx : FX KAc h h := FX.rfl
  have key : ∀ n : Nat, (∀  (hx : HP), Iv P hx → FX KAc h hx → (1 : Int) < n → Go l RX7 cX7_hangs 3 (g_rm (d + 7) 0 0) "hangs" (some .int) 117 0 0 (fun _ _ => True) (fun r h' => ∃ v : Int32, r = some (.int v) ∧ -2147483648 ≤ v.toInt ∧ v.toInt ≤ 2147483647 ∧ Iv P h' ∧ (FX KAc h h')) 0 16 [] [] hx) := by
    intro n
    induction n with
    | zero => exact (by intros; omega)
    | succ n ih =>
      refine ?_
      ·
        intro hx hvx fxx hm
        refine go_iconst (pc := 16) (v := 0) (by decide) dX7_hangs_16 ?_
        exact gi_iret (pc := 17) (ti_c (v := 0) (a := 0) (by decide)) ⟨_, rfl, (ti_lo _), (ti_hi _), hvx, fxx⟩ hvx dX7_hangs_17
  refine go_aload_n (pc := 0) rfl dX7_hangs_0 ?_
  refine go_iload_n (pc := 1) rfl dX7_hangs_1 ?_
  refine go_invV (pc := 2) (sl := 0) (s_X7_isStatement l (d + 5) hv a2) mL_X7_87 iM_X7_isStatement sM_X7_isStatement (hv.sh rfl) rfl rfl rfl (Nat.le_of_ble_eq_true rfl) (show d + 5 + 1 + 1 ≤ d + 7 by omega) (show 8 + (2 + 11) + 40 * (d + 5 + 1) ≤ 40 * (d + 7) by omega) (g_c0 hv.ln) (Nat.le_of_ble_eq_true rfl) dX7_hangs_2 ?_
  intro r h1 hq _
  obtain ⟨v2, rfl, v2l, v2u, rfl, f3⟩ := hq
  refine gf_if_eq (pc := 5) (tgt := 16) (ti_rfl v2) (by decide) dX7_hangs_5 (fun q4 => ?_) (fun q4 => ?_)
  ·
    exact go_lv rfl ((key 14)  h hv fx (by omega))
  ·
    refine go_aload_n (pc := 8) rfl dX7_hangs_8 ?_
    refine go_iload_n (pc := 9) rfl dX7_hangs_9 ?_
    refine go_invV (pc := 10) (sl := 0) (s_X7_isStatement l (d + 5) hv a3) mL_X7_87 iM_X7_isStatement sM_X7_isStatement (hv.sh rfl) rfl rfl rfl (Nat.le_of_ble_eq_true rfl) (show d + 5 + 1 + 1 ≤ d + 7 by omega) (show 8 + (2 + 11) + 40 * (d + 5 + 1) ≤ 40 * (d + 7) by omega) (g_c0 hv.ln) (Nat.le_of_ble_eq_true rfl) dX7_hangs_10 ?_
    intro r h5 hq _
    obtain ⟨v6, rfl, v6l, v6u, rfl, f7⟩ := hq
    refine gf_if_ne (pc := 13) (tgt := 18) (ti_rfl v6) (by decide) dX7_hangs_13 (fun q8 => ?_) (fun q8 => ?_)
    ·
      refine go_aload_n (pc := 18) rfl dX7_hangs_18 ?_
      refine gi_getF (pc := 19) (q := 49) hv fL_X7_42 rfl (Nat.le_of_ble_eq_true rfl) rfl (hv.rf (by decide)) dX7_hangs_19 ?_
      refine go_aload_n (pc := 22) rfl dX7_hangs_22 ?_
      refine gi_getC (pc := 23) hv fL_X7_23 rfl (Nat.le_of_ble_eq_true rfl) rfl (by decide) dX7_hangs_23 (fun c9 hc9 fc9 => ?_)
      refine go_invV (pc := 26) (sl := 0) (s_X4_prepare_f l (d + 0) hv c9 hc9) mL_X7_113 iM_X4_prepare sM_X4_prepare (hv.sh rfl) rfl rfl rfl (Nat.le_of_ble_eq_true rfl) (show d + 0 + 6 + 1 ≤ d + 7 by omega) (show 8 + (4 + 11) + 40 * (d + 0 + 6) ≤ 40 * (d + 7) by omega) (g_c0 hv.ln) (Nat.le_of_ble_eq_true rfl) dX7_hangs_26 ?_
      intro r h10 hq _
      obtain ⟨rfl, hv10, f11⟩ := hq
      have fx10 : FX KAc h h10 := FX.tr fx f11
      refine go_aload_n (pc := 29) rfl dX7_hangs_29 ?_
      refine gi_getF (pc := 30) (q := 49) hv10 fL_X7_42 rfl (Nat.le_of_ble_eq_true rfl) rfl (hv10.rf (by decide)) dX7_hangs_30 ?_
      refine gi_getF (pc := 33) (q := 57) hv10 fL_X7_116 rfl (Nat.le_of_ble_eq_true rfl) rfl (hv10.rf (by decide)) dX7_hangs_33 ?_
      refine go_iload_n (pc := 36) rfl dX7_hangs_36 ?_
      refine go_iload_n (pc := 37) rfl dX7_hangs_37 ?_
      refine go_invV (pc := 38) (sl := 0) (s_X1_kindsBetween l (d + 4) hv10 a2 (by rw [show (a2 : Int32).toInt = a2.toInt from (ti_rfl a2)]; omega) (by rw [show (a2 : Int32).toInt = a2.toInt from (ti_rfl a2)]; omega) a3) mL_X7_120 iM_X1_kindsBetween sM_X1_kindsBetween (hv10.sh rfl) rfl rfl rfl (Nat.le_of_ble_eq_true rfl) (show d + 4 + 2 + 1 ≤ d + 7 by omega) (show 8 + (3 + 11) + 40 * (d + 4 + 2) ≤ 40 * (d + 7) by omega) (g_c0 hv10.ln) (Nat.le_of_ble_eq_true rfl) dX7_hangs_38 ?_
      intro r h12 hq _
      obtain ⟨v13, rfl, v13l, v13u, rfl⟩ := hq
      exact gi_iret (pc := 41) (ti_rfl v13) ⟨_, rfl, (ti_lo _), (ti_hi _), hv10, fx10⟩ hv10 dX7_hangs_41
    ·
      exact go_lv rfl ((key 14)  h hv fx (by omega))
set_option maxHeartbeats 4000000 in
set_option maxRecDepth 100000 in
theorem s_X7_begun_f (l : Launch) (d : Nat) {P : PP} {h : HP} (hv : Iv P h) (a2 : Int32) : Mt l yX7_begun cX7_begun 2 (some .long) (d + 7) [.ref 0, .int a2] h 0 0 (fun r h' => ∃ v : Int64, r = some (.long v) ∧ Iv P h' ∧ (FX KAc h h')) := by
  refine Mt_iv hv (by decide) (Nat.le_of_ble_eq_true rfl) ?_
  show Go l RX7 cX7_begun 2 (g_rm (d + 7) 0 0) "begun" (some .long) 117 0 0 (fun _ _ => True) (fun r h' => ∃ v : Int64, r = some (.long v) ∧ Iv P h' ∧ (FX KAc h h')) 0 0 [(0, .ref 0), (1, .int a2)] [] h
  have fx : FX KAc h h := FX.rfl
  refine go_aload_n (pc := 0) rfl dX7_begun_0 ?_
  refine go_iload_n (pc := 1) rfl dX7_begun_1 ?_
  refine go_invV (pc := 2) (sl := 0) (s_X7_isProcedure l (d + 5) hv a2) mL_X7_126 iM_X7_isProcedure sM_X7_isProcedure (hv.sh rfl) rfl rfl rfl (Nat.le_of_ble_eq_true rfl) (show d + 5 + 1 + 1 ≤ d + 7 by omega) (show 8 + (2 + 11) + 40 * (d + 5 + 1) ≤ 40 * (d + 7) by omega) (g_c0 hv.ln) (Nat.le_of_ble_eq_true rfl) dX7_begun_2 ?_
  intro r h1 hq _
  obtain ⟨v2, rfl, v2l, v2u, rfl, f3⟩ := hq
  refine gf_if_ne (pc := 5) (tgt := 10) (ti_rfl v2) (by decide) dX7_begun_5 (fun q4 => ?_) (fun q4 => ?_)
  ·
    refine go_aload_n (pc := 10) rfl dX7_begun_10 ?_
    refine gi_getF (pc := 11) (q := 49) hv fL_X7_42 rfl (Nat.le_of_ble_eq_true rfl) rfl (hv.rf (by decide)) dX7_begun_11 ?_
    refine go_aload_n (pc := 14) rfl dX7_begun_14 ?_
    refine gi_getC (pc := 15) hv fL_X7_23 rfl (Nat.le_of_ble_eq_true rfl) rfl (by decide) dX7_begun_15 (fun c5 hc5 fc5 => ?_)
    refine go_invV (pc := 18) (sl := 0) (s_X4_prepare_f l (d + 0) hv c5 hc5) mL_X7_113 iM_X4_prepare sM_X4_prepare (hv.sh rfl) rfl rfl rfl (Nat.le_of_ble_eq_true rfl) (show d + 0 + 6 + 1 ≤ d + 7 by omega) (show 8 + (4 + 11) + 40 * (d + 0 + 6) ≤ 40 * (d + 7) by omega) (g_c0 hv.ln) (Nat.le_of_ble_eq_true rfl) dX7_begun_18 ?_
    intro r h6 hq _
    obtain ⟨rfl, hv6, f7⟩ := hq
    have fx6 : FX KAc h h6 := FX.tr fx f7
    refine go_aload_n (pc := 21) rfl dX7_begun_21 ?_
    refine gi_getF (pc := 22) (q := 49) hv6 fL_X7_42 rfl (Nat.le_of_ble_eq_true rfl) rfl (hv6.rf (by decide)) dX7_begun_22 ?_
    refine gi_getF (pc := 25) (q := 57) hv6 fL_X7_116 rfl (Nat.le_of_ble_eq_true rfl) rfl (hv6.rf (by decide)) dX7_begun_25 ?_
    refine gi_getF (pc := 28) (q := 61) hv6 fL_X7_129 rfl (Nat.le_of_ble_eq_true rfl) rfl (hv6.rf (by decide)) dX7_begun_28 ?_
    refine go_iload_n (pc := 31) rfl dX7_begun_31 ?_
    refine gi_lald (pc := 32) (len := 5) hv6 (ti_rfl a2) rfl (by omega) (by omega) dX7_begun_32 (fun v8 v8w => ?_)
    exact gi_lret (pc := 33) ⟨_, rfl, hv6, fx6⟩ hv6 dX7_begun_33
  ·
    refine go_lconst (pc := 8) (v := 0) (by decide) dX7_begun_8 ?_
    exact gi_lret (pc := 9) ⟨_, rfl, hv, fx⟩ hv dX7_begun_9
set_option maxHeartbeats 4000000 in
set_option maxRecDepth 100000 in
theorem s_X7_back_f (l : Launch) (d : Nat) {P : PP} {h : HP} (hv : Iv P h) (a2 : Int32) : Mt l yX7_back cX7_back 2 (some .long) (d + 7) [.ref 0, .int a2] h 0 0 (fun r h' => ∃ v : Int64, r = some (.long v) ∧ Iv P h' ∧ (FX KAc h h')) := by
  refine Mt_iv hv (by decide) (Nat.le_of_ble_eq_true rfl) ?_
  show Go l RX7 cX7_back 2 (g_rm (d + 7) 0 0) "back" (some .long) 117 0 0 (fun _ _ => True) (fun r h' => ∃ v : Int64, r = some (.long v) ∧ Iv P h' ∧ (FX KAc h h')) 0 0 [(0, .ref 0), (1, .int a2)] [] h
  have fx : FX KAc h h := FX.rfl
  refine go_aload_n (pc := 0) rfl dX7_back_0 ?_
  refine go_iload_n (pc := 1) rfl dX7_back_1 ?_
  refine go_invV (pc := 2) (sl := 0) (s_X7_isStatement l (d + 5) hv a2) mL_X7_87 iM_X7_isStatement sM_X7_isStatement (hv.sh rfl) rfl rfl rfl (Nat.le_of_ble_eq_true rfl) (show d + 5 + 1 + 1 ≤ d + 7 by omega) (show 8 + (2 + 11) + 40 * (d + 5 + 1) ≤ 40 * (d + 7) by omega) (g_c0 hv.ln) (Nat.le_of_ble_eq_true rfl) dX7_back_2 ?_
  intro r h1 hq _
  obtain ⟨v2, rfl, v2l, v2u, rfl, f3⟩ := hq
  refine gf_if_ne (pc := 5) (tgt := 12) (ti_rfl v2) (by decide) dX7_back_5 (fun q4 => ?_) (fun q4 => ?_)
  ·
    refine go_aload_n (pc := 12) rfl dX7_back_12 ?_
    refine gi_getF (pc := 13) (q := 49) hv fL_X7_42 rfl (Nat.le_of_ble_eq_true rfl) rfl (hv.rf (by decide)) dX7_back_13 ?_
    refine go_aload_n (pc := 16) rfl dX7_back_16 ?_
    refine gi_getC (pc := 17) hv fL_X7_23 rfl (Nat.le_of_ble_eq_true rfl) rfl (by decide) dX7_back_17 (fun c5 hc5 fc5 => ?_)
    refine go_invV (pc := 20) (sl := 0) (s_X4_prepare_f l (d + 0) hv c5 hc5) mL_X7_113 iM_X4_prepare sM_X4_prepare (hv.sh rfl) rfl rfl rfl (Nat.le_of_ble_eq_true rfl) (show d + 0 + 6 + 1 ≤ d + 7 by omega) (show 8 + (4 + 11) + 40 * (d + 0 + 6) ≤ 40 * (d + 7) by omega) (g_c0 hv.ln) (Nat.le_of_ble_eq_true rfl) dX7_back_20 ?_
    intro r h6 hq _
    obtain ⟨rfl, hv6, f7⟩ := hq
    have fx6 : FX KAc h h6 := FX.tr fx f7
    refine go_aload_n (pc := 23) rfl dX7_back_23 ?_
    refine gi_getF (pc := 24) (q := 49) hv6 fL_X7_42 rfl (Nat.le_of_ble_eq_true rfl) rfl (hv6.rf (by decide)) dX7_back_24 ?_
    refine go_iload_n (pc := 27) rfl dX7_back_27 ?_
    refine go_invV (pc := 28) (sl := 0) (s_X4_backFrom_f l (d + 1) hv6 a2 (by rw [show (a2 : Int32).toInt = a2.toInt from (ti_rfl a2)]; omega) (by rw [show (a2 : Int32).toInt = a2.toInt from (ti_rfl a2)]; omega)) mL_X7_142 iM_X4_backFrom sM_X4_backFrom (hv6.sh rfl) rfl rfl rfl (Nat.le_of_ble_eq_true rfl) (show d + 1 + 5 + 1 ≤ d + 7 by omega) (show 8 + (2 + 11) + 40 * (d + 1 + 5) ≤ 40 * (d + 7) by omega) (g_c0 hv6.ln) (Nat.le_of_ble_eq_true rfl) dX7_back_28 ?_
    intro r h8 hq _
    obtain ⟨v10, rfl, hv8, f9⟩ := hq
    have fx8 : FX KAc h h8 := FX.tr fx6 f9
    exact gi_lret (pc := 31) ⟨_, rfl, hv8, fx8⟩ hv8 dX7_back_31
  ·
    refine go_ldc2 (pc := 8) kL_X7_140 dX7_back_8 ?_
    exact gi_lret (pc := 11) ⟨_, rfl, hv, fx⟩ hv dX7_back_11
set_option maxHeartbeats 4000000 in
set_option maxRecDepth 100000 in
theorem s_X7_forth_f (l : Launch) (d : Nat) {P : PP} {h : HP} (hv : Iv P h) (a2 : Int32) : Mt l yX7_forth cX7_forth 2 (some .long) (d + 7) [.ref 0, .int a2] h 0 0 (fun r h' => ∃ v : Int64, r = some (.long v) ∧ Iv P h' ∧ (FX KAc h h')) := by
  refine Mt_iv hv (by decide) (Nat.le_of_ble_eq_true rfl) ?_
  show Go l RX7 cX7_forth 2 (g_rm (d + 7) 0 0) "forth" (some .long) 117 0 0 (fun _ _ => True) (fun r h' => ∃ v : Int64, r = some (.long v) ∧ Iv P h' ∧ (FX KAc h h')) 0 0 [(0, .ref 0), (1, .int a2)] [] h
  have fx : FX KAc h h := FX.rfl
  refine go_aload_n (pc := 0) rfl dX7_forth_0 ?_
  refine go_iload_n (pc := 1) rfl dX7_forth_1 ?_
  refine go_invV (pc := 2) (sl := 0) (s_X7_isStatement l (d + 5) hv a2) mL_X7_87 iM_X7_isStatement sM_X7_isStatement (hv.sh rfl) rfl rfl rfl (Nat.le_of_ble_eq_true rfl) (show d + 5 + 1 + 1 ≤ d + 7 by omega) (show 8 + (2 + 11) + 40 * (d + 5 + 1) ≤ 40 * (d + 7) by omega) (g_c0 hv.ln) (Nat.le_of_ble_eq_true rfl) dX7_forth_2 ?_
  intro r h1 hq _
  obtain ⟨v2, rfl, v2l, v2u, rfl, f3⟩ := hq
  refine gf_if_ne (pc := 5) (tgt := 12) (ti_rfl v2) (by decide) dX7_forth_5 (fun q4 => ?_) (fun q4 => ?_)
  ·
    refine go_aload_n (pc := 12) rfl dX7_forth_12 ?_
    refine gi_getF (pc := 13) (q := 49) hv fL_X7_42 rfl (Nat.le_of_ble_eq_true rfl) rfl (hv.rf (by decide)) dX7_forth_13 ?_
    refine go_aload_n (pc := 16) rfl dX7_forth_16 ?_
    refine gi_getC (pc := 17) hv fL_X7_23 rfl (Nat.le_of_ble_eq_true rfl) rfl (by decide) dX7_forth_17 (fun c5 hc5 fc5 => ?_)
    refine go_invV (pc := 20) (sl := 0) (s_X4_prepare_f l (d + 0) hv c5 hc5) mL_X7_113 iM_X4_prepare sM_X4_prepare (hv.sh rfl) rfl rfl rfl (Nat.le_of_ble_eq_true rfl) (show d + 0 + 6 + 1 ≤ d + 7 by omega) (show 8 + (4 + 11) + 40 * (d + 0 + 6) ≤ 40 * (d + 7) by omega) (g_c0 hv.ln) (Nat.le_of_ble_eq_true rfl) dX7_forth_20 ?_
    intro r h6 hq _
    obtain ⟨rfl, hv6, f7⟩ := hq
    have fx6 : FX KAc h h6 := FX.tr fx f7
    refine go_aload_n (pc := 23) rfl dX7_forth_23 ?_
    refine gi_getF (pc := 24) (q := 49) hv6 fL_X7_42 rfl (Nat.le_of_ble_eq_true rfl) rfl (hv6.rf (by decide)) dX7_forth_24 ?_
    refine go_iload_n (pc := 27) rfl dX7_forth_27 ?_
    refine go_invV (pc := 28) (sl := 0) (s_X4_forthFrom_f l (d + 0) hv6 a2) mL_X7_146 iM_X4_forthFrom sM_X4_forthFrom (hv6.sh rfl) rfl rfl rfl (Nat.le_of_ble_eq_true rfl) (show d + 0 + 6 + 1 ≤ d + 7 by omega) (show 8 + (5 + 11) + 40 * (d + 0 + 6) ≤ 40 * (d + 7) by omega) (g_c0 hv6.ln) (Nat.le_of_ble_eq_true rfl) dX7_forth_28 ?_
    intro r h8 hq _
    obtain ⟨v10, rfl, hv8, f9⟩ := hq
    have fx8 : FX KAc h h8 := FX.tr fx6 f9
    exact gi_lret (pc := 31) ⟨_, rfl, hv8, fx8⟩ hv8 dX7_forth_31
  ·
    refine go_ldc2 (pc := 8) kL_X7_140 dX7_forth_8 ?_
    exact gi_lret (pc := 11) ⟨_, rfl, hv, fx⟩ hv dX7_forth_11
set_option maxHeartbeats 4000000 in
set_option maxRecDepth 100000 in
theorem s_X7_between_f (l : Launch) (d : Nat) {P : PP} {h : HP} (hv : Iv P h) (a2 : Int32) (a3 : Int32) : Mt l yX7_between cX7_between 3 (some .long) (d + 7) [.ref 0, .int a2, .int a3] h 0 0 (fun r h' => ∃ v : Int64, r = some (.long v) ∧ Iv P h' ∧ (FX KAc h h')) := by
  refine Mt_iv hv (by decide) (Nat.le_of_ble_eq_true rfl) ?_
  show Go l RX7 cX7_between 3 (g_rm (d + 7) 0 0) "between" (some .long) 117 0 0 (fun _ _ => True) (fun r h' => ∃ v : Int64, r = some (.long v) ∧ Iv P h' ∧ (FX KAc h h')) 0 0 [(0, .ref 0), (1, .int a2), (2, .int a3)] [] h
  have fx : FX KAc h h := FX.rfl
  have key : ∀ n : Nat, (∀  (hx : HP), Iv P hx → FX KAc h hx → (1 : Int) < n → Go l RX7 cX7_between 3 (g_rm (d + 7) 0 0) "between" (some .long) 117 0 0 (fun _ _ => True) (fun r h' => ∃ v : Int64, r = some (.long v) ∧ Iv P h' ∧ (FX KAc h h')) 0 16 [] [] hx) := by
    intro n
    induction n with
    | zero => exact (by intros; omega)
    | succ n ih =>
      refine ?_
      ·
        intro hx hvx fxx hm
        refine go_ldc2 (pc := 16) kL_X7_140 dX7_between_16 ?_
        exact gi_lret (pc := 19) ⟨_, rfl, hvx, fxx⟩ hvx dX7_between_19
  refine go_aload_n (pc := 0) rfl dX7_between_0 ?_
  refine go_iload_n (pc := 1) rfl dX7_between_1 ?_
  refine go_invV (pc := 2) (sl := 0) (s_X7_isStatement l (d + 5) hv a2) mL_X7_87 iM_X7_isStatement sM_X7_isStatement (hv.sh rfl) rfl rfl rfl (Nat.le_of_ble_eq_true rfl) (show d + 5 + 1 + 1 ≤ d + 7 by omega) (show 8 + (2 + 11) + 40 * (d + 5 + 1) ≤ 40 * (d + 7) by omega) (g_c0 hv.ln) (Nat.le_of_ble_eq_true rfl) dX7_between_2 ?_
  intro r h1 hq _
  obtain ⟨v2, rfl, v2l, v2u, rfl, f3⟩ := hq
  refine gf_if_eq (pc := 5) (tgt := 16) (ti_rfl v2) (by decide) dX7_between_5 (fun q4 => ?_) (fun q4 => ?_)
  ·
    exact go_lv rfl ((key 14)  h hv fx (by omega))
  ·
    refine go_aload_n (pc := 8) rfl dX7_between_8 ?_
    refine go_iload_n (pc := 9) rfl dX7_between_9 ?_
    refine go_invV (pc := 10) (sl := 0) (s_X7_isStatement l (d + 5) hv a3) mL_X7_87 iM_X7_isStatement sM_X7_isStatement (hv.sh rfl) rfl rfl rfl (Nat.le_of_ble_eq_true rfl) (show d + 5 + 1 + 1 ≤ d + 7 by omega) (show 8 + (2 + 11) + 40 * (d + 5 + 1) ≤ 40 * (d + 7) by omega) (g_c0 hv.ln) (Nat.le_of_ble_eq_true rfl) dX7_between_10 ?_
    intro r h5 hq _
    obtain ⟨v6, rfl, v6l, v6u, rfl, f7⟩ := hq
    refine gf_if_ne (pc := 13) (tgt := 20) (ti_rfl v6) (by decide) dX7_between_13 (fun q8 => ?_) (fun q8 => ?_)
    ·
      refine go_aload_n (pc := 20) rfl dX7_between_20 ?_
      refine gi_getF (pc := 21) (q := 49) hv fL_X7_42 rfl (Nat.le_of_ble_eq_true rfl) rfl (hv.rf (by decide)) dX7_between_21 ?_
      refine go_aload_n (pc := 24) rfl dX7_between_24 ?_
      refine gi_getC (pc := 25) hv fL_X7_23 rfl (Nat.le_of_ble_eq_true rfl) rfl (by decide) dX7_between_25 (fun c9 hc9 fc9 => ?_)
      refine go_invV (pc := 28) (sl := 0) (s_X4_prepare_f l (d + 0) hv c9 hc9) mL_X7_113 iM_X4_prepare sM_X4_prepare (hv.sh rfl) rfl rfl rfl (Nat.le_of_ble_eq_true rfl) (show d + 0 + 6 + 1 ≤ d + 7 by omega) (show 8 + (4 + 11) + 40 * (d + 0 + 6) ≤ 40 * (d + 7) by omega) (g_c0 hv.ln) (Nat.le_of_ble_eq_true rfl) dX7_between_28 ?_
      intro r h10 hq _
      obtain ⟨rfl, hv10, f11⟩ := hq
      have fx10 : FX KAc h h10 := FX.tr fx f11
      refine go_aload_n (pc := 31) rfl dX7_between_31 ?_
      refine gi_getF (pc := 32) (q := 49) hv10 fL_X7_42 rfl (Nat.le_of_ble_eq_true rfl) rfl (hv10.rf (by decide)) dX7_between_32 ?_
      refine go_iload_n (pc := 35) rfl dX7_between_35 ?_
      refine go_invV (pc := 36) (sl := 0) (s_X4_forthFrom_f l (d + 0) hv10 a2) mL_X7_146 iM_X4_forthFrom sM_X4_forthFrom (hv10.sh rfl) rfl rfl rfl (Nat.le_of_ble_eq_true rfl) (show d + 0 + 6 + 1 ≤ d + 7 by omega) (show 8 + (5 + 11) + 40 * (d + 0 + 6) ≤ 40 * (d + 7) by omega) (g_c0 hv10.ln) (Nat.le_of_ble_eq_true rfl) dX7_between_36 ?_
      intro r h12 hq _
      obtain ⟨v14, rfl, hv12, f13⟩ := hq
      have fx12 : FX KAc h h12 := FX.tr fx10 f13
      refine go_aload_n (pc := 39) rfl dX7_between_39 ?_
      refine gi_getF (pc := 40) (q := 49) hv12 fL_X7_42 rfl (Nat.le_of_ble_eq_true rfl) rfl (hv12.rf (by decide)) dX7_between_40 ?_
      refine go_iload_n (pc := 43) rfl dX7_between_43 ?_
      refine go_invV (pc := 44) (sl := 0) (s_X4_backFrom_f l (d + 1) hv12 a3 (by rw [show (a3 : Int32).toInt = a3.toInt from (ti_rfl a3)]; omega) (by rw [show (a3 : Int32).toInt = a3.toInt from (ti_rfl a3)]; omega)) mL_X7_142 iM_X4_backFrom sM_X4_backFrom (hv12.sh rfl) rfl rfl rfl (Nat.le_of_ble_eq_true rfl) (show d + 1 + 5 + 1 ≤ d + 7 by omega) (show 8 + (2 + 11) + 40 * (d + 1 + 5) ≤ 40 * (d + 7) by omega) (g_c0 hv12.ln) (Nat.le_of_ble_eq_true rfl) dX7_between_44 ?_
      intro r h15 hq _
      obtain ⟨v17, rfl, hv15, f16⟩ := hq
      have fx15 : FX KAc h h15 := FX.tr fx12 f16
      refine gu_land (pc := 47) dX7_between_47 (fun v18 => ?_)
      exact gi_lret (pc := 48) ⟨_, rfl, hv15, fx15⟩ hv15 dX7_between_48
    ·
      exact go_lv rfl ((key 14)  h hv fx (by omega))
set_option maxHeartbeats 4000000 in
set_option maxRecDepth 100000 in
theorem s_X7_backOf_f (l : Launch) (d : Nat) {P : PP} {h : HP} (hv : Iv P h) (a2 : Int32) (a3 : Int32) : Mt l yX7_backOf cX7_backOf 3 (some .long) (d + 7) [.ref 0, .int a2, .int a3] h 0 0 (fun r h' => ∃ v : Int64, r = some (.long v) ∧ Iv P h' ∧ (FX KAc h h')) := by
  refine Mt_iv hv (by decide) (Nat.le_of_ble_eq_true rfl) ?_
  show Go l RX7 cX7_backOf 3 (g_rm (d + 7) 0 0) "backOf" (some .long) 117 0 0 (fun _ _ => True) (fun r h' => ∃ v : Int64, r = some (.long v) ∧ Iv P h' ∧ (FX KAc h h')) 0 0 [(0, .ref 0), (1, .int a2), (2, .int a3)] [] h
  have fx : FX KAc h h := FX.rfl
  have key : ∀ n : Nat, (∀  (hx : HP), Iv P hx → FX KAc h hx → (1 : Int) < n → Go l RX7 cX7_backOf 3 (g_rm (d + 7) 0 0) "backOf" (some .long) 117 0 0 (fun _ _ => True) (fun r h' => ∃ v : Int64, r = some (.long v) ∧ Iv P h' ∧ (FX KAc h h')) 0 15 [] [] hx) := by
    intro n
    induction n with
    | zero => exact (by intros; omega)
    | succ n ih =>
      refine ?_
      ·
        intro hx hvx fxx hm
        refine go_ldc2 (pc := 15) kL_X7_140 dX7_backOf_15 ?_
        exact gi_lret (pc := 18) ⟨_, rfl, hvx, fxx⟩ hvx dX7_backOf_18
  refine go_aload_n (pc := 0) rfl dX7_backOf_0 ?_
  refine go_iload_n (pc := 1) rfl dX7_backOf_1 ?_
  refine go_invV (pc := 2) (sl := 0) (s_X7_isProcedure l (d + 5) hv a2) mL_X7_126 iM_X7_isProcedure sM_X7_isProcedure (hv.sh rfl) rfl rfl rfl (Nat.le_of_ble_eq_true rfl) (show d + 5 + 1 + 1 ≤ d + 7 by omega) (show 8 + (2 + 11) + 40 * (d + 5 + 1) ≤ 40 * (d + 7) by omega) (g_c0 hv.ln) (Nat.le_of_ble_eq_true rfl) dX7_backOf_2 ?_
  intro r h1 hq _
  obtain ⟨v2, rfl, v2l, v2u, rfl, f3⟩ := hq
  refine gf_if_eq (pc := 5) (tgt := 15) (ti_rfl v2) (by decide) dX7_backOf_5 (fun q4 => ?_) (fun q4 => ?_)
  ·
    exact go_lv rfl ((key 14)  h hv fx (by omega))
  ·
    refine go_iload_n (pc := 8) rfl dX7_backOf_8 ?_
    refine go_invS (pc := 9) (sl := 0) (s_X7_isPort l (d + 5) hv a3) mL_X7_133 iM_X7_isPort rfl rfl (Nat.le_of_ble_eq_true rfl) (show d + 5 + 1 + 1 ≤ d + 7 by omega) (show 8 + (1 + 11) + 40 * (d + 5 + 1) ≤ 40 * (d + 7) by omega) (g_c0 hv.ln) (Nat.le_of_ble_eq_true rfl) dX7_backOf_9 ?_
    intro r h5 hq _
    obtain ⟨v6, rfl, v6l, v6u, rfl, f7⟩ := hq
    refine gf_if_ne (pc := 12) (tgt := 19) (ti_rfl v6) (by decide) dX7_backOf_12 (fun q8 => ?_) (fun q8 => ?_)
    ·
      refine go_aload_n (pc := 19) rfl dX7_backOf_19 ?_
      refine gi_getF (pc := 20) (q := 49) hv fL_X7_42 rfl (Nat.le_of_ble_eq_true rfl) rfl (hv.rf (by decide)) dX7_backOf_20 ?_
      refine go_aload_n (pc := 23) rfl dX7_backOf_23 ?_
      refine gi_getC (pc := 24) hv fL_X7_23 rfl (Nat.le_of_ble_eq_true rfl) rfl (by decide) dX7_backOf_24 (fun c9 hc9 fc9 => ?_)
      refine go_invV (pc := 27) (sl := 0) (s_X4_prepare_f l (d + 0) hv c9 hc9) mL_X7_113 iM_X4_prepare sM_X4_prepare (hv.sh rfl) rfl rfl rfl (Nat.le_of_ble_eq_true rfl) (show d + 0 + 6 + 1 ≤ d + 7 by omega) (show 8 + (4 + 11) + 40 * (d + 0 + 6) ≤ 40 * (d + 7) by omega) (g_c0 hv.ln) (Nat.le_of_ble_eq_true rfl) dX7_backOf_27 ?_
      intro r h10 hq _
      obtain ⟨rfl, hv10, f11⟩ := hq
      have fx10 : FX KAc h h10 := FX.tr fx f11
      refine go_aload_n (pc := 30) rfl dX7_backOf_30 ?_
      refine gi_getF (pc := 31) (q := 49) hv10 fL_X7_42 rfl (Nat.le_of_ble_eq_true rfl) rfl (hv10.rf (by decide)) dX7_backOf_31 ?_
      refine go_iload_n (pc := 34) rfl dX7_backOf_34 ?_
      refine go_iload_n (pc := 35) rfl dX7_backOf_35 ?_
      refine go_invV (pc := 36) (sl := 0) (s_X4_backFromOut_f l (d + 1) hv10 a2 (by rw [show (a2 : Int32).toInt = a2.toInt from (ti_rfl a2)]; omega) (by rw [show (a2 : Int32).toInt = a2.toInt from (ti_rfl a2)]; omega) a3 (by rw [show (a3 : Int32).toInt = a3.toInt from (ti_rfl a3)]; omega) (by rw [show (a3 : Int32).toInt = a3.toInt from (ti_rfl a3)]; omega)) mL_X7_149 iM_X4_backFromOut sM_X4_backFromOut (hv10.sh rfl) rfl rfl rfl (Nat.le_of_ble_eq_true rfl) (show d + 1 + 5 + 1 ≤ d + 7 by omega) (show 8 + (3 + 11) + 40 * (d + 1 + 5) ≤ 40 * (d + 7) by omega) (g_c0 hv10.ln) (Nat.le_of_ble_eq_true rfl) dX7_backOf_36 ?_
      intro r h12 hq _
      obtain ⟨v14, rfl, hv12, f13⟩ := hq
      have fx12 : FX KAc h h12 := FX.tr fx10 f13
      exact gi_lret (pc := 39) ⟨_, rfl, hv12, fx12⟩ hv12 dX7_backOf_39
    ·
      exact go_lv rfl ((key 14)  h hv fx (by omega))
set_option maxHeartbeats 4000000 in
set_option maxRecDepth 100000 in
theorem s_X7_kept_f (l : Launch) (d : Nat) {P : PP} {h : HP} (hv : Iv P h) (a2 : Int32) : Mt l yX7_kept cX7_kept 2 (some .long) (d + 7) [.ref 0, .int a2] h 0 0 (fun r h' => ∃ v : Int64, r = some (.long v) ∧ Iv P h' ∧ (FX KAc h h')) := by
  refine Mt_iv hv (by decide) (Nat.le_of_ble_eq_true rfl) ?_
  show Go l RX7 cX7_kept 2 (g_rm (d + 7) 0 0) "kept" (some .long) 117 0 0 (fun _ _ => True) (fun r h' => ∃ v : Int64, r = some (.long v) ∧ Iv P h' ∧ (FX KAc h h')) 0 0 [(0, .ref 0), (1, .int a2)] [] h
  have fx : FX KAc h h := FX.rfl
  refine go_aload_n (pc := 0) rfl dX7_kept_0 ?_
  refine go_iload_n (pc := 1) rfl dX7_kept_1 ?_
  refine go_invV (pc := 2) (sl := 0) (s_X7_isStatement l (d + 5) hv a2) mL_X7_87 iM_X7_isStatement sM_X7_isStatement (hv.sh rfl) rfl rfl rfl (Nat.le_of_ble_eq_true rfl) (show d + 5 + 1 + 1 ≤ d + 7 by omega) (show 8 + (2 + 11) + 40 * (d + 5 + 1) ≤ 40 * (d + 7) by omega) (g_c0 hv.ln) (Nat.le_of_ble_eq_true rfl) dX7_kept_2 ?_
  intro r h1 hq _
  obtain ⟨v2, rfl, v2l, v2u, rfl, f3⟩ := hq
  refine gf_if_ne (pc := 5) (tgt := 12) (ti_rfl v2) (by decide) dX7_kept_5 (fun q4 => ?_) (fun q4 => ?_)
  ·
    refine go_aload_n (pc := 12) rfl dX7_kept_12 ?_
    refine gi_getF (pc := 13) (q := 49) hv fL_X7_42 rfl (Nat.le_of_ble_eq_true rfl) rfl (hv.rf (by decide)) dX7_kept_13 ?_
    refine go_aload_n (pc := 16) rfl dX7_kept_16 ?_
    refine gi_getC (pc := 17) hv fL_X7_23 rfl (Nat.le_of_ble_eq_true rfl) rfl (by decide) dX7_kept_17 (fun c5 hc5 fc5 => ?_)
    refine go_invV (pc := 20) (sl := 0) (s_X4_prepare_f l (d + 0) hv c5 hc5) mL_X7_113 iM_X4_prepare sM_X4_prepare (hv.sh rfl) rfl rfl rfl (Nat.le_of_ble_eq_true rfl) (show d + 0 + 6 + 1 ≤ d + 7 by omega) (show 8 + (4 + 11) + 40 * (d + 0 + 6) ≤ 40 * (d + 7) by omega) (g_c0 hv.ln) (Nat.le_of_ble_eq_true rfl) dX7_kept_20 ?_
    intro r h6 hq _
    obtain ⟨rfl, hv6, f7⟩ := hq
    have fx6 : FX KAc h h6 := FX.tr fx f7
    refine go_aload_n (pc := 23) rfl dX7_kept_23 ?_
    refine gi_getF (pc := 24) (q := 49) hv6 fL_X7_42 rfl (Nat.le_of_ble_eq_true rfl) rfl (hv6.rf (by decide)) dX7_kept_24 ?_
    refine go_iload_n (pc := 27) rfl dX7_kept_27 ?_
    refine go_invV (pc := 28) (sl := 0) (s_X4_keptFor_f l (d + 0) hv6 a2 (by rw [show (a2 : Int32).toInt = a2.toInt from (ti_rfl a2)]; omega) (by rw [show (a2 : Int32).toInt = a2.toInt from (ti_rfl a2)]; omega)) mL_X7_153 iM_X4_keptFor sM_X4_keptFor (hv6.sh rfl) rfl rfl rfl (Nat.le_of_ble_eq_true rfl) (show d + 0 + 6 + 1 ≤ d + 7 by omega) (show 8 + (2 + 11) + 40 * (d + 0 + 6) ≤ 40 * (d + 7) by omega) (g_c0 hv6.ln) (Nat.le_of_ble_eq_true rfl) dX7_kept_28 ?_
    intro r h8 hq _
    obtain ⟨v10, rfl, hv8, f9⟩ := hq
    have fx8 : FX KAc h h8 := FX.tr fx6 f9
    exact gi_lret (pc := 31) ⟨_, rfl, hv8, fx8⟩ hv8 dX7_kept_31
  ·
    refine go_ldc2 (pc := 8) kL_X7_140 dX7_kept_8 ?_
    exact gi_lret (pc := 11) ⟨_, rfl, hv, fx⟩ hv dX7_kept_11
set_option maxHeartbeats 4000000 in
set_option maxRecDepth 100000 in
theorem s_X7_run_f (l : Launch) (d : Nat) {P : PP} {h : HP} (hv : Iv P h) (a2 : Int32) (a3 : Int32) : Mt l yX7_run cX7_run 3 (some .int) (d + 7) [.ref 0, .int a2, .int a3] h 0 0 (fun r h' => ∃ v : Int32, r = some (.int v) ∧ -2147483648 ≤ v.toInt ∧ v.toInt ≤ 2147483647 ∧ Iv P h' ∧ (FX KAc h h')) := by
  refine Mt_iv hv (by decide) (Nat.le_of_ble_eq_true rfl) ?_
  show Go l RX7 cX7_run 3 (g_rm (d + 7) 0 0) "run" (some .int) 117 0 0 (fun _ _ => True) (fun r h' => ∃ v : Int32, r = some (.int v) ∧ -2147483648 ≤ v.toInt ∧ v.toInt ≤ 2147483647 ∧ Iv P h' ∧ (FX KAc h h')) 0 0 [(0, .ref 0), (1, .int a2), (2, .int a3)] [] h
  have fx : FX KAc h h := FX.rfl
  refine go_aload_n (pc := 0) rfl dX7_run_0 ?_
  refine gi_getC (pc := 1) hv fL_X7_23 rfl (Nat.le_of_ble_eq_true rfl) rfl (by decide) dX7_run_1 (fun c1 hc1 fc1 => ?_)
  refine gi_get (pc := 4) (lo := 0) (hi := 5) hv fL_X7_68 (by rcases hc1 with rfl | rfl <;> rfl) (Nat.le_of_ble_eq_true rfl) rfl (by rcases hc1 with rfl | rfl <;> rfl) dX7_run_4 (fun v2 v2l v2u v2w => ?_)
  refine gf_if_ne (pc := 7) (tgt := 12) (ti_rfl v2) (by decide) dX7_run_7 (fun q3 => ?_) (fun q3 => ?_)
  ·
    refine go_aload_n (pc := 12) rfl dX7_run_12 ?_
    refine gi_getF (pc := 13) (q := 64) hv fL_X7_49 rfl (Nat.le_of_ble_eq_true rfl) rfl (hv.rf (by decide)) dX7_run_13 ?_
    refine go_aload_n (pc := 16) rfl dX7_run_16 ?_
    refine gi_getC (pc := 17) hv fL_X7_23 rfl (Nat.le_of_ble_eq_true rfl) rfl (by decide) dX7_run_17 (fun c4 hc4 fc4 => ?_)
    refine go_ldc2 (pc := 20) kL_X7_156 dX7_run_20 ?_
    refine go_iload_n (pc := 23) rfl dX7_run_23 ?_
    refine go_iload_n (pc := 24) rfl dX7_run_24 ?_
    refine go_invV (pc := 25) (sl := 0) (s_X2_play_f l (d + 0) hv c4 hc4 (1099511627775 : Int64) a2 a3) mL_X7_158 iM_X2_play sM_X2_play (hv.sh rfl) rfl rfl rfl (Nat.le_of_ble_eq_true rfl) (show d + 0 + 6 + 1 ≤ d + 7 by omega) (show 8 + (7 + 11) + 40 * (d + 0 + 6) ≤ 40 * (d + 7) by omega) (g_c0 hv.ln) (Nat.le_of_ble_eq_true rfl) dX7_run_25 ?_
    intro r h5 hq _
    obtain ⟨v7, rfl, v7l, v7u, hv5, f6⟩ := hq
    have fx5 : FX KAc h h5 := FX.tr fx f6
    exact gi_iret (pc := 28) (ti_rfl v7) ⟨_, rfl, (ti_lo _), (ti_hi _), hv5, fx5⟩ hv5 dX7_run_28
  ·
    refine go_iconst (pc := 10) (v := (-1)) (by decide) dX7_run_10 ?_
    exact gi_iret (pc := 11) (ti_c (v := (-1)) (a := (-1)) (by decide)) ⟨_, rfl, (ti_lo _), (ti_hi _), hv, fx⟩ hv dX7_run_11
set_option maxHeartbeats 4000000 in
set_option maxRecDepth 100000 in
theorem s_X7_runKept_f (l : Launch) (d : Nat) {P : PP} {h : HP} (hv : Iv P h) (a2 : Int32) (a3 : Int32) (a4 : Int32) : Mt l yX7_runKept cX7_runKept 4 (some .int) (d + 7) [.ref 0, .int a2, .int a3, .int a4] h 0 0 (fun r h' => ∃ v : Int32, r = some (.int v) ∧ -2147483648 ≤ v.toInt ∧ v.toInt ≤ 2147483647 ∧ Iv P h' ∧ (FX KAc h h')) := by
  refine Mt_iv hv (by decide) (Nat.le_of_ble_eq_true rfl) ?_
  show Go l RX7 cX7_runKept 4 (g_rm (d + 7) 0 0) "runKept" (some .int) 117 0 0 (fun _ _ => True) (fun r h' => ∃ v : Int32, r = some (.int v) ∧ -2147483648 ≤ v.toInt ∧ v.toInt ≤ 2147483647 ∧ Iv P h' ∧ (FX KAc h h')) 0 0 [(0, .ref 0), (1, .int a2), (2, .int a3), (3, .int a4)] [] h
  have fx : FX KAc h h := FX.rfl
  refine go_aload_n (pc := 0) rfl dX7_runKept_0 ?_
  refine go_iload_n (pc := 1) rfl dX7_runKept_1 ?_
  refine go_invV (pc := 2) (sl := 0) (s_X7_isStatement l (d + 5) hv a2) mL_X7_87 iM_X7_isStatement sM_X7_isStatement (hv.sh rfl) rfl rfl rfl (Nat.le_of_ble_eq_true rfl) (show d + 5 + 1 + 1 ≤ d + 7 by omega) (show 8 + (2 + 11) + 40 * (d + 5 + 1) ≤ 40 * (d + 7) by omega) (g_c0 hv.ln) (Nat.le_of_ble_eq_true rfl) dX7_runKept_2 ?_
  intro r h1 hq _
  obtain ⟨v2, rfl, v2l, v2u, rfl, f3⟩ := hq
  refine gf_if_ne (pc := 5) (tgt := 10) (ti_rfl v2) (by decide) dX7_runKept_5 (fun q4 => ?_) (fun q4 => ?_)
  ·
    refine go_aload_n (pc := 10) rfl dX7_runKept_10 ?_
    refine gi_getF (pc := 11) (q := 49) hv fL_X7_42 rfl (Nat.le_of_ble_eq_true rfl) rfl (hv.rf (by decide)) dX7_runKept_11 ?_
    refine go_aload_n (pc := 14) rfl dX7_runKept_14 ?_
    refine gi_getC (pc := 15) hv fL_X7_23 rfl (Nat.le_of_ble_eq_true rfl) rfl (by decide) dX7_runKept_15 (fun c5 hc5 fc5 => ?_)
    refine go_invV (pc := 18) (sl := 0) (s_X4_prepare_f l (d + 0) hv c5 hc5) mL_X7_113 iM_X4_prepare sM_X4_prepare (hv.sh rfl) rfl rfl rfl (Nat.le_of_ble_eq_true rfl) (show d + 0 + 6 + 1 ≤ d + 7 by omega) (show 8 + (4 + 11) + 40 * (d + 0 + 6) ≤ 40 * (d + 7) by omega) (g_c0 hv.ln) (Nat.le_of_ble_eq_true rfl) dX7_runKept_18 ?_
    intro r h6 hq _
    obtain ⟨rfl, hv6, f7⟩ := hq
    have fx6 : FX KAc h h6 := FX.tr fx f7
    refine go_aload_n (pc := 21) rfl dX7_runKept_21 ?_
    refine gi_getF (pc := 22) (q := 64) hv6 fL_X7_49 rfl (Nat.le_of_ble_eq_true rfl) rfl (hv6.rf (by decide)) dX7_runKept_22 ?_
    refine go_aload_n (pc := 25) rfl dX7_runKept_25 ?_
    refine gi_getC (pc := 26) hv6 fL_X7_23 rfl (Nat.le_of_ble_eq_true rfl) rfl (by decide) dX7_runKept_26 (fun c8 hc8 fc8 => ?_)
    refine go_aload_n (pc := 29) rfl dX7_runKept_29 ?_
    refine gi_getF (pc := 30) (q := 49) hv6 fL_X7_42 rfl (Nat.le_of_ble_eq_true rfl) rfl (hv6.rf (by decide)) dX7_runKept_30 ?_
    refine go_iload_n (pc := 33) rfl dX7_runKept_33 ?_
    refine go_invV (pc := 34) (sl := 0) (s_X4_keptFor_f l (d + 0) hv6 a2 (by rw [show (a2 : Int32).toInt = a2.toInt from (ti_rfl a2)]; omega) (by rw [show (a2 : Int32).toInt = a2.toInt from (ti_rfl a2)]; omega)) mL_X7_153 iM_X4_keptFor sM_X4_keptFor (hv6.sh rfl) rfl rfl rfl (Nat.le_of_ble_eq_true rfl) (show d + 0 + 6 + 1 ≤ d + 7 by omega) (show 8 + (2 + 11) + 40 * (d + 0 + 6) ≤ 40 * (d + 7) by omega) (g_c0 hv6.ln) (Nat.le_of_ble_eq_true rfl) dX7_runKept_34 ?_
    intro r h9 hq _
    obtain ⟨v11, rfl, hv9, f10⟩ := hq
    have fx9 : FX KAc h h9 := FX.tr fx6 f10
    refine go_iload_n (pc := 37) rfl dX7_runKept_37 ?_
    refine go_iload_n (pc := 38) rfl dX7_runKept_38 ?_
    refine go_invV (pc := 39) (sl := 0) (s_X2_play_f l (d + 0) hv9 c8 hc8 v11 a3 a4) mL_X7_158 iM_X2_play sM_X2_play (hv9.sh rfl) rfl rfl rfl (Nat.le_of_ble_eq_true rfl) (show d + 0 + 6 + 1 ≤ d + 7 by omega) (show 8 + (7 + 11) + 40 * (d + 0 + 6) ≤ 40 * (d + 7) by omega) (g_c0 hv9.ln) (Nat.le_of_ble_eq_true rfl) dX7_runKept_39 ?_
    intro r h12 hq _
    obtain ⟨v14, rfl, v14l, v14u, hv12, f13⟩ := hq
    have fx12 : FX KAc h h12 := FX.tr fx9 f13
    exact gi_iret (pc := 42) (ti_rfl v14) ⟨_, rfl, (ti_lo _), (ti_hi _), hv12, fx12⟩ hv12 dX7_runKept_42
  ·
    refine go_iconst (pc := 8) (v := (-1)) (by decide) dX7_runKept_8 ?_
    exact gi_iret (pc := 9) (ti_c (v := (-1)) (a := (-1)) (by decide)) ⟨_, rfl, (ti_lo _), (ti_hi _), hv, fx⟩ hv dX7_runKept_9
