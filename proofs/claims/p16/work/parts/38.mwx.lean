set_option maxHeartbeats 4000000 in
set_option maxRecDepth 100000 in
theorem s_X8_has_x (l : Launch) (d : Nat) {P : PP} {h : HP} (hv : Iv P h) (a1 : Int64) (a2 : Int32) (a2l : 0 ≤ a2.toInt) (a2u : a2.toInt ≤ 63) : Mt l yX8_has cX8_has 3 (some .boolean) (d + 1) [.long a1, .int a2] h 0 0 (fun r h' => ∃ v : Int32, r = some (.int v) ∧ 0 ≤ v.toInt ∧ v.toInt ≤ 1 ∧ h = h' ∧ ((v.toInt = 1 → bt a1 a2.toInt) ∧ (v.toInt = 0 → ¬ bt a1 a2.toInt))) := by
  refine Mt_iv hv (by decide) (Nat.le_of_ble_eq_true rfl) ?_
  show Go l RX8 cX8_has 3 (g_rm (d + 1) 0 0) "has" (some .boolean) 117 0 0 (fun _ _ => True) (fun r h' => ∃ v : Int32, r = some (.int v) ∧ 0 ≤ v.toInt ∧ v.toInt ≤ 1 ∧ h = h' ∧ ((v.toInt = 1 → bt a1 a2.toInt) ∧ (v.toInt = 0 → ¬ bt a1 a2.toInt))) 0 0 [(0, .long a1), (2, .int a2)] [] h
  refine go_lload_n (pc := 0) rfl dX8_has_0 ?_
  refine go_iload_n (pc := 1) rfl dX8_has_1 ?_
  refine gx_lshr (pc := 2) dX8_has_2 (fun v1 v1x => ?_)
  refine go_lconst (pc := 3) (v := 1) (by decide) dX8_has_3 ?_
  refine gx_land (pc := 4) dX8_has_4 (fun v2 v2x => ?_)
  refine go_lconst (pc := 5) (v := 1) (by decide) dX8_has_5 ?_
  refine gx_lcmp (pc := 6) dX8_has_6 (fun v3 v3x => ?_)
  refine gf_if_ne (pc := 7) (tgt := 14) (ti_rfl v3) (by decide) dX8_has_7 (fun q4 => ?_) (fun q4 => ?_)
  ·
    refine go_iconst (pc := 14) (v := 0) (by decide) dX8_has_14 ?_
    exact gi_zret (pc := 15) (ti_c (v := 0) (a := 0) (by decide)) (by omega) (by omega) ⟨_, rfl, (by rw [show (0 : Int32).toInt = 0 from (ti_c (v := 0) (a := 0) (by decide))]; omega), (by rw [show (0 : Int32).toInt = 0 from (ti_c (v := 0) (a := 0) (by decide))]; omega), rfl, ⟨fun q => absurd q (by decide), fun _ q => absurd (show (v3 : Int32).toInt = 0 from by rw [v3x]; exact (cmp_eq v2 1).mpr (by rw [v2x, v1x]; exact (has_bit (by omega) (by omega)).mpr q)) (by omega)⟩⟩ hv dX8_has_15
  ·
    refine go_iconst (pc := 10) (v := 1) (by decide) dX8_has_10 ?_
    refine go_goto (pc := 11) (tgt := 15) (by decide) dX8_has_11 ?_
    exact gi_zret (pc := 15) (ti_c (v := 1) (a := 1) (by decide)) (by omega) (by omega) ⟨_, rfl, (by rw [show (1 : Int32).toInt = 1 from (ti_c (v := 1) (a := 1) (by decide))]; omega), (by rw [show (1 : Int32).toInt = 1 from (ti_c (v := 1) (a := 1) (by decide))]; omega), rfl, ⟨fun _ => by have e := (cmp_eq v2 1).mp (by rw [← v3x]; omega); rw [v2x, v1x] at e; exact (has_bit (by omega) (by omega)).mp e, fun q => absurd q (by decide)⟩⟩ hv dX8_has_15
set_option maxHeartbeats 4000000 in
set_option maxRecDepth 100000 in
theorem s_X8_isReturning_x (l : Launch) (d : Nat) {P : PP} {h : HP} (hv : Iv P h) (a2 : Int32) (a2l : 0 ≤ a2.toInt) (a2u : a2.toInt ≤ 39) (ckf : CKF h.2.1) : Mt l yX8_isReturning cX8_isReturning 2 (some .boolean) (d + 3) [.ref 70, .int a2] h 0 0 (fun r h' => ∃ v : Int32, r = some (.int v) ∧ 0 ≤ v.toInt ∧ v.toInt ≤ 1 ∧ h = h' ∧ ((v.toInt = 1 → V h.2.1 77 (V h.2.1 93 (40 * (h.2.1 70 6).toInt + a2.toInt)) = 1 ∧ V h.2.1 101 (5 * (h.2.1 70 6).toInt + V h.2.1 84 (V h.2.1 93 (40 * (h.2.1 70 6).toInt + a2.toInt))) = 1) ∧ (v.toInt = 0 → ¬ (V h.2.1 77 (V h.2.1 93 (40 * (h.2.1 70 6).toInt + a2.toInt)) = 1 ∧ V h.2.1 101 (5 * (h.2.1 70 6).toInt + V h.2.1 84 (V h.2.1 93 (40 * (h.2.1 70 6).toInt + a2.toInt))) = 1)))) := by
  refine Mt_iv hv (by decide) (Nat.le_of_ble_eq_true rfl) ?_
  show Go l RX8 cX8_isReturning 2 (g_rm (d + 3) 0 0) "isReturning" (some .boolean) 117 0 0 (fun _ _ => True) (fun r h' => ∃ v : Int32, r = some (.int v) ∧ 0 ≤ v.toInt ∧ v.toInt ≤ 1 ∧ h = h' ∧ ((v.toInt = 1 → V h.2.1 77 (V h.2.1 93 (40 * (h.2.1 70 6).toInt + a2.toInt)) = 1 ∧ V h.2.1 101 (5 * (h.2.1 70 6).toInt + V h.2.1 84 (V h.2.1 93 (40 * (h.2.1 70 6).toInt + a2.toInt))) = 1) ∧ (v.toInt = 0 → ¬ (V h.2.1 77 (V h.2.1 93 (40 * (h.2.1 70 6).toInt + a2.toInt)) = 1 ∧ V h.2.1 101 (5 * (h.2.1 70 6).toInt + V h.2.1 84 (V h.2.1 93 (40 * (h.2.1 70 6).toInt + a2.toInt))) = 1)))) 0 0 [(0, .ref 70), (1, .int a2)] [] h
  obtain ⟨S, hS⟩ : ∃ S : Int, S = (h.2.1 70 6).toInt := ⟨_, rfl⟩
  have S0 : 0 ≤ S := by rw [hS]; exact (hv.2.1 70 6).1
  have S1 : S ≤ 1 := by rw [hS]; exact (hv.2.1 70 6).2
  refine go_aload_n (pc := 0) rfl dX8_isReturning_0 ?_
  refine go_iload_n (pc := 1) rfl dX8_isReturning_1 ?_
  refine go_invV (pc := 2) (sl := 0) (s_X8_kindAt l (d + 0) hv a2 (by rw [show (a2 : Int32).toInt = a2.toInt from (ti_rfl a2)]; omega) (by rw [show (a2 : Int32).toInt = a2.toInt from (ti_rfl a2)]; omega)) mL_X8_271 iM_X8_kindAt sM_X8_kindAt (hv.sh rfl) rfl rfl rfl (Nat.le_of_ble_eq_true rfl) (show d + 0 + 2 + 1 ≤ d + 3 by omega) (show 8 + (2 + 11) + 40 * (d + 0 + 2) ≤ 40 * (d + 3) by omega) (g_c0 hv.ln) (Nat.le_of_ble_eq_true rfl) dX8_isReturning_2 ?_
  intro r h1 hq _
  obtain ⟨v3, rfl, v3l, v3u, rfl, f2⟩ := hq
  have v3K : v3.toInt = V h.2.1 77 (V h.2.1 93 (40 * S + a2.toInt)) := by rw [f2]; unfold g_kd g_it; rw [← hS]; rfl
  refine go_iconst (pc := 5) (v := 1) (by decide) dX8_isReturning_5 ?_
  refine gf_icmp_ne (pc := 6) (tgt := 38) (ti_rfl v3) (ti_c (v := 1) (a := 1) (by decide)) (by decide) dX8_isReturning_6 (fun q4 => ?_) (fun q4 => ?_)
  ·
    refine go_iconst (pc := 38) (v := 0) (by decide) dX8_isReturning_38 ?_
    exact gi_zret (pc := 39) (ti_c (v := 0) (a := 0) (by decide)) (by omega) (by omega) ⟨_, rfl, (by rw [show (0 : Int32).toInt = 0 from (ti_c (v := 0) (a := 0) (by decide))]; omega), (by rw [show (0 : Int32).toInt = 0 from (ti_c (v := 0) (a := 0) (by decide))]; omega), rfl, (by rw [← hS]; exact ⟨fun q => absurd q (by decide), fun _ q => by omega⟩)⟩ hv dX8_isReturning_39
  ·
    refine go_aload_n (pc := 9) rfl dX8_isReturning_9 ?_
    refine gi_getF (pc := 10) (q := 101) hv fL_X8_101 rfl (Nat.le_of_ble_eq_true rfl) rfl (hv.rf (by decide)) dX8_isReturning_10 ?_
    refine go_iconst (pc := 13) (v := 5) (by decide) dX8_isReturning_13 ?_
    refine go_aload_n (pc := 14) rfl dX8_isReturning_14 ?_
    refine gi_get (pc := 15) (lo := 0) (hi := 1) hv fL_X8_187 rfl (Nat.le_of_ble_eq_true rfl) rfl rfl dX8_isReturning_15 (fun v5 v5l v5u v5w => ?_)
    have v5S : v5.toInt = S := by rw [v5w, hv.fy (j := 6) (by omega), ← hv.fy (j := 6) (by omega)]; exact hS.symm
    refine gf_imul (pc := 18) (ti_c (v := 5) (a := 5) (by decide)) (ti_rfl v5) (by omega) (by omega) dX8_isReturning_18 (fun v6 e7 => ?_)
    refine go_aload_n (pc := 19) rfl dX8_isReturning_19 ?_
    refine gi_getF (pc := 20) (q := 84) hv fL_X8_50 rfl (Nat.le_of_ble_eq_true rfl) rfl (hv.rf (by decide)) dX8_isReturning_20 ?_
    refine go_aload_n (pc := 23) rfl dX8_isReturning_23 ?_
    refine go_iload_n (pc := 24) rfl dX8_isReturning_24 ?_
    refine go_invV (pc := 25) (sl := 0) (s_X8_item l (d + 1) hv a2 (by rw [show (a2 : Int32).toInt = a2.toInt from (ti_rfl a2)]; omega) (by rw [show (a2 : Int32).toInt = a2.toInt from (ti_rfl a2)]; omega)) mL_X8_268 iM_X8_item sM_X8_item (hv.sh rfl) rfl rfl rfl (Nat.le_of_ble_eq_true rfl) (show d + 1 + 1 + 1 ≤ d + 3 by omega) (show 8 + (2 + 11) + 40 * (d + 1 + 1) ≤ 40 * (d + 3) by omega) (g_c0 hv.ln) (Nat.le_of_ble_eq_true rfl) dX8_isReturning_25 ?_
    intro r h8 hq _
    obtain ⟨v10, rfl, v10l, v10u, rfl, f9⟩ := hq
    have v10K : v10.toInt = V h.2.1 93 (40 * S + a2.toInt) := by rw [f9]; unfold g_it; rw [← hS]; rfl
    refine gi_iald (pc := 28) (lo := -2) (hi := 4) (len := 260) hv (ti_rfl v10) rfl (by omega) (by omega) (fun _ => rfl) dX8_isReturning_28 (fun v11 v11l v11u v11w => ?_)
    have v11V : v11.toInt = V h.2.1 84 v10.toInt := by rw [v11w]; rfl
    have kk : 0 ≤ v11.toInt := by
      rw [v11w]
      refine ckf _ ?_
      have e : v3.toInt = V h.2.1 77 (V h.2.1 93 (40 * S + a2.toInt)) := v3K
      rw [← v10K] at e
      exact (show V h.2.1 77 v10.toInt = 1 by omega)
    refine gf_iadd (pc := 29) e7 (ti_rfl v11) (by omega) (by omega) dX8_isReturning_29 (fun v12 e13 => ?_)
    refine gi_zald (pc := 30) (lo := 0) (hi := 1) (len := 10) hv e13 rfl (by omega) (by omega) (fun _ => rfl) dX8_isReturning_30 (fun v14 v14l v14u v14w => ?_)
    have v14V : v14.toInt = V h.2.1 101 (((5 * S) + v11.toInt)) := by rw [v14w, v5S]; rfl
    refine gf_if_eq (pc := 31) (tgt := 38) (ti_rfl v14) (by decide) dX8_isReturning_31 (fun q15 => ?_) (fun q15 => ?_)
    ·
      refine go_iconst (pc := 38) (v := 0) (by decide) dX8_isReturning_38 ?_
      exact gi_zret (pc := 39) (ti_c (v := 0) (a := 0) (by decide)) (by omega) (by omega) ⟨_, rfl, (by rw [show (0 : Int32).toInt = 0 from (ti_c (v := 0) (a := 0) (by decide))]; omega), (by rw [show (0 : Int32).toInt = 0 from (ti_c (v := 0) (a := 0) (by decide))]; omega), rfl, (by rw [← hS]; have kq := v3K; rw [← v10K] at kq ⊢; rw [← v11V]; exact ⟨fun q => absurd q (by decide), fun _ q => by omega⟩)⟩ hv dX8_isReturning_39
    ·
      refine go_iconst (pc := 34) (v := 1) (by decide) dX8_isReturning_34 ?_
      refine go_goto (pc := 35) (tgt := 39) (by decide) dX8_isReturning_35 ?_
      exact gi_zret (pc := 39) (ti_c (v := 1) (a := 1) (by decide)) (by omega) (by omega) ⟨_, rfl, (by rw [show (1 : Int32).toInt = 1 from (ti_c (v := 1) (a := 1) (by decide))]; omega), (by rw [show (1 : Int32).toInt = 1 from (ti_c (v := 1) (a := 1) (by decide))]; omega), rfl, (by rw [← hS]; have kq := v3K; rw [← v10K] at kq ⊢; rw [← v11V]; exact ⟨fun _ => by omega, fun q => absurd q (by decide)⟩)⟩ hv dX8_isReturning_39
set_option maxHeartbeats 4000000 in
set_option maxRecDepth 100000 in
theorem s_X8_isThrowing_x (l : Launch) (d : Nat) {P : PP} {h : HP} (hv : Iv P h) (a2 : Int32) (a2l : 0 ≤ a2.toInt) (a2u : a2.toInt ≤ 39) (ckf : CKF h.2.1) : Mt l yX8_isThrowing cX8_isThrowing 2 (some .boolean) (d + 3) [.ref 70, .int a2] h 0 0 (fun r h' => ∃ v : Int32, r = some (.int v) ∧ 0 ≤ v.toInt ∧ v.toInt ≤ 1 ∧ h = h' ∧ ((v.toInt = 1 → V h.2.1 77 (V h.2.1 93 (40 * (h.2.1 70 6).toInt + a2.toInt)) = 1 ∧ V h.2.1 102 (5 * (h.2.1 70 6).toInt + V h.2.1 84 (V h.2.1 93 (40 * (h.2.1 70 6).toInt + a2.toInt))) = 1) ∧ (v.toInt = 0 → ¬ (V h.2.1 77 (V h.2.1 93 (40 * (h.2.1 70 6).toInt + a2.toInt)) = 1 ∧ V h.2.1 102 (5 * (h.2.1 70 6).toInt + V h.2.1 84 (V h.2.1 93 (40 * (h.2.1 70 6).toInt + a2.toInt))) = 1)))) := by
  refine Mt_iv hv (by decide) (Nat.le_of_ble_eq_true rfl) ?_
  show Go l RX8 cX8_isThrowing 2 (g_rm (d + 3) 0 0) "isThrowing" (some .boolean) 117 0 0 (fun _ _ => True) (fun r h' => ∃ v : Int32, r = some (.int v) ∧ 0 ≤ v.toInt ∧ v.toInt ≤ 1 ∧ h = h' ∧ ((v.toInt = 1 → V h.2.1 77 (V h.2.1 93 (40 * (h.2.1 70 6).toInt + a2.toInt)) = 1 ∧ V h.2.1 102 (5 * (h.2.1 70 6).toInt + V h.2.1 84 (V h.2.1 93 (40 * (h.2.1 70 6).toInt + a2.toInt))) = 1) ∧ (v.toInt = 0 → ¬ (V h.2.1 77 (V h.2.1 93 (40 * (h.2.1 70 6).toInt + a2.toInt)) = 1 ∧ V h.2.1 102 (5 * (h.2.1 70 6).toInt + V h.2.1 84 (V h.2.1 93 (40 * (h.2.1 70 6).toInt + a2.toInt))) = 1)))) 0 0 [(0, .ref 70), (1, .int a2)] [] h
  obtain ⟨S, hS⟩ : ∃ S : Int, S = (h.2.1 70 6).toInt := ⟨_, rfl⟩
  have S0 : 0 ≤ S := by rw [hS]; exact (hv.2.1 70 6).1
  have S1 : S ≤ 1 := by rw [hS]; exact (hv.2.1 70 6).2
  refine go_aload_n (pc := 0) rfl dX8_isThrowing_0 ?_
  refine go_iload_n (pc := 1) rfl dX8_isThrowing_1 ?_
  refine go_invV (pc := 2) (sl := 0) (s_X8_kindAt l (d + 0) hv a2 (by rw [show (a2 : Int32).toInt = a2.toInt from (ti_rfl a2)]; omega) (by rw [show (a2 : Int32).toInt = a2.toInt from (ti_rfl a2)]; omega)) mL_X8_271 iM_X8_kindAt sM_X8_kindAt (hv.sh rfl) rfl rfl rfl (Nat.le_of_ble_eq_true rfl) (show d + 0 + 2 + 1 ≤ d + 3 by omega) (show 8 + (2 + 11) + 40 * (d + 0 + 2) ≤ 40 * (d + 3) by omega) (g_c0 hv.ln) (Nat.le_of_ble_eq_true rfl) dX8_isThrowing_2 ?_
  intro r h1 hq _
  obtain ⟨v3, rfl, v3l, v3u, rfl, f2⟩ := hq
  have v3K : v3.toInt = V h.2.1 77 (V h.2.1 93 (40 * S + a2.toInt)) := by rw [f2]; unfold g_kd g_it; rw [← hS]; rfl
  refine go_iconst (pc := 5) (v := 1) (by decide) dX8_isThrowing_5 ?_
  refine gf_icmp_ne (pc := 6) (tgt := 38) (ti_rfl v3) (ti_c (v := 1) (a := 1) (by decide)) (by decide) dX8_isThrowing_6 (fun q4 => ?_) (fun q4 => ?_)
  ·
    refine go_iconst (pc := 38) (v := 0) (by decide) dX8_isThrowing_38 ?_
    exact gi_zret (pc := 39) (ti_c (v := 0) (a := 0) (by decide)) (by omega) (by omega) ⟨_, rfl, (by rw [show (0 : Int32).toInt = 0 from (ti_c (v := 0) (a := 0) (by decide))]; omega), (by rw [show (0 : Int32).toInt = 0 from (ti_c (v := 0) (a := 0) (by decide))]; omega), rfl, (by rw [← hS]; exact ⟨fun q => absurd q (by decide), fun _ q => by omega⟩)⟩ hv dX8_isThrowing_39
  ·
    refine go_aload_n (pc := 9) rfl dX8_isThrowing_9 ?_
    refine gi_getF (pc := 10) (q := 102) hv fL_X8_105 rfl (Nat.le_of_ble_eq_true rfl) rfl (hv.rf (by decide)) dX8_isThrowing_10 ?_
    refine go_iconst (pc := 13) (v := 5) (by decide) dX8_isThrowing_13 ?_
    refine go_aload_n (pc := 14) rfl dX8_isThrowing_14 ?_
    refine gi_get (pc := 15) (lo := 0) (hi := 1) hv fL_X8_187 rfl (Nat.le_of_ble_eq_true rfl) rfl rfl dX8_isThrowing_15 (fun v5 v5l v5u v5w => ?_)
    have v5S : v5.toInt = S := by rw [v5w, hv.fy (j := 6) (by omega), ← hv.fy (j := 6) (by omega)]; exact hS.symm
    refine gf_imul (pc := 18) (ti_c (v := 5) (a := 5) (by decide)) (ti_rfl v5) (by omega) (by omega) dX8_isThrowing_18 (fun v6 e7 => ?_)
    refine go_aload_n (pc := 19) rfl dX8_isThrowing_19 ?_
    refine gi_getF (pc := 20) (q := 84) hv fL_X8_50 rfl (Nat.le_of_ble_eq_true rfl) rfl (hv.rf (by decide)) dX8_isThrowing_20 ?_
    refine go_aload_n (pc := 23) rfl dX8_isThrowing_23 ?_
    refine go_iload_n (pc := 24) rfl dX8_isThrowing_24 ?_
    refine go_invV (pc := 25) (sl := 0) (s_X8_item l (d + 1) hv a2 (by rw [show (a2 : Int32).toInt = a2.toInt from (ti_rfl a2)]; omega) (by rw [show (a2 : Int32).toInt = a2.toInt from (ti_rfl a2)]; omega)) mL_X8_268 iM_X8_item sM_X8_item (hv.sh rfl) rfl rfl rfl (Nat.le_of_ble_eq_true rfl) (show d + 1 + 1 + 1 ≤ d + 3 by omega) (show 8 + (2 + 11) + 40 * (d + 1 + 1) ≤ 40 * (d + 3) by omega) (g_c0 hv.ln) (Nat.le_of_ble_eq_true rfl) dX8_isThrowing_25 ?_
    intro r h8 hq _
    obtain ⟨v10, rfl, v10l, v10u, rfl, f9⟩ := hq
    have v10K : v10.toInt = V h.2.1 93 (40 * S + a2.toInt) := by rw [f9]; unfold g_it; rw [← hS]; rfl
    refine gi_iald (pc := 28) (lo := -2) (hi := 4) (len := 260) hv (ti_rfl v10) rfl (by omega) (by omega) (fun _ => rfl) dX8_isThrowing_28 (fun v11 v11l v11u v11w => ?_)
    have v11V : v11.toInt = V h.2.1 84 v10.toInt := by rw [v11w]; rfl
    have kk : 0 ≤ v11.toInt := by
      rw [v11w]
      refine ckf _ ?_
      have e : v3.toInt = V h.2.1 77 (V h.2.1 93 (40 * S + a2.toInt)) := v3K
      rw [← v10K] at e
      exact (show V h.2.1 77 v10.toInt = 1 by omega)
    refine gf_iadd (pc := 29) e7 (ti_rfl v11) (by omega) (by omega) dX8_isThrowing_29 (fun v12 e13 => ?_)
    refine gi_zald (pc := 30) (lo := 0) (hi := 1) (len := 10) hv e13 rfl (by omega) (by omega) (fun _ => rfl) dX8_isThrowing_30 (fun v14 v14l v14u v14w => ?_)
    have v14V : v14.toInt = V h.2.1 102 (((5 * S) + v11.toInt)) := by rw [v14w, v5S]; rfl
    refine gf_if_eq (pc := 31) (tgt := 38) (ti_rfl v14) (by decide) dX8_isThrowing_31 (fun q15 => ?_) (fun q15 => ?_)
    ·
      refine go_iconst (pc := 38) (v := 0) (by decide) dX8_isThrowing_38 ?_
      exact gi_zret (pc := 39) (ti_c (v := 0) (a := 0) (by decide)) (by omega) (by omega) ⟨_, rfl, (by rw [show (0 : Int32).toInt = 0 from (ti_c (v := 0) (a := 0) (by decide))]; omega), (by rw [show (0 : Int32).toInt = 0 from (ti_c (v := 0) (a := 0) (by decide))]; omega), rfl, (by rw [← hS]; have kq := v3K; rw [← v10K] at kq ⊢; rw [← v11V]; exact ⟨fun q => absurd q (by decide), fun _ q => by omega⟩)⟩ hv dX8_isThrowing_39
    ·
      refine go_iconst (pc := 34) (v := 1) (by decide) dX8_isThrowing_34 ?_
      refine go_goto (pc := 35) (tgt := 39) (by decide) dX8_isThrowing_35 ?_
      exact gi_zret (pc := 39) (ti_c (v := 1) (a := 1) (by decide)) (by omega) (by omega) ⟨_, rfl, (by rw [show (1 : Int32).toInt = 1 from (ti_c (v := 1) (a := 1) (by decide))]; omega), (by rw [show (1 : Int32).toInt = 1 from (ti_c (v := 1) (a := 1) (by decide))]; omega), rfl, (by rw [← hS]; have kq := v3K; rw [← v10K] at kq ⊢; rw [← v11V]; exact ⟨fun _ => by omega, fun q => absurd q (by decide)⟩)⟩ hv dX8_isThrowing_39
set_option maxHeartbeats 4000000 in
set_option maxRecDepth 100000 in
theorem s_X8_way_x (l : Launch) (d : Nat) {P : PP} {h : HP} (hv : Iv P h) (a2 : Int32) (a2l : 0 ≤ a2.toInt) (a2u : a2.toInt ≤ 39) (a3 : Int32) (a3l : 0 ≤ a3.toInt) (a3u : a3.toInt ≤ 1) (ckf : CKF h.2.1) : Mt l yX8_way cX8_way 4 (some .int) (d + 4) [.ref 70, .int a2, .int a3] h 0 0 (fun r h' => ∃ v : Int32, r = some (.int v) ∧ -2 ≤ v.toInt ∧ v.toInt ≤ 39 ∧ h = h' ∧ (v.toInt = wy h.2.1 (h.2.1 70 6).toInt a2.toInt a3.toInt)) := by
  refine Mt_iv hv (by decide) (Nat.le_of_ble_eq_true rfl) ?_
  show Go l RX8 cX8_way 4 (g_rm (d + 4) 0 0) "way" (some .int) 117 0 0 (fun _ _ => True) (fun r h' => ∃ v : Int32, r = some (.int v) ∧ -2 ≤ v.toInt ∧ v.toInt ≤ 39 ∧ h = h' ∧ (v.toInt = wy h.2.1 (h.2.1 70 6).toInt a2.toInt a3.toInt)) 0 0 [(0, .ref 70), (1, .int a2), (2, .int a3)] [] h
  obtain ⟨S, hS⟩ : ∃ S : Int, S = (h.2.1 70 6).toInt := ⟨_, rfl⟩
  have S0 : 0 ≤ S := by rw [hS]; exact (hv.2.1 70 6).1
  have S1 : S ≤ 1 := by rw [hS]; exact (hv.2.1 70 6).2
  refine go_bipush (pc := 0) (v := 40) (by decide) dX8_way_0 ?_
  refine go_aload_n (pc := 2) rfl dX8_way_2 ?_
  refine gi_get (pc := 3) (lo := 0) (hi := 1) hv fL_X8_187 rfl (Nat.le_of_ble_eq_true rfl) rfl rfl dX8_way_3 (fun v1 v1l v1u v1w => ?_)
  have v1S : v1.toInt = S := by rw [v1w, hv.fy (j := 6) (by omega), ← hv.fy (j := 6) (by omega)]; exact hS.symm
  refine gf_imul (pc := 6) (ti_c (v := 40) (a := 40) (by decide)) (ti_rfl v1) (by omega) (by omega) dX8_way_6 (fun v2 e3 => ?_)
  refine go_iload_n (pc := 7) rfl dX8_way_7 ?_
  refine gf_iadd (pc := 8) e3 (ti_rfl a2) (by omega) (by omega) dX8_way_8 (fun v4 e5 => ?_)
  refine go_istore_n (pc := 9) (Nat.le_of_ble_eq_true rfl) dX8_way_9 (go_lv (lv2 := [(0, .ref 70), (1, .int a2), (2, .int a3), (3, .int v4)]) rfl ?_)
  refine go_aload_n (pc := 10) rfl dX8_way_10 ?_
  refine go_iload_n (pc := 11) rfl dX8_way_11 ?_
  refine go_invV (pc := 12) (sl := 0) (s_X8_kindAt l (d + 1) hv a2 (by rw [show (a2 : Int32).toInt = a2.toInt from (ti_rfl a2)]; omega) (by rw [show (a2 : Int32).toInt = a2.toInt from (ti_rfl a2)]; omega)) mL_X8_271 iM_X8_kindAt sM_X8_kindAt (hv.sh rfl) rfl rfl rfl (Nat.le_of_ble_eq_true rfl) (show d + 1 + 2 + 1 ≤ d + 4 by omega) (show 8 + (2 + 11) + 40 * (d + 1 + 2) ≤ 40 * (d + 4) by omega) (g_c0 hv.ln) (Nat.le_of_ble_eq_true rfl) dX8_way_12 ?_
  intro r h6 hq _
  obtain ⟨v8, rfl, v8l, v8u, rfl, f7⟩ := hq
  have v8K : v8.toInt = V h.2.1 77 (V h.2.1 93 (40 * S + a2.toInt)) := by rw [f7]; unfold g_kd g_it; rw [← hS]; rfl
  by_cases q9 : v8.toInt = 0
  ·
    refine go_tableIn (pc := 15) (tgt := 48) (off := 33) (by rw [show (v8 : Int32).toInt = v8.toInt from (ti_rfl v8)]; omega) (by rw [show (v8 : Int32).toInt = v8.toInt from (ti_rfl v8)]; omega) (by rw [show (v8 : Int32).toInt = v8.toInt from (ti_rfl v8), q9]; rfl) (by decide) dX8_way_15 ?_
    refine go_iload_n (pc := 48) rfl dX8_way_48 ?_
    refine gf_if_ne (pc := 49) (tgt := 61) (ti_rfl a3) (by decide) dX8_way_49 (fun q10 => ?_) (fun q10 => ?_)
    ·
      refine go_bipush (pc := 61) (v := (-2)) (by decide) dX8_way_61 ?_
      exact gi_iret (pc := 63) (ti_c (v := (-2)) (a := (-2)) (by decide)) ⟨_, rfl, (by rw [show ((-2) : Int32).toInt = (-2) from (ti_c (v := (-2)) (a := (-2)) (by decide))]; omega), (by rw [show ((-2) : Int32).toInt = (-2) from (ti_c (v := (-2)) (a := (-2)) (by decide))]; omega), rfl, (by rw [← hS, show ((-2) : Int32).toInt = (-2) from (ti_c (v := (-2)) (a := (-2)) (by decide))]; unfold wy; (repeat' split) <;> omega)⟩ hv dX8_way_63
    ·
      refine go_aload_n (pc := 52) rfl dX8_way_52 ?_
      refine gi_getF (pc := 53) (q := 95) hv fL_X8_83 rfl (Nat.le_of_ble_eq_true rfl) rfl (hv.rf (by decide)) dX8_way_53 ?_
      refine go_iload_n (pc := 56) rfl dX8_way_56 ?_
      refine gi_iald (pc := 57) (lo := -1) (hi := 39) (len := 80) hv e5 rfl (by omega) (by omega) (fun _ => rfl) dX8_way_57 (fun v11 v11l v11u v11w => ?_)
      have v11V : v11.toInt = V h.2.1 95 (((40 * S) + a2.toInt)) := by rw [v11w, v1S]; rfl
      refine go_goto (pc := 58) (tgt := 63) (by decide) dX8_way_58 ?_
      exact gi_iret (pc := 63) (ti_rfl v11) ⟨_, rfl, (by rw [show (v11 : Int32).toInt = v11.toInt from (ti_rfl v11)]; omega), (by rw [show (v11 : Int32).toInt = v11.toInt from (ti_rfl v11)]; omega), rfl, (by rw [← hS, show (v11 : Int32).toInt = v11.toInt from (ti_rfl v11)]; unfold wy; (repeat' split) <;> omega)⟩ hv dX8_way_63
  by_cases q12 : v8.toInt = 1
  ·
    refine go_tableIn (pc := 15) (tgt := 64) (off := 49) (by rw [show (v8 : Int32).toInt = v8.toInt from (ti_rfl v8)]; omega) (by rw [show (v8 : Int32).toInt = v8.toInt from (ti_rfl v8)]; omega) (by rw [show (v8 : Int32).toInt = v8.toInt from (ti_rfl v8), q12]; rfl) (by decide) dX8_way_15 ?_
    refine go_iload_n (pc := 64) rfl dX8_way_64 ?_
    refine gf_if_ne (pc := 65) (tgt := 90) (ti_rfl a3) (by decide) dX8_way_65 (fun q13 => ?_) (fun q13 => ?_)
    ·
      refine go_aload_n (pc := 90) rfl dX8_way_90 ?_
      refine go_iload_n (pc := 91) rfl dX8_way_91 ?_
      have sM14 : (h.2.1 70 6).toInt = S := by rw [hv.fy (j := 6) (by omega), ← hv.fy (j := 6) (by omega)]; exact hS.symm
      refine go_invV (pc := 92) (sl := 0) (s_X8_isThrowing_x l (d + 0) hv a2 (by rw [show (a2 : Int32).toInt = a2.toInt from (ti_rfl a2)]; omega) (by rw [show (a2 : Int32).toInt = a2.toInt from (ti_rfl a2)]; omega) ckf) mL_X8_277 iM_X8_isThrowing sM_X8_isThrowing (hv.sh rfl) rfl rfl rfl (Nat.le_of_ble_eq_true rfl) (show d + 0 + 3 + 1 ≤ d + 4 by omega) (show 8 + (2 + 11) + 40 * (d + 0 + 3) ≤ 40 * (d + 4) by omega) (g_c0 hv.ln) (Nat.le_of_ble_eq_true rfl) dX8_way_92 ?_
      intro r h15 hq _
      obtain ⟨v17, rfl, v17l, v17u, rfl, f16⟩ := hq
      rw [sM14] at f16
      refine gf_if_eq (pc := 95) (tgt := 107) (ti_rfl v17) (by decide) dX8_way_95 (fun q18 => ?_) (fun q18 => ?_)
      ·
        refine go_bipush (pc := 107) (v := (-2)) (by decide) dX8_way_107 ?_
        exact gi_iret (pc := 109) (ti_c (v := (-2)) (a := (-2)) (by decide)) ⟨_, rfl, (by rw [show ((-2) : Int32).toInt = (-2) from (ti_c (v := (-2)) (a := (-2)) (by decide))]; omega), (by rw [show ((-2) : Int32).toInt = (-2) from (ti_c (v := (-2)) (a := (-2)) (by decide))]; omega), rfl, (by rw [← hS, show ((-2) : Int32).toInt = (-2) from (ti_c (v := (-2)) (a := (-2)) (by decide))]; unfold wy; (repeat' split) <;> omega)⟩ hv dX8_way_109
      ·
        refine go_aload_n (pc := 98) rfl dX8_way_98 ?_
        refine gi_getF (pc := 99) (q := 98) hv fL_X8_92 rfl (Nat.le_of_ble_eq_true rfl) rfl (hv.rf (by decide)) dX8_way_99 ?_
        refine go_iload_n (pc := 102) rfl dX8_way_102 ?_
        refine gi_iald (pc := 103) (lo := -1) (hi := 39) (len := 80) hv e5 rfl (by omega) (by omega) (fun _ => rfl) dX8_way_103 (fun v19 v19l v19u v19w => ?_)
        have v19V : v19.toInt = V h.2.1 98 (((40 * S) + a2.toInt)) := by rw [v19w, v1S]; rfl
        refine go_goto (pc := 104) (tgt := 109) (by decide) dX8_way_104 ?_
        exact gi_iret (pc := 109) (ti_rfl v19) ⟨_, rfl, (by rw [show (v19 : Int32).toInt = v19.toInt from (ti_rfl v19)]; omega), (by rw [show (v19 : Int32).toInt = v19.toInt from (ti_rfl v19)]; omega), rfl, (by rw [← hS, show (v19 : Int32).toInt = v19.toInt from (ti_rfl v19)]; unfold wy; (repeat' split) <;> omega)⟩ hv dX8_way_109
    ·
      refine go_aload_n (pc := 68) rfl dX8_way_68 ?_
      refine go_iload_n (pc := 69) rfl dX8_way_69 ?_
      have sM20 : (h.2.1 70 6).toInt = S := by rw [hv.fy (j := 6) (by omega), ← hv.fy (j := 6) (by omega)]; exact hS.symm
      refine go_invV (pc := 70) (sl := 0) (s_X8_isReturning_x l (d + 0) hv a2 (by rw [show (a2 : Int32).toInt = a2.toInt from (ti_rfl a2)]; omega) (by rw [show (a2 : Int32).toInt = a2.toInt from (ti_rfl a2)]; omega) ckf) mL_X8_274 iM_X8_isReturning sM_X8_isReturning (hv.sh rfl) rfl rfl rfl (Nat.le_of_ble_eq_true rfl) (show d + 0 + 3 + 1 ≤ d + 4 by omega) (show 8 + (2 + 11) + 40 * (d + 0 + 3) ≤ 40 * (d + 4) by omega) (g_c0 hv.ln) (Nat.le_of_ble_eq_true rfl) dX8_way_70 ?_
      intro r h21 hq _
      obtain ⟨v23, rfl, v23l, v23u, rfl, f22⟩ := hq
      rw [sM20] at f22
      refine gf_if_eq (pc := 73) (tgt := 85) (ti_rfl v23) (by decide) dX8_way_73 (fun q24 => ?_) (fun q24 => ?_)
      ·
        refine go_bipush (pc := 85) (v := (-2)) (by decide) dX8_way_85 ?_
        refine go_goto (pc := 87) (tgt := 109) (by decide) dX8_way_87 ?_
        exact gi_iret (pc := 109) (ti_c (v := (-2)) (a := (-2)) (by decide)) ⟨_, rfl, (by rw [show ((-2) : Int32).toInt = (-2) from (ti_c (v := (-2)) (a := (-2)) (by decide))]; omega), (by rw [show ((-2) : Int32).toInt = (-2) from (ti_c (v := (-2)) (a := (-2)) (by decide))]; omega), rfl, (by rw [← hS, show ((-2) : Int32).toInt = (-2) from (ti_c (v := (-2)) (a := (-2)) (by decide))]; unfold wy; (repeat' split) <;> omega)⟩ hv dX8_way_109
      ·
        refine go_aload_n (pc := 76) rfl dX8_way_76 ?_
        refine gi_getF (pc := 77) (q := 95) hv fL_X8_83 rfl (Nat.le_of_ble_eq_true rfl) rfl (hv.rf (by decide)) dX8_way_77 ?_
        refine go_iload_n (pc := 80) rfl dX8_way_80 ?_
        refine gi_iald (pc := 81) (lo := -1) (hi := 39) (len := 80) hv e5 rfl (by omega) (by omega) (fun _ => rfl) dX8_way_81 (fun v25 v25l v25u v25w => ?_)
        have v25V : v25.toInt = V h.2.1 95 (((40 * S) + a2.toInt)) := by rw [v25w, v1S]; rfl
        refine go_goto (pc := 82) (tgt := 109) (by decide) dX8_way_82 ?_
        exact gi_iret (pc := 109) (ti_rfl v25) ⟨_, rfl, (by rw [show (v25 : Int32).toInt = v25.toInt from (ti_rfl v25)]; omega), (by rw [show (v25 : Int32).toInt = v25.toInt from (ti_rfl v25)]; omega), rfl, (by rw [← hS, show (v25 : Int32).toInt = v25.toInt from (ti_rfl v25)]; unfold wy; (repeat' split) <;> omega)⟩ hv dX8_way_109
  by_cases q26 : v8.toInt = 2
  ·
    refine go_tableIn (pc := 15) (tgt := 110) (off := 95) (by rw [show (v8 : Int32).toInt = v8.toInt from (ti_rfl v8)]; omega) (by rw [show (v8 : Int32).toInt = v8.toInt from (ti_rfl v8)]; omega) (by rw [show (v8 : Int32).toInt = v8.toInt from (ti_rfl v8), q26]; rfl) (by decide) dX8_way_15 ?_
    refine go_iload_n (pc := 110) rfl dX8_way_110 ?_
    refine gf_if_ne (pc := 111) (tgt := 123) (ti_rfl a3) (by decide) dX8_way_111 (fun q27 => ?_) (fun q27 => ?_)
    ·
      refine go_aload_n (pc := 123) rfl dX8_way_123 ?_
      refine gi_getF (pc := 124) (q := 97) hv fL_X8_89 rfl (Nat.le_of_ble_eq_true rfl) rfl (hv.rf (by decide)) dX8_way_124 ?_
      refine go_iload_n (pc := 127) rfl dX8_way_127 ?_
      refine gi_iald (pc := 128) (lo := -1) (hi := 39) (len := 80) hv e5 rfl (by omega) (by omega) (fun _ => rfl) dX8_way_128 (fun v28 v28l v28u v28w => ?_)
      have v28V : v28.toInt = V h.2.1 97 (((40 * S) + a2.toInt)) := by rw [v28w, v1S]; rfl
      exact gi_iret (pc := 129) (ti_rfl v28) ⟨_, rfl, (by rw [show (v28 : Int32).toInt = v28.toInt from (ti_rfl v28)]; omega), (by rw [show (v28 : Int32).toInt = v28.toInt from (ti_rfl v28)]; omega), rfl, (by rw [← hS, show (v28 : Int32).toInt = v28.toInt from (ti_rfl v28)]; unfold wy; (repeat' split) <;> omega)⟩ hv dX8_way_129
    ·
      refine go_aload_n (pc := 114) rfl dX8_way_114 ?_
      refine gi_getF (pc := 115) (q := 96) hv fL_X8_86 rfl (Nat.le_of_ble_eq_true rfl) rfl (hv.rf (by decide)) dX8_way_115 ?_
      refine go_iload_n (pc := 118) rfl dX8_way_118 ?_
      refine gi_iald (pc := 119) (lo := -2) (hi := 39) (len := 80) hv e5 rfl (by omega) (by omega) (fun _ => rfl) dX8_way_119 (fun v29 v29l v29u v29w => ?_)
      have v29V : v29.toInt = V h.2.1 96 (((40 * S) + a2.toInt)) := by rw [v29w, v1S]; rfl
      refine go_goto (pc := 120) (tgt := 129) (by decide) dX8_way_120 ?_
      exact gi_iret (pc := 129) (ti_rfl v29) ⟨_, rfl, (by rw [show (v29 : Int32).toInt = v29.toInt from (ti_rfl v29)]; omega), (by rw [show (v29 : Int32).toInt = v29.toInt from (ti_rfl v29)]; omega), rfl, (by rw [← hS, show (v29 : Int32).toInt = v29.toInt from (ti_rfl v29)]; unfold wy; (repeat' split) <;> omega)⟩ hv dX8_way_129
  by_cases q30 : v8.toInt = 3
  ·
    refine go_tableIn (pc := 15) (tgt := 130) (off := 115) (by rw [show (v8 : Int32).toInt = v8.toInt from (ti_rfl v8)]; omega) (by rw [show (v8 : Int32).toInt = v8.toInt from (ti_rfl v8)]; omega) (by rw [show (v8 : Int32).toInt = v8.toInt from (ti_rfl v8), q30]; rfl) (by decide) dX8_way_15 ?_
    refine go_iload_n (pc := 130) rfl dX8_way_130 ?_
    refine gf_if_ne (pc := 131) (tgt := 143) (ti_rfl a3) (by decide) dX8_way_131 (fun q31 => ?_) (fun q31 => ?_)
    ·
      refine go_aload_n (pc := 143) rfl dX8_way_143 ?_
      refine gi_getF (pc := 144) (q := 95) hv fL_X8_83 rfl (Nat.le_of_ble_eq_true rfl) rfl (hv.rf (by decide)) dX8_way_144 ?_
      refine go_iload_n (pc := 147) rfl dX8_way_147 ?_
      refine gi_iald (pc := 148) (lo := -1) (hi := 39) (len := 80) hv e5 rfl (by omega) (by omega) (fun _ => rfl) dX8_way_148 (fun v32 v32l v32u v32w => ?_)
      have v32V : v32.toInt = V h.2.1 95 (((40 * S) + a2.toInt)) := by rw [v32w, v1S]; rfl
      exact gi_iret (pc := 149) (ti_rfl v32) ⟨_, rfl, (by rw [show (v32 : Int32).toInt = v32.toInt from (ti_rfl v32)]; omega), (by rw [show (v32 : Int32).toInt = v32.toInt from (ti_rfl v32)]; omega), rfl, (by rw [← hS, show (v32 : Int32).toInt = v32.toInt from (ti_rfl v32)]; unfold wy; (repeat' split) <;> omega)⟩ hv dX8_way_149
    ·
      refine go_aload_n (pc := 134) rfl dX8_way_134 ?_
      refine gi_getF (pc := 135) (q := 96) hv fL_X8_86 rfl (Nat.le_of_ble_eq_true rfl) rfl (hv.rf (by decide)) dX8_way_135 ?_
      refine go_iload_n (pc := 138) rfl dX8_way_138 ?_
      refine gi_iald (pc := 139) (lo := -2) (hi := 39) (len := 80) hv e5 rfl (by omega) (by omega) (fun _ => rfl) dX8_way_139 (fun v33 v33l v33u v33w => ?_)
      have v33V : v33.toInt = V h.2.1 96 (((40 * S) + a2.toInt)) := by rw [v33w, v1S]; rfl
      refine go_goto (pc := 140) (tgt := 149) (by decide) dX8_way_140 ?_
      exact gi_iret (pc := 149) (ti_rfl v33) ⟨_, rfl, (by rw [show (v33 : Int32).toInt = v33.toInt from (ti_rfl v33)]; omega), (by rw [show (v33 : Int32).toInt = v33.toInt from (ti_rfl v33)]; omega), rfl, (by rw [← hS, show (v33 : Int32).toInt = v33.toInt from (ti_rfl v33)]; unfold wy; (repeat' split) <;> omega)⟩ hv dX8_way_149
  by_cases q34 : v8.toInt = 4
  ·
    refine go_tableIn (pc := 15) (tgt := 150) (off := 135) (by rw [show (v8 : Int32).toInt = v8.toInt from (ti_rfl v8)]; omega) (by rw [show (v8 : Int32).toInt = v8.toInt from (ti_rfl v8)]; omega) (by rw [show (v8 : Int32).toInt = v8.toInt from (ti_rfl v8), q34]; rfl) (by decide) dX8_way_15 ?_
    refine go_iload_n (pc := 150) rfl dX8_way_150 ?_
    refine gf_if_ne (pc := 151) (tgt := 159) (ti_rfl a3) (by decide) dX8_way_151 (fun q35 => ?_) (fun q35 => ?_)
    ·
      refine go_aload_n (pc := 159) rfl dX8_way_159 ?_
      refine gi_getF (pc := 160) (q := 98) hv fL_X8_92 rfl (Nat.le_of_ble_eq_true rfl) rfl (hv.rf (by decide)) dX8_way_160 ?_
      refine go_iload_n (pc := 163) rfl dX8_way_163 ?_
      refine gi_iald (pc := 164) (lo := -1) (hi := 39) (len := 80) hv e5 rfl (by omega) (by omega) (fun _ => rfl) dX8_way_164 (fun v36 v36l v36u v36w => ?_)
      have v36V : v36.toInt = V h.2.1 98 (((40 * S) + a2.toInt)) := by rw [v36w, v1S]; rfl
      exact gi_iret (pc := 165) (ti_rfl v36) ⟨_, rfl, (by rw [show (v36 : Int32).toInt = v36.toInt from (ti_rfl v36)]; omega), (by rw [show (v36 : Int32).toInt = v36.toInt from (ti_rfl v36)]; omega), rfl, (by rw [← hS, show (v36 : Int32).toInt = v36.toInt from (ti_rfl v36)]; unfold wy; (repeat' split) <;> omega)⟩ hv dX8_way_165
    ·
      refine go_bipush (pc := 154) (v := (-2)) (by decide) dX8_way_154 ?_
      refine go_goto (pc := 156) (tgt := 165) (by decide) dX8_way_156 ?_
      exact gi_iret (pc := 165) (ti_c (v := (-2)) (a := (-2)) (by decide)) ⟨_, rfl, (by rw [show ((-2) : Int32).toInt = (-2) from (ti_c (v := (-2)) (a := (-2)) (by decide))]; omega), (by rw [show ((-2) : Int32).toInt = (-2) from (ti_c (v := (-2)) (a := (-2)) (by decide))]; omega), rfl, (by rw [← hS, show ((-2) : Int32).toInt = (-2) from (ti_c (v := (-2)) (a := (-2)) (by decide))]; unfold wy; (repeat' split) <;> omega)⟩ hv dX8_way_165
  refine go_tableOut (pc := 15) (tgt := 166) (by rw [show (v8 : Int32).toInt = v8.toInt from (ti_rfl v8)]; omega) (by decide) dX8_way_15 ?_
  refine go_iload_n (pc := 166) rfl dX8_way_166 ?_
  refine gf_if_ne (pc := 167) (tgt := 174) (ti_rfl a3) (by decide) dX8_way_167 (fun q37 => ?_) (fun q37 => ?_)
  ·
    refine go_bipush (pc := 174) (v := (-2)) (by decide) dX8_way_174 ?_
    exact gi_iret (pc := 176) (ti_c (v := (-2)) (a := (-2)) (by decide)) ⟨_, rfl, (by rw [show ((-2) : Int32).toInt = (-2) from (ti_c (v := (-2)) (a := (-2)) (by decide))]; omega), (by rw [show ((-2) : Int32).toInt = (-2) from (ti_c (v := (-2)) (a := (-2)) (by decide))]; omega), rfl, (by rw [← hS, show ((-2) : Int32).toInt = (-2) from (ti_c (v := (-2)) (a := (-2)) (by decide))]; unfold wy; (repeat' split) <;> omega)⟩ hv dX8_way_176
  ·
    refine go_iconst (pc := 170) (v := (-1)) (by decide) dX8_way_170 ?_
    refine go_goto (pc := 171) (tgt := 176) (by decide) dX8_way_171 ?_
    exact gi_iret (pc := 176) (ti_c (v := (-1)) (a := (-1)) (by decide)) ⟨_, rfl, (by rw [show ((-1) : Int32).toInt = (-1) from (ti_c (v := (-1)) (a := (-1)) (by decide))]; omega), (by rw [show ((-1) : Int32).toInt = (-1) from (ti_c (v := (-1)) (a := (-1)) (by decide))]; omega), rfl, (by rw [← hS, show ((-1) : Int32).toInt = (-1) from (ti_c (v := (-1)) (a := (-1)) (by decide))]; unfold wy; (repeat' split) <;> omega)⟩ hv dX8_way_176
