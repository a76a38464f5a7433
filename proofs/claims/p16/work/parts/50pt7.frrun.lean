set_option maxHeartbeats 4000000 in
set_option maxRecDepth 100000 in
theorem s_X8_count2_f (l : Launch) (d : Nat) {P : PP} {h : HP} (hv : Iv P h) (a2 : Int32) : Mt l yX8_count cX8_count 2 (some .int) (d + 4) [.ref 70, .int a2] h 0 0 (fun r h' => ∃ v : Int32, r = some (.int v) ∧ -2147483648 ≤ v.toInt ∧ v.toInt ≤ 2147483647 ∧ Iv (gs P) h' ∧ (FX KAq h h')) := by
  refine Mt_iv hv (by decide) (Nat.le_of_ble_eq_true rfl) ?_
  show Go l RX8 cX8_count 2 (g_rm (d + 4) 0 0) "count" (some .int) 117 0 0 (fun _ _ => True) (fun r h' => ∃ v : Int32, r = some (.int v) ∧ -2147483648 ≤ v.toInt ∧ v.toInt ≤ 2147483647 ∧ Iv (gs P) h' ∧ (FX KAq h h')) 0 0 [(0, .ref 70), (1, .int a2)] [] h
  have fx : FX KAq h h := FX.rfl
  have key : ∀ n : Nat, (∀ (s0 : Int32) (hx : HP), Iv (gs P) hx → 0 ≤ s0.toInt → s0.toInt ≤ 40 → FX KAq h hx → (1 : Int) < n → Go l RX8 cX8_count 2 (g_rm (d + 4) 0 0) "count" (some .int) 117 0 0 (fun _ _ => True) (fun r h' => ∃ v : Int32, r = some (.int v) ∧ -2147483648 ≤ v.toInt ∧ v.toInt ≤ 2147483647 ∧ Iv (gs P) h' ∧ (FX KAq h h')) 0 68 [] [.int s0] hx) ∧ (∀ (s0 : Int32) (hx : HP), Iv (gs P) hx → 0 ≤ s0.toInt → s0.toInt ≤ 5 → FX KAq h hx → (2 : Int) < n → Go l RX8 cX8_count 2 (g_rm (d + 4) 0 0) "count" (some .int) 117 0 0 (fun _ _ => True) (fun r h' => ∃ v : Int32, r = some (.int v) ∧ -2147483648 ≤ v.toInt ∧ v.toInt ≤ 2147483647 ∧ Iv (gs P) h' ∧ (FX KAq h h')) 0 89 [] [.int s0] hx) ∧ (∀ (s0 : Int32) (hx : HP), Iv (gs P) hx → FX KAq h hx → (3 : Int) < n → Go l RX8 cX8_count 2 (g_rm (d + 4) 0 0) "count" (some .int) 117 0 0 (fun _ _ => True) (fun r h' => ∃ v : Int32, r = some (.int v) ∧ -2147483648 ≤ v.toInt ∧ v.toInt ≤ 2147483647 ∧ Iv (gs P) h' ∧ (FX KAq h h')) 0 105 [] [.int s0] hx) ∧ (∀ (s0 : Int32) (hx : HP), Iv (gs P) hx → FX KAq h hx → (4 : Int) < n → Go l RX8 cX8_count 2 (g_rm (d + 4) 0 0) "count" (some .int) 117 0 0 (fun _ _ => True) (fun r h' => ∃ v : Int32, r = some (.int v) ∧ -2147483648 ≤ v.toInt ∧ v.toInt ≤ 2147483647 ∧ Iv (gs P) h' ∧ (FX KAq h h')) 0 125 [] [.int s0] hx) ∧ (∀ (s0 : Int32) (hx : HP), Iv (gs P) hx → FX KAq h hx → (5 : Int) < n → Go l RX8 cX8_count 2 (g_rm (d + 4) 0 0) "count" (some .int) 117 0 0 (fun _ _ => True) (fun r h' => ∃ v : Int32, r = some (.int v) ∧ -2147483648 ≤ v.toInt ∧ v.toInt ≤ 2147483647 ∧ Iv (gs P) h' ∧ (FX KAq h h')) 0 145 [] [.int s0] hx) := by
    intro n
    induction n with
    | zero => exact ⟨(by intros; omega), (by intros; omega), (by intros; omega), (by intros; omega), (by intros; omega)⟩
    | succ n ih =>
      refine ⟨?_, ?_, ?_, ?_, ?_⟩
      ·
        intro s0 hx hvx s0l s0u fxx hm
        exact gi_iret (pc := 68) (ti_rfl s0) ⟨_, rfl, (ti_lo _), (ti_hi _), hvx, fxx⟩ hvx dX8_count_68
      ·
        intro s0 hx hvx s0l s0u fxx hm
        exact gi_iret (pc := 89) (ti_rfl s0) ⟨_, rfl, (ti_lo _), (ti_hi _), hvx, fxx⟩ hvx dX8_count_89
      ·
        intro s0 hx hvx fxx hm
        exact gi_iret (pc := 105) (ti_rfl s0) ⟨_, rfl, (ti_lo _), (ti_hi _), hvx, fxx⟩ hvx dX8_count_105
      ·
        intro s0 hx hvx fxx hm
        exact gi_iret (pc := 125) (ti_rfl s0) ⟨_, rfl, (ti_lo _), (ti_hi _), hvx, fxx⟩ hvx dX8_count_125
      ·
        intro s0 hx hvx fxx hm
        exact gi_iret (pc := 145) (ti_rfl s0) ⟨_, rfl, (ti_lo _), (ti_hi _), hvx, fxx⟩ hvx dX8_count_145
  refine go_aload_n (pc := 0) rfl dX8_count_0 ?_
  refine go_aload_n (pc := 1) rfl dX8_count_1 ?_
  refine gi_get (pc := 2) (lo := 0) (hi := 1) hv fL_X8_228 rfl (Nat.le_of_ble_eq_true rfl) rfl rfl dX8_count_2 (fun v1 v1l v1u v1w => ?_)
  refine gi_putS (pc := 5) hv v1w (fP_X8_187 _) dX8_count_5 (fun h2 hv2 hv2e => ?_)
  have fx2 : FX KAq h h2 := FX.pI fx hv2e (by unfold KAq; omega)
  refine go_iload_n (pc := 8) rfl dX8_count_8 ?_
  by_cases q3 : a2.toInt = 0
  ·
    refine go_tableIn (pc := 9) (tgt := 48) (off := 39) (by rw [show (a2 : Int32).toInt = a2.toInt from (ti_rfl a2)]; omega) (by rw [show (a2 : Int32).toInt = a2.toInt from (ti_rfl a2)]; omega) (by rw [show (a2 : Int32).toInt = a2.toInt from (ti_rfl a2), q3]; rfl) (by decide) dX8_count_9 ?_
    refine go_aload_n (pc := 48) rfl dX8_count_48 ?_
    refine gi_get (pc := 49) (lo := 0) (hi := 1) hv2 fL_X8_243 rfl (Nat.le_of_ble_eq_true rfl) rfl rfl dX8_count_49 (fun v4 v4l v4u v4w => ?_)
    refine gf_if_eq (pc := 52) (tgt := 67) (ti_rfl v4) (by decide) dX8_count_52 (fun q5 => ?_) (fun q5 => ?_)
    ·
      refine go_iconst (pc := 67) (v := 0) (by decide) dX8_count_67 ?_
      have z6 : (0 : Int32).toInt = 0 := (ti_c (v := 0) (a := 0) (by decide))
      exact go_lv rfl ((key 18).1 0 h2 hv2 (by omega) (by omega) fx2 (by omega))
    ·
      refine go_aload_n (pc := 55) rfl dX8_count_55 ?_
      refine gi_getF (pc := 56) (q := 75) hv2 fL_X8_23 rfl (Nat.le_of_ble_eq_true rfl) rfl (hv2.rf (by decide)) dX8_count_56 ?_
      refine go_aload_n (pc := 59) rfl dX8_count_59 ?_
      refine gi_get (pc := 60) (lo := 0) (hi := 1) hv2 fL_X8_228 rfl (Nat.le_of_ble_eq_true rfl) rfl rfl dX8_count_60 (fun v7 v7l v7u v7w => ?_)
      refine gi_iald (pc := 63) (lo := 0) (hi := 40) (len := 2) hv2 (ti_rfl v7) rfl (by omega) (by omega) (fun _ => rfl) dX8_count_63 (fun v8 v8l v8u v8w => ?_)
      refine go_goto (pc := 64) (tgt := 68) (by decide) dX8_count_64 ?_
      exact go_lv rfl ((key 18).1 v8 h2 hv2 (by omega) (by omega) fx2 (by omega))
  by_cases q9 : a2.toInt = 1
  ·
    refine go_tableIn (pc := 9) (tgt := 69) (off := 60) (by rw [show (a2 : Int32).toInt = a2.toInt from (ti_rfl a2)]; omega) (by rw [show (a2 : Int32).toInt = a2.toInt from (ti_rfl a2)]; omega) (by rw [show (a2 : Int32).toInt = a2.toInt from (ti_rfl a2), q9]; rfl) (by decide) dX8_count_9 ?_
    refine go_aload_n (pc := 69) rfl dX8_count_69 ?_
    refine gi_get (pc := 70) (lo := 0) (hi := 1) hv2 fL_X8_243 rfl (Nat.le_of_ble_eq_true rfl) rfl rfl dX8_count_70 (fun v10 v10l v10u v10w => ?_)
    refine gf_if_eq (pc := 73) (tgt := 88) (ti_rfl v10) (by decide) dX8_count_73 (fun q11 => ?_) (fun q11 => ?_)
    ·
      refine go_iconst (pc := 88) (v := 0) (by decide) dX8_count_88 ?_
      have z12 : (0 : Int32).toInt = 0 := (ti_c (v := 0) (a := 0) (by decide))
      exact go_lv rfl ((key 18).2.1 0 h2 hv2 (by omega) (by omega) fx2 (by omega))
    ·
      refine go_aload_n (pc := 76) rfl dX8_count_76 ?_
      refine gi_getF (pc := 77) (q := 76) hv2 fL_X8_26 rfl (Nat.le_of_ble_eq_true rfl) rfl (hv2.rf (by decide)) dX8_count_77 ?_
      refine go_aload_n (pc := 80) rfl dX8_count_80 ?_
      refine gi_get (pc := 81) (lo := 0) (hi := 1) hv2 fL_X8_228 rfl (Nat.le_of_ble_eq_true rfl) rfl rfl dX8_count_81 (fun v13 v13l v13u v13w => ?_)
      refine gi_iald (pc := 84) (lo := 0) (hi := 5) (len := 2) hv2 (ti_rfl v13) rfl (by omega) (by omega) (fun _ => rfl) dX8_count_84 (fun v14 v14l v14u v14w => ?_)
      refine go_goto (pc := 85) (tgt := 89) (by decide) dX8_count_85 ?_
      exact go_lv rfl ((key 18).2.1 v14 h2 hv2 (by omega) (by omega) fx2 (by omega))
  by_cases q15 : a2.toInt = 2
  ·
    refine go_tableIn (pc := 9) (tgt := 90) (off := 81) (by rw [show (a2 : Int32).toInt = a2.toInt from (ti_rfl a2)]; omega) (by rw [show (a2 : Int32).toInt = a2.toInt from (ti_rfl a2)]; omega) (by rw [show (a2 : Int32).toInt = a2.toInt from (ti_rfl a2), q15]; rfl) (by decide) dX8_count_9 ?_
    refine go_aload_n (pc := 90) rfl dX8_count_90 ?_
    refine gi_get (pc := 91) (lo := 0) (hi := 1) hv2 fL_X8_243 rfl (Nat.le_of_ble_eq_true rfl) rfl rfl dX8_count_91 (fun v16 v16l v16u v16w => ?_)
    refine gf_if_eq (pc := 94) (tgt := 104) (ti_rfl v16) (by decide) dX8_count_94 (fun q17 => ?_) (fun q17 => ?_)
    ·
      refine go_iconst (pc := 104) (v := 0) (by decide) dX8_count_104 ?_
      have z18 : (0 : Int32).toInt = 0 := (ti_c (v := 0) (a := 0) (by decide))
      exact go_lv rfl ((key 18).2.2.1 0 h2 hv2 fx2 (by omega))
    ·
      refine go_aload_n (pc := 97) rfl dX8_count_97 ?_
      refine go_invV (pc := 98) (sl := 0) (s_X8_calls l (d + 0) hv2 ) mL_X8_382 iM_X8_calls sM_X8_calls (hv2.sh rfl) rfl rfl rfl (Nat.le_of_ble_eq_true rfl) (show d + 0 + 3 + 1 ≤ d + 4 by omega) (show 8 + (3 + 11) + 40 * (d + 0 + 3) ≤ 40 * (d + 4) by omega) (g_c0 hv2.ln) (Nat.le_of_ble_eq_true rfl) dX8_count_98 ?_
      intro r h19 hq _
      obtain ⟨v20, rfl, v20l, v20u, rfl⟩ := hq
      refine go_goto (pc := 101) (tgt := 105) (by decide) dX8_count_101 ?_
      exact go_lv rfl ((key 18).2.2.1 v20 h2 hv2 fx2 (by omega))
  by_cases q21 : a2.toInt = 3
  ·
    refine go_tableIn (pc := 9) (tgt := 106) (off := 97) (by rw [show (a2 : Int32).toInt = a2.toInt from (ti_rfl a2)]; omega) (by rw [show (a2 : Int32).toInt = a2.toInt from (ti_rfl a2)]; omega) (by rw [show (a2 : Int32).toInt = a2.toInt from (ti_rfl a2), q21]; rfl) (by decide) dX8_count_9 ?_
    refine go_aload_n (pc := 106) rfl dX8_count_106 ?_
    refine gi_get (pc := 107) (lo := 0) (hi := 1) hv2 fL_X8_243 rfl (Nat.le_of_ble_eq_true rfl) rfl rfl dX8_count_107 (fun v22 v22l v22u v22w => ?_)
    refine gf_if_eq (pc := 110) (tgt := 124) (ti_rfl v22) (by decide) dX8_count_110 (fun q23 => ?_) (fun q23 => ?_)
    ·
      refine go_iconst (pc := 124) (v := 0) (by decide) dX8_count_124 ?_
      have z24 : (0 : Int32).toInt = 0 := (ti_c (v := 0) (a := 0) (by decide))
      exact go_lv rfl ((key 18).2.2.2.1 0 h2 hv2 fx2 (by omega))
    ·
      refine go_aload_n (pc := 113) rfl dX8_count_113 ?_
      refine go_aload_n (pc := 114) rfl dX8_count_114 ?_
      refine gi_getF (pc := 115) (q := 102) hv2 fL_X8_105 rfl (Nat.le_of_ble_eq_true rfl) rfl (hv2.rf (by decide)) dX8_count_115 ?_
      refine go_invV (pc := 118) (sl := 0) (s_X8_may l (d + 2) hv2 102 (by decide)) mL_X8_385 iM_X8_may sM_X8_may (hv2.sh rfl) rfl rfl rfl (Nat.le_of_ble_eq_true rfl) (show d + 2 + 1 + 1 ≤ d + 4 by omega) (show 8 + (4 + 11) + 40 * (d + 2 + 1) ≤ 40 * (d + 4) by omega) (g_c0 hv2.ln) (Nat.le_of_ble_eq_true rfl) dX8_count_118 ?_
      intro r h25 hq _
      obtain ⟨v26, rfl, v26l, v26u, rfl⟩ := hq
      refine go_goto (pc := 121) (tgt := 125) (by decide) dX8_count_121 ?_
      exact go_lv rfl ((key 18).2.2.2.1 v26 h2 hv2 fx2 (by omega))
  by_cases q27 : a2.toInt = 4
  ·
    refine go_tableIn (pc := 9) (tgt := 126) (off := 117) (by rw [show (a2 : Int32).toInt = a2.toInt from (ti_rfl a2)]; omega) (by rw [show (a2 : Int32).toInt = a2.toInt from (ti_rfl a2)]; omega) (by rw [show (a2 : Int32).toInt = a2.toInt from (ti_rfl a2), q27]; rfl) (by decide) dX8_count_9 ?_
    refine go_aload_n (pc := 126) rfl dX8_count_126 ?_
    refine gi_get (pc := 127) (lo := 0) (hi := 1) hv2 fL_X8_243 rfl (Nat.le_of_ble_eq_true rfl) rfl rfl dX8_count_127 (fun v28 v28l v28u v28w => ?_)
    refine gf_if_eq (pc := 130) (tgt := 144) (ti_rfl v28) (by decide) dX8_count_130 (fun q29 => ?_) (fun q29 => ?_)
    ·
      refine go_iconst (pc := 144) (v := 0) (by decide) dX8_count_144 ?_
      have z30 : (0 : Int32).toInt = 0 := (ti_c (v := 0) (a := 0) (by decide))
      exact go_lv rfl ((key 18).2.2.2.2 0 h2 hv2 fx2 (by omega))
    ·
      refine go_aload_n (pc := 133) rfl dX8_count_133 ?_
      refine go_aload_n (pc := 134) rfl dX8_count_134 ?_
      refine gi_getF (pc := 135) (q := 101) hv2 fL_X8_101 rfl (Nat.le_of_ble_eq_true rfl) rfl (hv2.rf (by decide)) dX8_count_135 ?_
      refine go_invV (pc := 138) (sl := 0) (s_X8_may l (d + 2) hv2 101 (by decide)) mL_X8_385 iM_X8_may sM_X8_may (hv2.sh rfl) rfl rfl rfl (Nat.le_of_ble_eq_true rfl) (show d + 2 + 1 + 1 ≤ d + 4 by omega) (show 8 + (4 + 11) + 40 * (d + 2 + 1) ≤ 40 * (d + 4) by omega) (g_c0 hv2.ln) (Nat.le_of_ble_eq_true rfl) dX8_count_138 ?_
      intro r h31 hq _
      obtain ⟨v32, rfl, v32l, v32u, rfl⟩ := hq
      refine go_goto (pc := 141) (tgt := 145) (by decide) dX8_count_141 ?_
      exact go_lv rfl ((key 18).2.2.2.2 v32 h2 hv2 fx2 (by omega))
  by_cases q33 : a2.toInt = 5
  ·
    refine go_tableIn (pc := 9) (tgt := 146) (off := 137) (by rw [show (a2 : Int32).toInt = a2.toInt from (ti_rfl a2)]; omega) (by rw [show (a2 : Int32).toInt = a2.toInt from (ti_rfl a2)]; omega) (by rw [show (a2 : Int32).toInt = a2.toInt from (ti_rfl a2), q33]; rfl) (by decide) dX8_count_9 ?_
    refine go_aload_n (pc := 146) rfl dX8_count_146 ?_
    refine gi_get (pc := 147) (lo := 0) (hi := 500) hv2 fL_X8_151 rfl (Nat.le_of_ble_eq_true rfl) rfl rfl dX8_count_147 (fun v34 v34l v34u v34w => ?_)
    have v34p : v34.toInt = P.2.1.toInt := by rw [v34w]; exact congrArg Int32.toInt hv2.t1
    exact gi_iret (pc := 150) (ti_rfl v34) ⟨_, rfl, (ti_lo _), (ti_hi _), hv2, fx2⟩ hv2 dX8_count_150
  refine go_tableOut (pc := 9) (tgt := 151) (by rw [show (a2 : Int32).toInt = a2.toInt from (ti_rfl a2)]; omega) (by decide) dX8_count_9 ?_
  refine go_iconst (pc := 151) (v := (-1)) (by decide) dX8_count_151 ?_
  exact gi_iret (pc := 152) (ti_c (v := (-1)) (a := (-1)) (by decide)) ⟨_, rfl, (ti_lo _), (ti_hi _), hv2, fx2⟩ hv2 dX8_count_152
def f_X8_has (s : ST) (a1 : Int64) (a2 : Int) : Int :=
  bd (o_lshr a1 a2) fun v1 => bd (o_land v1 (1 : Int64)) fun v3 => bd (o_lcmp v3 (1 : Int64)) fun v5 => if ¬ v5 = 0 then (0) else (1)
set_option maxHeartbeats 4000000 in
set_option maxRecDepth 100000 in
theorem s_X8_has_f (l : Launch) (d : Nat) {P : PP} {h : HP} (hv : Iv P h) (a1 : Int64) (a2 : Int32) : Mt l yX8_has cX8_has 3 (some .boolean) (d + 1) [.long a1, .int a2] h 0 0 (fun r h' => ∃ v : Int32, r = some (.int v) ∧ 0 ≤ v.toInt ∧ v.toInt ≤ 1 ∧ h = h' ∧ (v.toInt = f_X8_has (st h) a1 a2.toInt)) := by
  refine Mt_iv hv (by decide) (Nat.le_of_ble_eq_true rfl) ?_
  show Go l RX8 cX8_has 3 (g_rm (d + 1) 0 0) "has" (some .boolean) 117 0 0 (fun _ _ => True) (fun r h' => ∃ v : Int32, r = some (.int v) ∧ 0 ≤ v.toInt ∧ v.toInt ≤ 1 ∧ h = h' ∧ (v.toInt = f_X8_has (st h) a1 a2.toInt)) 0 0 [(0, .long a1), (2, .int a2)] [] h
  obtain ⟨fin, kf⟩ : ∃ z, z = f_X8_has (st h) a1 a2.toInt := ⟨_, _root_.rfl⟩
  have k0 := kf
  unfold f_X8_has at k0
  refine go_lload_n (pc := 0) rfl dX8_has_0 ?_
  refine go_iload_n (pc := 1) rfl dX8_has_1 ?_
  refine gx_lshr (pc := 2) dX8_has_2 (fun v1 v1x => ?_)
  have k2 := bd_e k0 (so_lshr (ti_rfl a2) v1x)
  refine go_lconst (pc := 3) (v := 1) (by decide) dX8_has_3 ?_
  refine gx_land (pc := 4) dX8_has_4 (fun v3 v3x => ?_)
  have k4 := bd_e k2 (so_land v3x)
  refine go_lconst (pc := 5) (v := 1) (by decide) dX8_has_5 ?_
  refine gx_lcmp (pc := 6) dX8_has_6 (fun v5 v5x => ?_)
  have k6 := bd_e k4 (so_lcmp v5x)
  refine gf_if_ne (pc := 7) (tgt := 14) (ti_rfl v5) (by decide) dX8_has_7 (fun q7 => ?_) (fun q7 => ?_)
  ·
    have k8 := if_t k6 q7
    refine go_iconst (pc := 14) (v := 0) (by decide) dX8_has_14 ?_
    exact gi_zret (pc := 15) (ti_c (v := 0) (a := 0) (by decide)) (by omega) (by omega) ⟨_, rfl, (by rw [show (0 : Int32).toInt = 0 from (ti_c (v := 0) (a := 0) (by decide))]; omega), (by rw [show (0 : Int32).toInt = 0 from (ti_c (v := 0) (a := 0) (by decide))]; omega), rfl, (by rw [show (0 : Int32).toInt = 0 from (ti_c (v := 0) (a := 0) (by decide))]; exact k8.symm.trans kf)⟩ hv dX8_has_15
  ·
    have k9 := if_f k6 (fun z => z q7)
    refine go_iconst (pc := 10) (v := 1) (by decide) dX8_has_10 ?_
    refine go_goto (pc := 11) (tgt := 15) (by decide) dX8_has_11 ?_
    exact gi_zret (pc := 15) (ti_c (v := 1) (a := 1) (by decide)) (by omega) (by omega) ⟨_, rfl, (by rw [show (1 : Int32).toInt = 1 from (ti_c (v := 1) (a := 1) (by decide))]; omega), (by rw [show (1 : Int32).toInt = 1 from (ti_c (v := 1) (a := 1) (by decide))]; omega), rfl, (by rw [show (1 : Int32).toInt = 1 from (ti_c (v := 1) (a := 1) (by decide))]; exact k9.symm.trans kf)⟩ hv dX8_has_15
def f_X8_number (s : ST) (a2 : Int) (a3 : Int) : Int :=
  if 1000 ≤ a3 then (if 1006 ≤ a3 then (bd (s.1 113 ((a3 - 1006)).toNat) fun v7 => v7) else (bd (s.1 114 ((((6 * a2) + a3) - 1000)).toNat) fun v16 => v16)) else (a3)
set_option maxHeartbeats 4000000 in
set_option maxRecDepth 100000 in
theorem s_X8_number_f (l : Launch) (d : Nat) {P : PP} {h : HP} (hv : Iv P h) (a2 : Int32) (a2l : 0 ≤ a2.toInt) (a2u : a2.toInt ≤ 30) (a3 : Int32) (a3l : 0 ≤ a3.toInt) (a3u : a3.toInt ≤ 1009) : Mt l yX8_number cX8_number 3 (some .int) (d + 1) [.ref 70, .int a2, .int a3] h 0 0 (fun r h' => ∃ v : Int32, r = some (.int v) ∧ -2147483648 ≤ v.toInt ∧ v.toInt ≤ 2147483647 ∧ h = h' ∧ (v.toInt = f_X8_number (st h) a2.toInt a3.toInt)) := by
  refine Mt_iv hv (by decide) (Nat.le_of_ble_eq_true rfl) ?_
  show Go l RX8 cX8_number 3 (g_rm (d + 1) 0 0) "number" (some .int) 117 0 0 (fun _ _ => True) (fun r h' => ∃ v : Int32, r = some (.int v) ∧ -2147483648 ≤ v.toInt ∧ v.toInt ≤ 2147483647 ∧ h = h' ∧ (v.toInt = f_X8_number (st h) a2.toInt a3.toInt)) 0 0 [(0, .ref 70), (1, .int a2), (2, .int a3)] [] h
  obtain ⟨fin, kf⟩ : ∃ z, z = f_X8_number (st h) a2.toInt a3.toInt := ⟨_, _root_.rfl⟩
  have k0 := kf
  unfold f_X8_number at k0
  refine go_iload_n (pc := 0) rfl dX8_number_0 ?_
  refine go_sipush (pc := 1) (v := 1000) (by decide) dX8_number_1 ?_
  refine gf_icmp_ge (pc := 4) (tgt := 11) (ti_rfl a3) (ti_c (v := 1000) (a := 1000) (by decide)) (by decide) dX8_number_4 (fun q1 => ?_) (fun q1 => ?_)
  ·
    have k2 := if_t k0 q1
    refine go_iload_n (pc := 11) rfl dX8_number_11 ?_
    refine go_sipush (pc := 12) (v := 1006) (by decide) dX8_number_12 ?_
    refine gf_icmp_ge (pc := 15) (tgt := 36) (ti_rfl a3) (ti_c (v := 1006) (a := 1006) (by decide)) (by decide) dX8_number_15 (fun q3 => ?_) (fun q3 => ?_)
    ·
      have k4 := if_t k2 q3
      refine go_aload_n (pc := 36) rfl dX8_number_36 ?_
      refine gi_getF (pc := 37) (q := 113) hv fL_X8_139 rfl (Nat.le_of_ble_eq_true rfl) rfl (hv.rf (by decide)) dX8_number_37 ?_
      refine go_iload_n (pc := 40) rfl dX8_number_40 ?_
      refine go_sipush (pc := 41) (v := 1006) (by decide) dX8_number_41 ?_
      refine gf_isub (pc := 44) (ti_rfl a3) (ti_c (v := 1006) (a := 1006) (by decide)) (by omega) (by omega) dX8_number_44 (fun v5 e6 => ?_)
      refine gi_iald (pc := 45) (lo := -2147483648) (hi := 2147483647) (len := 4) hv e6 rfl (by omega) (by omega) (fun _ => rfl) dX8_number_45 (fun v7 v7l v7u v7w => ?_)
      have k8 := bd_e k4 (congrArg Int32.toInt v7w.symm)
      exact gi_iret (pc := 46) (ti_rfl v7) ⟨_, rfl, (ti_lo _), (ti_hi _), rfl, (k8.symm.trans kf)⟩ hv dX8_number_46
    ·
      have k9 := if_f k2 (Int.not_le.mpr q3)
      refine go_aload_n (pc := 18) rfl dX8_number_18 ?_
      refine gi_getF (pc := 19) (q := 114) hv fL_X8_142 rfl (Nat.le_of_ble_eq_true rfl) rfl (hv.rf (by decide)) dX8_number_19 ?_
      refine go_bipush (pc := 22) (v := 6) (by decide) dX8_number_22 ?_
      refine go_iload_n (pc := 24) rfl dX8_number_24 ?_
      refine gf_imul (pc := 25) (ti_c (v := 6) (a := 6) (by decide)) (ti_rfl a2) (by omega) (by omega) dX8_number_25 (fun v10 e11 => ?_)
      refine go_iload_n (pc := 26) rfl dX8_number_26 ?_
      refine gf_iadd (pc := 27) e11 (ti_rfl a3) (by omega) (by omega) dX8_number_27 (fun v12 e13 => ?_)
      refine go_sipush (pc := 28) (v := 1000) (by decide) dX8_number_28 ?_
      refine gf_isub (pc := 31) e13 (ti_c (v := 1000) (a := 1000) (by decide)) (by omega) (by omega) dX8_number_31 (fun v14 e15 => ?_)
      refine gi_iald (pc := 32) (lo := -2147483648) (hi := 2147483647) (len := 192) hv e15 rfl (by omega) (by omega) (fun _ => rfl) dX8_number_32 (fun v16 v16l v16u v16w => ?_)
      have k17 := bd_e k9 (congrArg Int32.toInt v16w.symm)
      refine go_goto (pc := 33) (tgt := 46) (by decide) dX8_number_33 ?_
      exact gi_iret (pc := 46) (ti_rfl v16) ⟨_, rfl, (ti_lo _), (ti_hi _), rfl, (k17.symm.trans kf)⟩ hv dX8_number_46
  ·
    have k18 := if_f k0 (Int.not_le.mpr q1)
    refine go_iload_n (pc := 7) rfl dX8_number_7 ?_
    refine go_goto (pc := 8) (tgt := 46) (by decide) dX8_number_8 ?_
    exact gi_iret (pc := 46) (ti_rfl a3) ⟨_, rfl, (ti_lo _), (ti_hi _), rfl, (k18.symm.trans kf)⟩ hv dX8_number_46
def f_X8_number_ (s : ST) (a2 : Int) (a3 : Int) (a4 : Int) : Int :=
  bd (s.1 89 (((2 * a3) + a4)).toNat) fun v5 => bd (f_X8_number s a2 v5) fun v9 => v9
set_option maxHeartbeats 4000000 in
set_option maxRecDepth 100000 in
theorem s_X8_number__f (l : Launch) (d : Nat) {P : PP} {h : HP} (hv : Iv P h) (a2 : Int32) (a2l : 0 ≤ a2.toInt) (a2u : a2.toInt ≤ 30) (a3 : Int32) (a3l : 0 ≤ a3.toInt) (a3u : a3.toInt ≤ 259) (a4 : Int32) (a4l : 0 ≤ a4.toInt) (a4u : a4.toInt ≤ 1) (hp : (h.2.1 89 (2 * a3.toInt + a4.toInt).toNat).toInt ≤ 1009) : Mt l yX8_number_ cX8_number_ 4 (some .int) (d + 2) [.ref 70, .int a2, .int a3, .int a4] h 0 0 (fun r h' => ∃ v : Int32, r = some (.int v) ∧ -2147483648 ≤ v.toInt ∧ v.toInt ≤ 2147483647 ∧ h = h' ∧ (v.toInt = f_X8_number_ (st h) a2.toInt a3.toInt a4.toInt)) := by
  refine Mt_iv hv (by decide) (Nat.le_of_ble_eq_true rfl) ?_
  show Go l RX8 cX8_number_ 4 (g_rm (d + 2) 0 0) "number" (some .int) 117 0 0 (fun _ _ => True) (fun r h' => ∃ v : Int32, r = some (.int v) ∧ -2147483648 ≤ v.toInt ∧ v.toInt ≤ 2147483647 ∧ h = h' ∧ (v.toInt = f_X8_number_ (st h) a2.toInt a3.toInt a4.toInt)) 0 0 [(0, .ref 70), (1, .int a2), (2, .int a3), (3, .int a4)] [] h
  obtain ⟨fin, kf⟩ : ∃ z, z = f_X8_number_ (st h) a2.toInt a3.toInt a4.toInt := ⟨_, _root_.rfl⟩
  have k0 := kf
  unfold f_X8_number_ at k0
  refine go_aload_n (pc := 0) rfl dX8_number__0 ?_
  refine go_iload_n (pc := 1) rfl dX8_number__1 ?_
  refine go_aload_n (pc := 2) rfl dX8_number__2 ?_
  refine gi_getF (pc := 3) (q := 89) hv fL_X8_65 rfl (Nat.le_of_ble_eq_true rfl) rfl (hv.rf (by decide)) dX8_number__3 ?_
  refine go_iconst (pc := 6) (v := 2) (by decide) dX8_number__6 ?_
  refine go_iload_n (pc := 7) rfl dX8_number__7 ?_
  refine gf_imul (pc := 8) (ti_c (v := 2) (a := 2) (by decide)) (ti_rfl a3) (by omega) (by omega) dX8_number__8 (fun v1 e2 => ?_)
  refine go_iload_n (pc := 9) rfl dX8_number__9 ?_
  refine gf_iadd (pc := 10) e2 (ti_rfl a4) (by omega) (by omega) dX8_number__10 (fun v3 e4 => ?_)
  refine gi_iald (pc := 11) (lo := 0) (hi := 9999) (len := 520) hv e4 rfl (by omega) (by omega) (fun _ => rfl) dX8_number__11 (fun v5 v5l v5u v5w => ?_)
  have k6 := bd_e k0 (congrArg Int32.toInt v5w.symm)
  have kk : v5.toInt ≤ 1009 := by rw [v5w]; exact hp
  refine go_invV (pc := 12) (sl := 0) (s_X8_number_f l (d + 0) hv a2 (by rw [show (a2 : Int32).toInt = a2.toInt from (ti_rfl a2)]; omega) (by rw [show (a2 : Int32).toInt = a2.toInt from (ti_rfl a2)]; omega) v5 (by rw [show (v5 : Int32).toInt = v5.toInt from (ti_rfl v5)]; omega) (by rw [show (v5 : Int32).toInt = v5.toInt from (ti_rfl v5)]; omega)) mL_X8_416 iM_X8_number sM_X8_number (hv.sh rfl) rfl rfl rfl (Nat.le_of_ble_eq_true rfl) (show d + 0 + 1 + 1 ≤ d + 2 by omega) (show 8 + (3 + 11) + 40 * (d + 0 + 1) ≤ 40 * (d + 2) by omega) (g_c0 hv.ln) (Nat.le_of_ble_eq_true rfl) dX8_number__12 ?_
  intro r h7 hq _
  obtain ⟨v9, rfl, v9l, v9u, rfl, f8⟩ := hq
  replace f8 : PE _ _ := f8
  have k10 := bd_e k6 f8.symm
  exact gi_iret (pc := 15) (ti_rfl v9) ⟨_, rfl, (ti_lo _), (ti_hi _), rfl, (k10.symm.trans kf)⟩ hv dX8_number__15
def f_X8_worked (s : ST) (a1 : Int) (a2 : Int) (a3 : Int) : Int :=
  if ¬ a1 = 43 then (if ¬ a1 = 45 then (if ¬ a1 = 42 then (if a3 ≤ a2 then (0) else (1)) else (bd (o_imul a2 a3) fun v11 => v11)) else (bd (o_isub a2 a3) fun v14 => v14)) else (bd (o_iadd a2 a3) fun v17 => v17)
set_option maxHeartbeats 4000000 in
set_option maxRecDepth 100000 in
theorem s_X8_worked_f (l : Launch) (d : Nat) {P : PP} {h : HP} (hv : Iv P h) (a1 : Int32) (a2 : Int32) (a3 : Int32) : Mt l yX8_worked cX8_worked 3 (some .int) (d + 1) [.int a1, .int a2, .int a3] h 0 0 (fun r h' => ∃ v : Int32, r = some (.int v) ∧ -2147483648 ≤ v.toInt ∧ v.toInt ≤ 2147483647 ∧ h = h' ∧ (v.toInt = f_X8_worked (st h) a1.toInt a2.toInt a3.toInt)) := by
  refine Mt_iv hv (by decide) (Nat.le_of_ble_eq_true rfl) ?_
  show Go l RX8 cX8_worked 3 (g_rm (d + 1) 0 0) "worked" (some .int) 117 0 0 (fun _ _ => True) (fun r h' => ∃ v : Int32, r = some (.int v) ∧ -2147483648 ≤ v.toInt ∧ v.toInt ≤ 2147483647 ∧ h = h' ∧ (v.toInt = f_X8_worked (st h) a1.toInt a2.toInt a3.toInt)) 0 0 [(0, .int a1), (1, .int a2), (2, .int a3)] [] h
  obtain ⟨fin, kf⟩ : ∃ z, z = f_X8_worked (st h) a1.toInt a2.toInt a3.toInt := ⟨_, _root_.rfl⟩
  have k0 := kf
  unfold f_X8_worked at k0
  refine go_iload_n (pc := 0) rfl dX8_worked_0 ?_
  refine go_bipush (pc := 1) (v := 43) (by decide) dX8_worked_1 ?_
  refine gf_icmp_ne (pc := 3) (tgt := 12) (ti_rfl a1) (ti_c (v := 43) (a := 43) (by decide)) (by decide) dX8_worked_3 (fun q1 => ?_) (fun q1 => ?_)
  ·
    have k2 := if_t k0 q1
    refine go_iload_n (pc := 12) rfl dX8_worked_12 ?_
    refine go_bipush (pc := 13) (v := 45) (by decide) dX8_worked_13 ?_
    refine gf_icmp_ne (pc := 15) (tgt := 24) (ti_rfl a1) (ti_c (v := 45) (a := 45) (by decide)) (by decide) dX8_worked_15 (fun q3 => ?_) (fun q3 => ?_)
    ·
      have k4 := if_t k2 q3
      refine go_iload_n (pc := 24) rfl dX8_worked_24 ?_
      refine go_bipush (pc := 25) (v := 42) (by decide) dX8_worked_25 ?_
      refine gf_icmp_ne (pc := 27) (tgt := 36) (ti_rfl a1) (ti_c (v := 42) (a := 42) (by decide)) (by decide) dX8_worked_27 (fun q5 => ?_) (fun q5 => ?_)
      ·
        have k6 := if_t k4 q5
        refine go_iload_n (pc := 36) rfl dX8_worked_36 ?_
        refine go_iload_n (pc := 37) rfl dX8_worked_37 ?_
        refine gf_icmp_ge (pc := 38) (tgt := 45) (ti_rfl a2) (ti_rfl a3) (by decide) dX8_worked_38 (fun q7 => ?_) (fun q7 => ?_)
        ·
          have k8 := if_t k6 q7
          refine go_iconst (pc := 45) (v := 0) (by decide) dX8_worked_45 ?_
          exact gi_iret (pc := 46) (ti_c (v := 0) (a := 0) (by decide)) ⟨_, rfl, (ti_lo _), (ti_hi _), rfl, (by rw [show (0 : Int32).toInt = 0 from (ti_c (v := 0) (a := 0) (by decide))]; exact k8.symm.trans kf)⟩ hv dX8_worked_46
        ·
          have k9 := if_f k6 (Int.not_le.mpr q7)
          refine go_iconst (pc := 41) (v := 1) (by decide) dX8_worked_41 ?_
          refine go_goto (pc := 42) (tgt := 46) (by decide) dX8_worked_42 ?_
          exact gi_iret (pc := 46) (ti_c (v := 1) (a := 1) (by decide)) ⟨_, rfl, (ti_lo _), (ti_hi _), rfl, (by rw [show (1 : Int32).toInt = 1 from (ti_c (v := 1) (a := 1) (by decide))]; exact k9.symm.trans kf)⟩ hv dX8_worked_46
      ·
        have k10 := if_f k4 (fun z => z q5)
        refine go_iload_n (pc := 30) rfl dX8_worked_30 ?_
        refine go_iload_n (pc := 31) rfl dX8_worked_31 ?_
        refine gx_imul (pc := 32) dX8_worked_32 (fun v11 v11x => ?_)
        have k12 := bd_e k10 (so_imul (ti_rfl a2) (ti_rfl a3) v11x)
        refine go_goto (pc := 33) (tgt := 46) (by decide) dX8_worked_33 ?_
        exact gi_iret (pc := 46) (ti_rfl v11) ⟨_, rfl, (ti_lo _), (ti_hi _), rfl, (k12.symm.trans kf)⟩ hv dX8_worked_46
    ·
      have k13 := if_f k2 (fun z => z q3)
      refine go_iload_n (pc := 18) rfl dX8_worked_18 ?_
      refine go_iload_n (pc := 19) rfl dX8_worked_19 ?_
      refine gx_isub (pc := 20) dX8_worked_20 (fun v14 v14x => ?_)
      have k15 := bd_e k13 (so_isub (ti_rfl a2) (ti_rfl a3) v14x)
      refine go_goto (pc := 21) (tgt := 46) (by decide) dX8_worked_21 ?_
      exact gi_iret (pc := 46) (ti_rfl v14) ⟨_, rfl, (ti_lo _), (ti_hi _), rfl, (k15.symm.trans kf)⟩ hv dX8_worked_46
  ·
    have k16 := if_f k0 (fun z => z q1)
    refine go_iload_n (pc := 6) rfl dX8_worked_6 ?_
    refine go_iload_n (pc := 7) rfl dX8_worked_7 ?_
    refine gx_iadd (pc := 8) dX8_worked_8 (fun v17 v17x => ?_)
    have k18 := bd_e k16 (so_iadd (ti_rfl a2) (ti_rfl a3) v17x)
    refine go_goto (pc := 9) (tgt := 46) (by decide) dX8_worked_9 ?_
    exact gi_iret (pc := 46) (ti_rfl v17) ⟨_, rfl, (ti_lo _), (ti_hi _), rfl, (k18.symm.trans kf)⟩ hv dX8_worked_46
def f_X8_sees_x (s : ST) (a2 : Int) (a3 : Int) : ST :=
  bd (s.1 70 54) fun v1 => if ¬ v1 = 500 then (bd (s.1 78 (a2).toNat) fun v6 => bd (sI s 115 (v1).toNat v6) fun s8 => bd (sI s8 116 (v1).toNat a3) fun s11 => bd (sI s11 70 54 ((v1 + 1))) fun s16 => s16) else (s)
set_option maxHeartbeats 4000000 in
set_option maxRecDepth 100000 in
theorem s_X8_sees_x_f (l : Launch) (d : Nat) {P : PP} {h : HP} (hv : Iv P h) (a2 : Int32) (a2l : 0 ≤ a2.toInt) (a2u : a2.toInt ≤ 259) (a3 : Int32) : Mt l yX8_sees cX8_sees 3 none (d + 1) [.ref 70, .int a2, .int a3] h 0 0 (fun r h' => r = none ∧ Iv P h' ∧ ((h'.2.1 70 53).toInt = (h.2.1 70 53).toInt) ∧ (st h' = f_X8_sees_x (st h) a2.toInt a3.toInt) ∧ (FX KAq h h')) := by
  refine Mt_iv hv (by decide) (Nat.le_of_ble_eq_true rfl) ?_
  show Go l RX8 cX8_sees 3 (g_rm (d + 1) 0 0) "sees" none 117 0 0 (fun _ _ => True) (fun r h' => r = none ∧ Iv P h' ∧ ((h'.2.1 70 53).toInt = (h.2.1 70 53).toInt) ∧ (st h' = f_X8_sees_x (st h) a2.toInt a3.toInt) ∧ (FX KAq h h')) 0 0 [(0, .ref 70), (1, .int a2), (2, .int a3)] [] h
  have fx : FX KAq h h := FX.rfl
  obtain ⟨fin, kf⟩ : ∃ z, z = f_X8_sees_x (st h) a2.toInt a3.toInt := ⟨_, _root_.rfl⟩
  have k0 := kf
  unfold f_X8_sees_x at k0
  refine go_aload_n (pc := 0) rfl dX8_sees_0 ?_
  refine gi_get (pc := 1) (lo := 0) (hi := 500) hv fL_X8_418 rfl (Nat.le_of_ble_eq_true rfl) rfl rfl dX8_sees_1 (fun v1 v1l v1u v1w => ?_)
  have k2 := bd_e k0 (congrArg Int32.toInt v1w.symm)
  refine go_sipush (pc := 4) (v := 500) (by decide) dX8_sees_4 ?_
  refine gf_icmp_ne (pc := 7) (tgt := 11) (ti_rfl v1) (ti_c (v := 500) (a := 500) (by decide)) (by decide) dX8_sees_7 (fun q3 => ?_) (fun q3 => ?_)
  ·
    have k4 := if_t k2 q3
    refine go_aload_n (pc := 11) rfl dX8_sees_11 ?_
    refine gi_getF (pc := 12) (q := 115) hv fL_X8_145 rfl (Nat.le_of_ble_eq_true rfl) rfl (hv.rf (by decide)) dX8_sees_12 ?_
    refine go_aload_n (pc := 15) rfl dX8_sees_15 ?_
    refine gi_get (pc := 16) (lo := 0) (hi := 500) hv fL_X8_418 rfl (Nat.le_of_ble_eq_true rfl) rfl rfl dX8_sees_16 (fun v5 v5l v5u v5w => ?_)
    have v5r : v1 = h.2.1 70 54 := v1w
    have v5q : TI v5 v1.toInt := by rw [v5w.trans v5r.symm]; exact (ti_rfl v1)
    refine go_aload_n (pc := 19) rfl dX8_sees_19 ?_
    refine gi_getF (pc := 20) (q := 78) hv fL_X8_32 rfl (Nat.le_of_ble_eq_true rfl) rfl (hv.rf (by decide)) dX8_sees_20 ?_
    refine go_iload_n (pc := 23) rfl dX8_sees_23 ?_
    refine gi_iald (pc := 24) (lo := -1) (hi := 39) (len := 260) hv (ti_rfl a2) rfl (by omega) (by omega) (fun _ => rfl) dX8_sees_24 (fun v6 v6l v6u v6w => ?_)
    have k7 := bd_e k4 (congrArg Int32.toInt v6w.symm)
    refine gi_iast (pc := 25) (lo := -2147483648) (hi := 2147483647) (len := 500) hv v5q (ti_rfl v6) rfl (by omega) (by omega) (fun _ => rfl) (ti_ge (ti_rfl v6)) (ti_le2 (ti_rfl v6)) (by decide) dX8_sees_25 (fun h8 hv8 hv8e => ?_)
    have fx8 : FX KAq h h8 := FX.pI fx hv8e (by unfold KAq; omega)
    have k9 := bd_e k7 (st_I hv8e (ti_rfl v6))
    refine go_aload_n (pc := 26) rfl dX8_sees_26 ?_
    refine gi_getF (pc := 27) (q := 116) hv8 fL_X8_148 rfl (Nat.le_of_ble_eq_true rfl) rfl (hv8.rf (by decide)) dX8_sees_27 ?_
    refine go_aload_n (pc := 30) rfl dX8_sees_30 ?_
    refine gi_get (pc := 31) (lo := 0) (hi := 500) hv8 fL_X8_418 rfl (Nat.le_of_ble_eq_true rfl) rfl rfl dX8_sees_31 (fun v10 v10l v10u v10w => ?_)
    have v10r : v1 = h8.2.1 70 54 := (show v1 = h8.2.1 70 54 from by rw [hv8e]; exact (g_iI rfl v1w.symm).symm)
    have v10q : TI v10 v1.toInt := by rw [v10w.trans v10r.symm]; exact (ti_rfl v1)
    refine go_iload_n (pc := 34) rfl dX8_sees_34 ?_
    refine gi_iast (pc := 35) (lo := -2147483648) (hi := 2147483647) (len := 500) hv8 v10q (ti_rfl a3) rfl (by omega) (by omega) (fun _ => rfl) (ti_ge (ti_rfl a3)) (ti_le2 (ti_rfl a3)) (by decide) dX8_sees_35 (fun h11 hv11 hv11e => ?_)
    have fx11 : FX KAq h h11 := FX.pI fx8 hv11e (by unfold KAq; omega)
    have k12 := bd_e k9 (st_I hv11e (ti_rfl a3))
    refine go_aload_n (pc := 36) rfl dX8_sees_36 ?_
    refine go_dup (pc := 37) rfl dX8_sees_37 ?_
    refine gi_get (pc := 38) (lo := 0) (hi := 500) hv11 fL_X8_418 rfl (Nat.le_of_ble_eq_true rfl) rfl rfl dX8_sees_38 (fun v13 v13l v13u v13w => ?_)
    have v13r : v1 = h11.2.1 70 54 := (show v1 = h11.2.1 70 54 from by rw [hv11e]; exact (g_iI rfl (show v1 = h8.2.1 70 54 from by rw [hv8e]; exact (g_iI rfl v1w.symm).symm).symm).symm)
    have v13q : TI v13 v1.toInt := by rw [v13w.trans v13r.symm]; exact (ti_rfl v1)
    refine go_iconst (pc := 41) (v := 1) (by decide) dX8_sees_41 ?_
    refine gf_iadd (pc := 42) v13q (ti_c (v := 1) (a := 1) (by decide)) (by omega) (by omega) dX8_sees_42 (fun v14 e15 => ?_)
    refine gi_put (pc := 43) (lo := 0) (hi := 500) hv11 e15 (fP_X8_418 _) rfl (Nat.le_of_ble_eq_true rfl) rfl rfl (by omega) (by omega) rfl rfl (by decide) (by decide) (by decide) (by decide) dX8_sees_43 (fun h16 hv16 hv16e => ?_)
    have fx16 : FX KAq h h16 := FX.pI fx11 hv16e (by unfold KAq; omega)
    have k17 := bd_e k12 (st_I hv16e e15)
    exact gi_vret (pc := 46) ⟨rfl, hv16, (by rw [hv16e, hv11e, hv8e]; rfl), (k17.symm.trans kf), fx16⟩ hv16 dX8_sees_46
  ·
    have k18 := if_f k2 (fun z => z q3)
    exact gi_vret (pc := 10) ⟨rfl, hv, rfl, (k18.symm.trans kf), fx⟩ hv dX8_sees_10
def f_X8_tellsName_x (s : ST) (a2 : Int) (a3 : Int) (a4 : Int) : ST :=
  if 6 ≤ a3 then (bd (sI s 113 ((a3 - 6)).toNat a4) fun s5 => s5) else (bd (sI s 114 (((6 * a2) + a3)).toNat a4) fun s12 => s12)
set_option maxHeartbeats 4000000 in
set_option maxRecDepth 100000 in
theorem s_X8_tellsName_x_f (l : Launch) (d : Nat) {P : PP} {h : HP} (hv : Iv P h) (a2 : Int32) (a2l : 0 ≤ a2.toInt) (a2u : a2.toInt ≤ 30) (a3 : Int32) (a3l : 0 ≤ a3.toInt) (a3u : a3.toInt ≤ 9) (a4 : Int32) : Mt l yX8_tellsName cX8_tellsName 4 none (d + 1) [.ref 70, .int a2, .int a3, .int a4] h 0 0 (fun r h' => r = none ∧ Iv P h' ∧ ((h'.2.1 70 53).toInt = (h.2.1 70 53).toInt) ∧ (st h' = f_X8_tellsName_x (st h) a2.toInt a3.toInt a4.toInt) ∧ (FX KAq h h')) := by
  refine Mt_iv hv (by decide) (Nat.le_of_ble_eq_true rfl) ?_
  show Go l RX8 cX8_tellsName 4 (g_rm (d + 1) 0 0) "tellsName" none 117 0 0 (fun _ _ => True) (fun r h' => r = none ∧ Iv P h' ∧ ((h'.2.1 70 53).toInt = (h.2.1 70 53).toInt) ∧ (st h' = f_X8_tellsName_x (st h) a2.toInt a3.toInt a4.toInt) ∧ (FX KAq h h')) 0 0 [(0, .ref 70), (1, .int a2), (2, .int a3), (3, .int a4)] [] h
  have fx : FX KAq h h := FX.rfl
  obtain ⟨fin, kf⟩ : ∃ z, z = f_X8_tellsName_x (st h) a2.toInt a3.toInt a4.toInt := ⟨_, _root_.rfl⟩
  have k0 := kf
  unfold f_X8_tellsName_x at k0
  refine go_iload_n (pc := 0) rfl dX8_tellsName_0 ?_
  refine go_bipush (pc := 1) (v := 6) (by decide) dX8_tellsName_1 ?_
  refine gf_icmp_ge (pc := 3) (tgt := 21) (ti_rfl a3) (ti_c (v := 6) (a := 6) (by decide)) (by decide) dX8_tellsName_3 (fun q1 => ?_) (fun q1 => ?_)
  ·
    have k2 := if_t k0 q1
    refine go_aload_n (pc := 21) rfl dX8_tellsName_21 ?_
    refine gi_getF (pc := 22) (q := 113) hv fL_X8_139 rfl (Nat.le_of_ble_eq_true rfl) rfl (hv.rf (by decide)) dX8_tellsName_22 ?_
    refine go_iload_n (pc := 25) rfl dX8_tellsName_25 ?_
    refine go_bipush (pc := 26) (v := 6) (by decide) dX8_tellsName_26 ?_
    refine gf_isub (pc := 28) (ti_rfl a3) (ti_c (v := 6) (a := 6) (by decide)) (by omega) (by omega) dX8_tellsName_28 (fun v3 e4 => ?_)
    refine go_iload_n (pc := 29) rfl dX8_tellsName_29 ?_
    refine gi_iast (pc := 30) (lo := -2147483648) (hi := 2147483647) (len := 4) hv e4 (ti_rfl a4) rfl (by omega) (by omega) (fun _ => rfl) (ti_ge (ti_rfl a4)) (ti_le2 (ti_rfl a4)) (by decide) dX8_tellsName_30 (fun h5 hv5 hv5e => ?_)
    have fx5 : FX KAq h h5 := FX.pI fx hv5e (by unfold KAq; omega)
    have k6 := bd_e k2 (st_I hv5e (ti_rfl a4))
    exact gi_vret (pc := 31) ⟨rfl, hv5, (by rw [hv5e]; rfl), (k6.symm.trans kf), fx5⟩ hv5 dX8_tellsName_31
  ·
    have k7 := if_f k0 (Int.not_le.mpr q1)
    refine go_aload_n (pc := 6) rfl dX8_tellsName_6 ?_
    refine gi_getF (pc := 7) (q := 114) hv fL_X8_142 rfl (Nat.le_of_ble_eq_true rfl) rfl (hv.rf (by decide)) dX8_tellsName_7 ?_
    refine go_bipush (pc := 10) (v := 6) (by decide) dX8_tellsName_10 ?_
    refine go_iload_n (pc := 12) rfl dX8_tellsName_12 ?_
    refine gf_imul (pc := 13) (ti_c (v := 6) (a := 6) (by decide)) (ti_rfl a2) (by omega) (by omega) dX8_tellsName_13 (fun v8 e9 => ?_)
    refine go_iload_n (pc := 14) rfl dX8_tellsName_14 ?_
    refine gf_iadd (pc := 15) e9 (ti_rfl a3) (by omega) (by omega) dX8_tellsName_15 (fun v10 e11 => ?_)
    refine go_iload_n (pc := 16) rfl dX8_tellsName_16 ?_
    refine gi_iast (pc := 17) (lo := -2147483648) (hi := 2147483647) (len := 192) hv e11 (ti_rfl a4) rfl (by omega) (by omega) (fun _ => rfl) (ti_ge (ti_rfl a4)) (ti_le2 (ti_rfl a4)) (by decide) dX8_tellsName_17 (fun h12 hv12 hv12e => ?_)
    have fx12 : FX KAq h h12 := FX.pI fx hv12e (by unfold KAq; omega)
    have k13 := bd_e k7 (st_I hv12e (ti_rfl a4))
    refine go_goto (pc := 18) (tgt := 31) (by decide) dX8_tellsName_18 ?_
    exact gi_vret (pc := 31) ⟨rfl, hv12, (by rw [hv12e]; rfl), (k13.symm.trans kf), fx12⟩ hv12 dX8_tellsName_31
def f_X8_goesBlock_b_ (g_X8_does : ST → Int → Int → ST × Int) (g_X8_tries : ST → Int → Int → ST × Int) : Nat → Nat → Int → Int → ST → ST × Int
  | 0, _, _, _, sx => (sx, 0)
  | n + 1, _, l2, l3, sx => if l3 = (-1) then ((sx, 0)) else (bd (sx.1 77 (l3).toNat) fun v6 => if ¬ v6 = 6 then (bd (sx.2.1 70 55) fun v10 => bd (sx.1 78 (l3).toNat) fun v12 => bd (f_X8_has sx v10 v12) fun v16 => if v16 = 0 then (bd (sx.1 87 (l3).toNat) fun v21 => f_X8_goesBlock_b_ g_X8_does g_X8_tries n 7 l2 v21 sx) else (bd2 (g_X8_does sx l3 l2) fun s29 v33 => if v33 = 0 then (bd (s29.1 87 (l3).toNat) fun v39 => f_X8_goesBlock_b_ g_X8_does g_X8_tries n 7 l2 v39 s29) else ((s29, v33)))) else (bd2 (g_X8_tries sx l3 l2) fun s52 v56 => if v56 = 0 then (bd (s52.1 87 (l3).toNat) fun v62 => f_X8_goesBlock_b_ g_X8_does g_X8_tries n 7 l2 v62 s52) else ((s52, v56))))
def f_X8_goesBlock_b (g_X8_does : ST → Int → Int → ST × Int) (g_X8_tries : ST → Int → Int → ST × Int) (s : ST) (a2 : Int) (a3 : Int) : ST × Int :=
  bd (s.1 90 (a2).toNat) fun v71 => f_X8_goesBlock_b_ g_X8_does g_X8_tries 1001 7 a3 v71 s
set_option maxHeartbeats 4000000 in
set_option maxRecDepth 100000 in
theorem s_X8_goesBlock_b_f (l : Launch) (d : Nat) {nn : Nat} (g_X8_does : ST → Int → Int → ST × Int) (g_X8_tries : ST → Int → Int → ST × Int) (ihD : ∀ {P : PP} {h : HP} (_ : Iv P h) (a2 : Int32) (a2l : 0 ≤ a2.toInt) (a2u : a2.toInt ≤ 259) (a3 : Int32) (a3l : 0 ≤ a3.toInt) (a3u : a3.toInt ≤ 30) (hr : RD h.2.1 (h.2.1 70 6).toInt ∧ TD h.2.1 (h.2.1 70 6).toInt) (hl : (h.2.1 70 29).toInt = (h.2.1 70 6).toInt) (ckf : CKF h.2.1) (hi : II h.2.1 (h.2.1 70 6).toInt a2.toInt) (hk : ¬ V h.2.1 77 a2.toInt = 6) (hg : 30 * (30 - a3.toInt) + 3 * (7 - V h.2.1 80 a2.toInt) + 2 ≤ (nn : Int)), Mt l yX8_does cX8_does 6 (some .int) (d + 1) [.ref 70, .int a2, .int a3] h 0 0 (fun r h' => ∃ v : Int32, r = some (.int v) ∧ 0 ≤ v.toInt ∧ v.toInt ≤ 3 ∧ Iv P h' ∧ ((h.2.1 70 53).toInt ≤ (h'.2.1 70 53).toInt) ∧ ((st h', v.toInt) = g_X8_does (st h) a2.toInt a3.toInt) ∧ (FX KAq h h'))) (ihY : ∀ {P : PP} {h : HP} (_ : Iv P h) (a2 : Int32) (a2l : 0 ≤ a2.toInt) (a2u : a2.toInt ≤ 259) (a3 : Int32) (a3l : 0 ≤ a3.toInt) (a3u : a3.toInt ≤ 30) (hr : RD h.2.1 (h.2.1 70 6).toInt ∧ TD h.2.1 (h.2.1 70 6).toInt) (hl : (h.2.1 70 29).toInt = (h.2.1 70 6).toInt) (ckf : CKF h.2.1) (hi : II h.2.1 (h.2.1 70 6).toInt a2.toInt) (hk : V h.2.1 77 a2.toInt = 6) (hg : 30 * (30 - a3.toInt) + 3 * (7 - V h.2.1 80 a2.toInt) + 2 ≤ (nn : Int)), Mt l yX8_tries cX8_tries 4 (some .int) (d + 1) [.ref 70, .int a2, .int a3] h 0 0 (fun r h' => ∃ v : Int32, r = some (.int v) ∧ 0 ≤ v.toInt ∧ v.toInt ≤ 3 ∧ Iv P h' ∧ ((h.2.1 70 53).toInt ≤ (h'.2.1 70 53).toInt) ∧ ((st h', v.toInt) = g_X8_tries (st h) a2.toInt a3.toInt) ∧ (FX KAq h h'))) {P : PP} {h : HP} (hv : Iv P h) (a2 : Int32) (a2l : 0 ≤ a2.toInt) (a2u : a2.toInt ≤ 559) (a3 : Int32) (a3l : 0 ≤ a3.toInt) (a3u : a3.toInt ≤ 30) (hr : RD h.2.1 (h.2.1 70 6).toInt ∧ TD h.2.1 (h.2.1 70 6).toInt) (hl : (h.2.1 70 29).toInt = (h.2.1 70 6).toInt) (ckf : CKF h.2.1) (hb : BB h.2.1 (h.2.1 70 6).toInt a2.toInt) (hg : (V h.2.1 92 a2.toInt = -1 → 30 * (30 - a3.toInt) + 24 ≤ ((nn + 1 : Nat) : Int)) ∧ (0 ≤ V h.2.1 92 a2.toInt → 30 * (30 - a3.toInt) + 3 * (6 - V h.2.1 80 (V h.2.1 92 a2.toInt)) + 3 ≤ ((nn + 1 : Nat) : Int))) : Mt l yX8_goesBlock cX8_goesBlock 5 (some .int) (d + 2) [.ref 70, .int a2, .int a3] h 0 0 (fun r h' => ∃ v : Int32, r = some (.int v) ∧ 0 ≤ v.toInt ∧ v.toInt ≤ 3 ∧ Iv P h' ∧ ((h.2.1 70 53).toInt ≤ (h'.2.1 70 53).toInt) ∧ ((st h', v.toInt) = f_X8_goesBlock_b g_X8_does g_X8_tries (st h) a2.toInt a3.toInt) ∧ (FX KAq h h')) := by
  refine Mt_iv hv (by decide) (Nat.le_of_ble_eq_true rfl) ?_
  show Go l RX8 cX8_goesBlock 5 (g_rm (d + 2) 0 0) "goesBlock" (some .int) 117 0 0 (fun _ _ => True) (fun r h' => ∃ v : Int32, r = some (.int v) ∧ 0 ≤ v.toInt ∧ v.toInt ≤ 3 ∧ Iv P h' ∧ ((h.2.1 70 53).toInt ≤ (h'.2.1 70 53).toInt) ∧ ((st h', v.toInt) = f_X8_goesBlock_b g_X8_does g_X8_tries (st h) a2.toInt a3.toInt) ∧ (FX KAq h h')) 0 0 [(0, .ref 70), (1, .int a2), (2, .int a3)] [] h
  obtain ⟨S, hS⟩ : ∃ S : Int, S = (h.2.1 70 6).toInt := ⟨_, rfl⟩
  have S0 : 0 ≤ S := by rw [hS]; exact (hv.2.1 70 6).1
  have S1 : S ≤ 1 := by rw [hS]; exact (hv.2.1 70 6).2
  rw [← hS] at hr
  rw [← hS] at hl
  rw [← hS] at hb
  have fx : FX KAq h h := FX.rfl
  obtain ⟨fin, kf⟩ : ∃ z, z = f_X8_goesBlock_b g_X8_does g_X8_tries (st h) a2.toInt a3.toInt := ⟨_, _root_.rfl⟩
  have k0 := kf
  unfold f_X8_goesBlock_b at k0
  have key : ∀ n : Nat, (∀ (l2 : Int32) (l3 : Int32) (hx : HP), Iv P hx → 0 ≤ l2.toInt → l2.toInt ≤ 30 → -1 ≤ l3.toInt → l3.toInt ≤ 259 → (l3.toInt = -1 ∨ (II h.2.1 S l3.toInt ∧ V h.2.1 88 l3.toInt = a2.toInt)) → (l2.toInt = a3.toInt) → ((h.2.1 70 53).toInt ≤ (hx.2.1 70 53).toInt) → (0 ≤ gmi l3.toInt) → (0 : Int) ≤ (hx.2.1 70 53).toInt → (hx.2.1 70 53).toInt ≤ 3000 → FX KAq h hx → fin = f_X8_goesBlock_b_ g_X8_does g_X8_tries n 7 l2.toInt l3.toInt (st hx) → (gmi l3.toInt : Int) < n → Go l RX8 cX8_goesBlock 5 (g_rm (d + 2) 0 0) "goesBlock" (some .int) 117 0 0 (fun _ _ => True) (fun r h' => ∃ v : Int32, r = some (.int v) ∧ 0 ≤ v.toInt ∧ v.toInt ≤ 3 ∧ Iv P h' ∧ ((h.2.1 70 53).toInt ≤ (h'.2.1 70 53).toInt) ∧ ((st h', v.toInt) = f_X8_goesBlock_b g_X8_does g_X8_tries (st h) a2.toInt a3.toInt) ∧ (FX KAq h h')) 0 7 [(0, .ref 70), (2, .int l2), (3, .int l3)] [] hx) := by
    intro n
    induction n with
    | zero => exact (by intros; omega)
    | succ n ih =>
      refine ?_
      ·
        intro l2 l3 hx hvx l2l l2u l3l l3u x0 x1 x2 x3 y0l y0u fxx kL hm
        rw [f_X8_goesBlock_b_] at kL
        refine go_iload_n (pc := 7) rfl dX8_goesBlock_7 ?_
        refine go_iconst (pc := 8) (v := (-1)) (by decide) dX8_goesBlock_8 ?_
        refine gf_icmp_eq (pc := 9) (tgt := 78) (ti_rfl l3) (ti_c (v := (-1)) (a := (-1)) (by decide)) (by decide) dX8_goesBlock_9 (fun q1 => ?_) (fun q1 => ?_)
        ·
          have k2 := if_t kL q1
          refine go_iconst (pc := 78) (v := 0) (by decide) dX8_goesBlock_78 ?_
          have g3 : (0 : Int) ≤ (hx.2.1 70 53).toInt := (hvx.2.1 70 53).1
          have g4 : (hx.2.1 70 53).toInt ≤ 3000 := (hvx.2.1 70 53).2
          exact gi_iret (pc := 79) (ti_c (v := 0) (a := 0) (by decide)) ⟨_, rfl, (by rw [show (0 : Int32).toInt = 0 from (ti_c (v := 0) (a := 0) (by decide))]; omega), (by rw [show (0 : Int32).toInt = 0 from (ti_c (v := 0) (a := 0) (by decide))]; omega), hvx, (by omega), (by rw [show (0 : Int32).toInt = 0 from (ti_c (v := 0) (a := 0) (by decide))]; exact k2.symm.trans kf), fxx⟩ hvx dX8_goesBlock_79
        ·
          have k5 := if_f kL q1
          have gml := gmi_s l3.toInt
          have iq : II h.2.1 S l3.toInt ∧ V h.2.1 88 l3.toInt = a2.toInt := by rcases x0 with z | z; (omega); (exact z)
          have t2 := (hr.1.1.2.2.1 l3.toInt iq.1).2
          rw [iq.2] at t2
          have dm : 30 * (30 - l2.toInt) + 3 * (7 - V h.2.1 80 l3.toInt) + 2 ≤ nn := by rcases t2 with z | z; (have q := hg.1 z.1; omega); (have q := hg.2 (by omega); omega)
          refine go_aload_n (pc := 12) rfl dX8_goesBlock_12 ?_
          refine gi_getF (pc := 13) (q := 77) hvx fL_X8_29 rfl (Nat.le_of_ble_eq_true rfl) rfl (hvx.rf (by decide)) dX8_goesBlock_13 ?_
          refine go_iload_n (pc := 16) rfl dX8_goesBlock_16 ?_
          refine gi_iald (pc := 17) (lo := 0) (hi := 6) (len := 260) hvx (ti_rfl l3) rfl (by omega) (by omega) (fun _ => rfl) dX8_goesBlock_17 (fun v6 v6l v6u v6w => ?_)
          have k7 := bd_e k5 (congrArg Int32.toInt v6w.symm)
          have v6V : v6.toInt = V h.2.1 77 l3.toInt := by rw [v6w, hvx.fz (c := 77) (by omega) (by omega), ← hv.fz (c := 77) (by omega) (by omega)]; rfl
          refine go_bipush (pc := 18) (v := 6) (by decide) dX8_goesBlock_18 ?_
          refine gf_icmp_ne (pc := 20) (tgt := 32) (ti_rfl v6) (ti_c (v := 6) (a := 6) (by decide)) (by decide) dX8_goesBlock_20 (fun q8 => ?_) (fun q8 => ?_)
          ·
            have k9 := if_t k7 q8
            refine go_aload_n (pc := 32) rfl dX8_goesBlock_32 ?_
            refine gx_getL (pc := 33) hvx fL_X8_424 rfl (Nat.le_of_ble_eq_true rfl) rfl dX8_goesBlock_33 (fun v10 v10w => ?_)
            have k11 := bd_e k9 v10w.symm
            refine go_aload_n (pc := 36) rfl dX8_goesBlock_36 ?_
            refine gi_getF (pc := 37) (q := 78) hvx fL_X8_32 rfl (Nat.le_of_ble_eq_true rfl) rfl (hvx.rf (by decide)) dX8_goesBlock_37 ?_
            refine go_iload_n (pc := 40) rfl dX8_goesBlock_40 ?_
            refine gi_iald (pc := 41) (lo := -1) (hi := 39) (len := 260) hvx (ti_rfl l3) rfl (by omega) (by omega) (fun _ => rfl) dX8_goesBlock_41 (fun v12 v12l v12u v12w => ?_)
            have k13 := bd_e k11 (congrArg Int32.toInt v12w.symm)
            have v12V : v12.toInt = V h.2.1 78 l3.toInt := by rw [v12w, hvx.fz (c := 78) (by omega) (by omega), ← hv.fz (c := 78) (by omega) (by omega)]; rfl
            refine go_invS (pc := 42) (sl := 0) (s_X8_has_f l (d + 0) hvx v10 v12) mL_X8_280 iM_X8_has rfl rfl (Nat.le_of_ble_eq_true rfl) (show d + 0 + 1 + 1 ≤ d + 2 by omega) (show 8 + (3 + 11) + 40 * (d + 0 + 1) ≤ 40 * (d + 2) by omega) (g_c0 hvx.ln) (Nat.le_of_ble_eq_true rfl) dX8_goesBlock_42 ?_
            intro r h14 hq _
            obtain ⟨v16, rfl, v16l, v16u, rfl, f15⟩ := hq
            replace f15 : PE _ _ := f15
            have k17 := bd_e k13 f15.symm
            refine gf_if_eq (pc := 45) (tgt := 57) (ti_rfl v16) (by decide) dX8_goesBlock_45 (fun q18 => ?_) (fun q18 => ?_)
            ·
              have k19 := if_t k17 q18
              refine go_iconst (pc := 57) (v := 0) (by decide) dX8_goesBlock_57 ?_
              refine go_istore (pc := 58) (Nat.le_of_ble_eq_true rfl) dX8_goesBlock_58 (go_lv (lv2 := [(0, .ref 70), (2, .int l2), (3, .int l3), (4, .int 0)]) rfl ?_)
              refine go_iload (pc := 60) rfl dX8_goesBlock_60 ?_
              refine gf_if_eq (pc := 62) (tgt := 68) (ti_c (v := 0) (a := 0) (by decide)) (by decide) dX8_goesBlock_62 (fun q20 => ?_) (fun q20 => False.elim (by omega))
              refine go_aload_n (pc := 68) rfl dX8_goesBlock_68 ?_
              refine gi_getF (pc := 69) (q := 87) hvx fL_X8_59 rfl (Nat.le_of_ble_eq_true rfl) rfl (hvx.rf (by decide)) dX8_goesBlock_69 ?_
              refine go_iload_n (pc := 72) rfl dX8_goesBlock_72 ?_
              refine gi_iald (pc := 73) (lo := -1) (hi := 259) (len := 260) hvx (ti_rfl l3) rfl (by omega) (by omega) (fun _ => rfl) dX8_goesBlock_73 (fun v21 v21l v21u v21w => ?_)
              have k22 := bd_e k19 (congrArg Int32.toInt v21w.symm)
              have v21V : v21.toInt = V h.2.1 87 l3.toInt := by rw [v21w, hvx.fz (c := 87) (by omega) (by omega), ← hv.fz (c := 87) (by omega) (by omega)]; rfl
              have t1 := hr.1.1.2.1 l3.toInt iq.1
              unfold T1 at t1
              rw [← v21V] at t1
              have gmn := gmi_s v21.toInt
              have t1m : v21.toInt = -1 ∨ l3.toInt < v21.toInt := by rcases t1 with z | z; (exact Or.inl z); (exact Or.inr z.1)
              refine go_istore_n (pc := 74) (Nat.le_of_ble_eq_true rfl) dX8_goesBlock_74 (go_lv (lv2 := [(0, .ref 70), (2, .int l2), (3, .int v21), (4, .int 0)]) rfl ?_)
              refine go_goto (pc := 75) (tgt := 7) (by decide) dX8_goesBlock_75 ?_
              have g23 : (0 : Int) ≤ (hx.2.1 70 53).toInt := (hvx.2.1 70 53).1
              have g24 : (hx.2.1 70 53).toInt ≤ 3000 := (hvx.2.1 70 53).2
              exact go_lv rfl (ih l2 v21 hx hvx (by omega) (by omega) (by omega) (by omega) (by rcases t1 with z | z; (exact Or.inl z); (exact Or.inr ⟨⟨by have q := iq.1.1; omega, z.2.1⟩, z.2.2.trans iq.2⟩)) (by omega) (by omega) (gmi_lo (by omega)) (by omega) (by omega) fxx k22 (by omega))
            ·
              have k25 := if_f k17 q18
              refine go_aload_n (pc := 48) rfl dX8_goesBlock_48 ?_
              refine go_iload_n (pc := 49) rfl dX8_goesBlock_49 ?_
              refine go_iload_n (pc := 50) rfl dX8_goesBlock_50 ?_
              have sM26 : (hx.2.1 70 6).toInt = S := by rw [hvx.fy (j := 6) (by omega), ← hv.fy (j := 6) (by omega)]; exact hS.symm
              have g27 : (0 : Int) ≤ (hx.2.1 70 53).toInt := (hvx.2.1 70 53).1
              have g28 : (hx.2.1 70 53).toInt ≤ 3000 := (hvx.2.1 70 53).2
              refine go_invV (pc := 51) (sl := 0) (ihD hvx l3 (by rw [show (l3 : Int32).toInt = l3.toInt from (ti_rfl l3)]; omega) (by rw [show (l3 : Int32).toInt = l3.toInt from (ti_rfl l3)]; omega) l2 (by rw [show (l2 : Int32).toInt = l2.toInt from (ti_rfl l2)]; omega) (by rw [show (l2 : Int32).toInt = l2.toInt from (ti_rfl l2)]; omega) (by rw [sM26]; exact (RT2.ve (VE.of hv hvx) hr)) (by rw [sM26]; exact (by rw [hvx.fy (j := 29) (by omega), ← hv.fy (j := 29) (by omega)]; exact hl)) (CKF.ve (VE.of hv hvx) ckf) (by rw [sM26]; exact ((II.ve (VE.of hv hvx)).mpr iq.1)) (by rw [VE.v (VE.of hv hvx) (c := 77) (by omega) (by omega)]; omega) (by rw [VE.v (VE.of hv hvx) (c := 80) (by omega) (by omega)]; omega)) mL_X8_428 iM_X8_does sM_X8_does (hvx.sh rfl) rfl rfl rfl (Nat.le_of_ble_eq_true rfl) (show d + 1 + 1 ≤ d + 2 by omega) (show 8 + (6 + 11) + 40 * (d + 1) ≤ 40 * (d + 2) by omega) (g_c0 hvx.ln) (Nat.le_of_ble_eq_true rfl) dX8_goesBlock_51 ?_
              intro r h29 hq _
              obtain ⟨v33, rfl, v33l, v33u, hv29, f30, f31, f32⟩ := hq
              have fx29 : FX KAq h h29 := FX.tr fxx f32
              have k34 := bd2_e k25 f31
              obtain ⟨u35, u35w⟩ : ∃ v : Int32, v = h29.2.1 70 53 := ⟨_, rfl⟩
              have u35e : (h29.2.1 70 53).toInt = u35.toInt := by rw [u35w]
              have u35l : 0 ≤ u35.toInt := by rw [u35w]; exact (hv29.2.1 70 53).1
              have u35u : u35.toInt ≤ 3000 := by rw [u35w]; exact (hv29.2.1 70 53).2
              have k36 := k34
              refine go_goto (pc := 54) (tgt := 58) (by decide) dX8_goesBlock_54 ?_
              refine go_istore (pc := 58) (Nat.le_of_ble_eq_true rfl) dX8_goesBlock_58 (go_lv (lv2 := [(0, .ref 70), (2, .int l2), (3, .int l3), (4, .int v33)]) rfl ?_)
              refine go_iload (pc := 60) rfl dX8_goesBlock_60 ?_
              refine gf_if_eq (pc := 62) (tgt := 68) (ti_rfl v33) (by decide) dX8_goesBlock_62 (fun q37 => ?_) (fun q37 => ?_)
              ·
                have k38 := if_t k36 q37
                refine go_aload_n (pc := 68) rfl dX8_goesBlock_68 ?_
                refine gi_getF (pc := 69) (q := 87) hv29 fL_X8_59 rfl (Nat.le_of_ble_eq_true rfl) rfl (hv29.rf (by decide)) dX8_goesBlock_69 ?_
                refine go_iload_n (pc := 72) rfl dX8_goesBlock_72 ?_
                refine gi_iald (pc := 73) (lo := -1) (hi := 259) (len := 260) hv29 (ti_rfl l3) rfl (by omega) (by omega) (fun _ => rfl) dX8_goesBlock_73 (fun v39 v39l v39u v39w => ?_)
                have k40 := bd_e k38 (congrArg Int32.toInt v39w.symm)
                have v39V : v39.toInt = V h.2.1 87 l3.toInt := by rw [v39w, hv29.fz (c := 87) (by omega) (by omega), ← hv.fz (c := 87) (by omega) (by omega)]; rfl
                have t1 := hr.1.1.2.1 l3.toInt iq.1
                unfold T1 at t1
                rw [← v39V] at t1
                have gmn := gmi_s v39.toInt
                have t1m : v39.toInt = -1 ∨ l3.toInt < v39.toInt := by rcases t1 with z | z; (exact Or.inl z); (exact Or.inr z.1)
                refine go_istore_n (pc := 74) (Nat.le_of_ble_eq_true rfl) dX8_goesBlock_74 (go_lv (lv2 := [(0, .ref 70), (2, .int l2), (3, .int v39), (4, .int v33)]) rfl ?_)
                refine go_goto (pc := 75) (tgt := 7) (by decide) dX8_goesBlock_75 ?_
                have g41 : (0 : Int) ≤ (h29.2.1 70 53).toInt := (hv29.2.1 70 53).1
                have g42 : (h29.2.1 70 53).toInt ≤ 3000 := (hv29.2.1 70 53).2
                have g43 : (h29.2.1 70 53).toInt = u35.toInt := by rw [← (show u35 = h29.2.1 70 53 from u35w)] <;> exact (ti_rfl u35)
                exact go_lv rfl (ih l2 v39 h29 hv29 (by omega) (by omega) (by omega) (by omega) (by rcases t1 with z | z; (exact Or.inl z); (exact Or.inr ⟨⟨by have q := iq.1.1; omega, z.2.1⟩, z.2.2.trans iq.2⟩)) (by omega) (by omega) (gmi_lo (by omega)) (by omega) (by omega) fx29 k40 (by omega))
              ·
                have k44 := if_f k36 q37
                refine go_iload (pc := 65) rfl dX8_goesBlock_65 ?_
                have g45 : (0 : Int) ≤ (h29.2.1 70 53).toInt := (hv29.2.1 70 53).1
                have g46 : (h29.2.1 70 53).toInt ≤ 3000 := (hv29.2.1 70 53).2
                have g47 : (h29.2.1 70 53).toInt = u35.toInt := by rw [← (show u35 = h29.2.1 70 53 from u35w)] <;> exact (ti_rfl u35)
                exact gi_iret (pc := 67) (ti_rfl v33) ⟨_, rfl, (by rw [show (v33 : Int32).toInt = v33.toInt from (ti_rfl v33)]; omega), (by rw [show (v33 : Int32).toInt = v33.toInt from (ti_rfl v33)]; omega), hv29, (by omega), (k44.symm.trans kf), fx29⟩ hv29 dX8_goesBlock_67
          ·
            have k48 := if_f k7 (fun z => z q8)
            refine go_aload_n (pc := 23) rfl dX8_goesBlock_23 ?_
            refine go_iload_n (pc := 24) rfl dX8_goesBlock_24 ?_
            refine go_iload_n (pc := 25) rfl dX8_goesBlock_25 ?_
            have sM49 : (hx.2.1 70 6).toInt = S := by rw [hvx.fy (j := 6) (by omega), ← hv.fy (j := 6) (by omega)]; exact hS.symm
            have g50 : (0 : Int) ≤ (hx.2.1 70 53).toInt := (hvx.2.1 70 53).1
            have g51 : (hx.2.1 70 53).toInt ≤ 3000 := (hvx.2.1 70 53).2
            refine go_invV (pc := 26) (sl := 0) (ihY hvx l3 (by rw [show (l3 : Int32).toInt = l3.toInt from (ti_rfl l3)]; omega) (by rw [show (l3 : Int32).toInt = l3.toInt from (ti_rfl l3)]; omega) l2 (by rw [show (l2 : Int32).toInt = l2.toInt from (ti_rfl l2)]; omega) (by rw [show (l2 : Int32).toInt = l2.toInt from (ti_rfl l2)]; omega) (by rw [sM49]; exact (RT2.ve (VE.of hv hvx) hr)) (by rw [sM49]; exact (by rw [hvx.fy (j := 29) (by omega), ← hv.fy (j := 29) (by omega)]; exact hl)) (CKF.ve (VE.of hv hvx) ckf) (by rw [sM49]; exact ((II.ve (VE.of hv hvx)).mpr iq.1)) (by rw [VE.v (VE.of hv hvx) (c := 77) (by omega) (by omega)]; omega) (by rw [VE.v (VE.of hv hvx) (c := 80) (by omega) (by omega)]; omega)) mL_X8_421 iM_X8_tries sM_X8_tries (hvx.sh rfl) rfl rfl rfl (Nat.le_of_ble_eq_true rfl) (show d + 1 + 1 ≤ d + 2 by omega) (show 8 + (4 + 11) + 40 * (d + 1) ≤ 40 * (d + 2) by omega) (g_c0 hvx.ln) (Nat.le_of_ble_eq_true rfl) dX8_goesBlock_26 ?_
            intro r h52 hq _
            obtain ⟨v56, rfl, v56l, v56u, hv52, f53, f54, f55⟩ := hq
            have fx52 : FX KAq h h52 := FX.tr fxx f55
            have k57 := bd2_e k48 f54
            obtain ⟨u58, u58w⟩ : ∃ v : Int32, v = h52.2.1 70 53 := ⟨_, rfl⟩
            have u58e : (h52.2.1 70 53).toInt = u58.toInt := by rw [u58w]
            have u58l : 0 ≤ u58.toInt := by rw [u58w]; exact (hv52.2.1 70 53).1
            have u58u : u58.toInt ≤ 3000 := by rw [u58w]; exact (hv52.2.1 70 53).2
            have k59 := k57
            refine go_goto (pc := 29) (tgt := 58) (by decide) dX8_goesBlock_29 ?_
            refine go_istore (pc := 58) (Nat.le_of_ble_eq_true rfl) dX8_goesBlock_58 (go_lv (lv2 := [(0, .ref 70), (2, .int l2), (3, .int l3), (4, .int v56)]) rfl ?_)
            refine go_iload (pc := 60) rfl dX8_goesBlock_60 ?_
            refine gf_if_eq (pc := 62) (tgt := 68) (ti_rfl v56) (by decide) dX8_goesBlock_62 (fun q60 => ?_) (fun q60 => ?_)
            ·
              have k61 := if_t k59 q60
              refine go_aload_n (pc := 68) rfl dX8_goesBlock_68 ?_
              refine gi_getF (pc := 69) (q := 87) hv52 fL_X8_59 rfl (Nat.le_of_ble_eq_true rfl) rfl (hv52.rf (by decide)) dX8_goesBlock_69 ?_
              refine go_iload_n (pc := 72) rfl dX8_goesBlock_72 ?_
              refine gi_iald (pc := 73) (lo := -1) (hi := 259) (len := 260) hv52 (ti_rfl l3) rfl (by omega) (by omega) (fun _ => rfl) dX8_goesBlock_73 (fun v62 v62l v62u v62w => ?_)
              have k63 := bd_e k61 (congrArg Int32.toInt v62w.symm)
              have v62V : v62.toInt = V h.2.1 87 l3.toInt := by rw [v62w, hv52.fz (c := 87) (by omega) (by omega), ← hv.fz (c := 87) (by omega) (by omega)]; rfl
              have t1 := hr.1.1.2.1 l3.toInt iq.1
              unfold T1 at t1
              rw [← v62V] at t1
              have gmn := gmi_s v62.toInt
              have t1m : v62.toInt = -1 ∨ l3.toInt < v62.toInt := by rcases t1 with z | z; (exact Or.inl z); (exact Or.inr z.1)
              refine go_istore_n (pc := 74) (Nat.le_of_ble_eq_true rfl) dX8_goesBlock_74 (go_lv (lv2 := [(0, .ref 70), (2, .int l2), (3, .int v62), (4, .int v56)]) rfl ?_)
              refine go_goto (pc := 75) (tgt := 7) (by decide) dX8_goesBlock_75 ?_
              have g64 : (0 : Int) ≤ (h52.2.1 70 53).toInt := (hv52.2.1 70 53).1
              have g65 : (h52.2.1 70 53).toInt ≤ 3000 := (hv52.2.1 70 53).2
              have g66 : (h52.2.1 70 53).toInt = u58.toInt := by rw [← (show u58 = h52.2.1 70 53 from u58w)] <;> exact (ti_rfl u58)
              exact go_lv rfl (ih l2 v62 h52 hv52 (by omega) (by omega) (by omega) (by omega) (by rcases t1 with z | z; (exact Or.inl z); (exact Or.inr ⟨⟨by have q := iq.1.1; omega, z.2.1⟩, z.2.2.trans iq.2⟩)) (by omega) (by omega) (gmi_lo (by omega)) (by omega) (by omega) fx52 k63 (by omega))
            ·
              have k67 := if_f k59 q60
              refine go_iload (pc := 65) rfl dX8_goesBlock_65 ?_
              have g68 : (0 : Int) ≤ (h52.2.1 70 53).toInt := (hv52.2.1 70 53).1
              have g69 : (h52.2.1 70 53).toInt ≤ 3000 := (hv52.2.1 70 53).2
              have g70 : (h52.2.1 70 53).toInt = u58.toInt := by rw [← (show u58 = h52.2.1 70 53 from u58w)] <;> exact (ti_rfl u58)
              exact gi_iret (pc := 67) (ti_rfl v56) ⟨_, rfl, (by rw [show (v56 : Int32).toInt = v56.toInt from (ti_rfl v56)]; omega), (by rw [show (v56 : Int32).toInt = v56.toInt from (ti_rfl v56)]; omega), hv52, (by omega), (k67.symm.trans kf), fx52⟩ hv52 dX8_goesBlock_67
  refine go_aload_n (pc := 0) rfl dX8_goesBlock_0 ?_
  refine gi_getF (pc := 1) (q := 90) hv fL_X8_68 rfl (Nat.le_of_ble_eq_true rfl) rfl (hv.rf (by decide)) dX8_goesBlock_1 ?_
  refine go_iload_n (pc := 4) rfl dX8_goesBlock_4 ?_
  refine gi_iald (pc := 5) (lo := -1) (hi := 259) (len := 560) hv (ti_rfl a2) rfl (by omega) (by omega) (fun _ => rfl) dX8_goesBlock_5 (fun v71 v71l v71u v71w => ?_)
  have k72 := bd_e k0 (congrArg Int32.toInt v71w.symm)
  have v71V : v71.toInt = V h.2.1 90 a2.toInt := by rw [v71w]; rfl
  have gma := gmi_s v71.toInt
  refine go_istore_n (pc := 6) (Nat.le_of_ble_eq_true rfl) dX8_goesBlock_6 (go_lv (lv2 := [(0, .ref 70), (1, .int a2), (2, .int a3), (3, .int v71)]) rfl ?_)
  have g73 : (0 : Int) ≤ (h.2.1 70 53).toInt := (hv.2.1 70 53).1
  have g74 : (h.2.1 70 53).toInt ≤ 3000 := (hv.2.1 70 53).2
  exact go_lv rfl ((key 1001) a3 v71 h hv (by omega) (by omega) (by omega) (by omega) (by rw [v71V]; exact (hr.1.1.2.2.2.2.2.1 a2.toInt hb).1) (by omega) (by omega) (gmi_lo (by omega)) (by omega) (by omega) fx k72 (by omega))
def f_X8_tries_b (g_X8_goesBlock : ST → Int → Int → ST × Int) (s : ST) (a2 : Int) (a3 : Int) : ST × Int :=
  bd (s.1 85 (a2).toNat) fun v1 => bd2 (g_X8_goesBlock s v1 a3) fun s7 v11 => if v11 = 2 then (bd (s7.1 82 (a2).toNat) fun v19 => bd (s7.1 70 52) fun v23 => bd (sI s7 114 (((6 * a3) + v19)).toNat v23) fun s25 => bd (s25.1 86 (a2).toNat) fun v27 => bd2 (g_X8_goesBlock s25 v27 a3) fun s34 v38 => (s34, v38)) else ((s7, v11))
set_option maxHeartbeats 4000000 in
set_option maxRecDepth 100000 in
theorem s_X8_tries_b_f (l : Launch) (d : Nat) {nn : Nat} (g_X8_goesBlock : ST → Int → Int → ST × Int) (ihG : ∀ {P : PP} {h : HP} (_ : Iv P h) (a2 : Int32) (a2l : 0 ≤ a2.toInt) (a2u : a2.toInt ≤ 559) (a3 : Int32) (a3l : 0 ≤ a3.toInt) (a3u : a3.toInt ≤ 30) (hr : RD h.2.1 (h.2.1 70 6).toInt ∧ TD h.2.1 (h.2.1 70 6).toInt) (hl : (h.2.1 70 29).toInt = (h.2.1 70 6).toInt) (ckf : CKF h.2.1) (hb : BB h.2.1 (h.2.1 70 6).toInt a2.toInt) (hg : (V h.2.1 92 a2.toInt = -1 → 30 * (30 - a3.toInt) + 24 ≤ (nn : Int)) ∧ (0 ≤ V h.2.1 92 a2.toInt → 30 * (30 - a3.toInt) + 3 * (6 - V h.2.1 80 (V h.2.1 92 a2.toInt)) + 3 ≤ (nn : Int))), Mt l yX8_goesBlock cX8_goesBlock 5 (some .int) (d + 0) [.ref 70, .int a2, .int a3] h 0 0 (fun r h' => ∃ v : Int32, r = some (.int v) ∧ 0 ≤ v.toInt ∧ v.toInt ≤ 3 ∧ Iv P h' ∧ ((h.2.1 70 53).toInt ≤ (h'.2.1 70 53).toInt) ∧ ((st h', v.toInt) = g_X8_goesBlock (st h) a2.toInt a3.toInt) ∧ (FX KAq h h'))) {P : PP} {h : HP} (hv : Iv P h) (a2 : Int32) (a2l : 0 ≤ a2.toInt) (a2u : a2.toInt ≤ 259) (a3 : Int32) (a3l : 0 ≤ a3.toInt) (a3u : a3.toInt ≤ 30) (hr : RD h.2.1 (h.2.1 70 6).toInt ∧ TD h.2.1 (h.2.1 70 6).toInt) (hl : (h.2.1 70 29).toInt = (h.2.1 70 6).toInt) (ckf : CKF h.2.1) (hi : II h.2.1 (h.2.1 70 6).toInt a2.toInt) (hk : V h.2.1 77 a2.toInt = 6) (hg : 30 * (30 - a3.toInt) + 3 * (7 - V h.2.1 80 a2.toInt) + 2 ≤ ((nn + 1 : Nat) : Int)) : Mt l yX8_tries cX8_tries 4 (some .int) (d + 1) [.ref 70, .int a2, .int a3] h 0 0 (fun r h' => ∃ v : Int32, r = some (.int v) ∧ 0 ≤ v.toInt ∧ v.toInt ≤ 3 ∧ Iv P h' ∧ ((h.2.1 70 53).toInt ≤ (h'.2.1 70 53).toInt) ∧ ((st h', v.toInt) = f_X8_tries_b g_X8_goesBlock (st h) a2.toInt a3.toInt) ∧ (FX KAq h h')) := by
  refine Mt_iv hv (by decide) (Nat.le_of_ble_eq_true rfl) ?_
  show Go l RX8 cX8_tries 4 (g_rm (d + 1) 0 0) "tries" (some .int) 117 0 0 (fun _ _ => True) (fun r h' => ∃ v : Int32, r = some (.int v) ∧ 0 ≤ v.toInt ∧ v.toInt ≤ 3 ∧ Iv P h' ∧ ((h.2.1 70 53).toInt ≤ (h'.2.1 70 53).toInt) ∧ ((st h', v.toInt) = f_X8_tries_b g_X8_goesBlock (st h) a2.toInt a3.toInt) ∧ (FX KAq h h')) 0 0 [(0, .ref 70), (1, .int a2), (2, .int a3)] [] h
  obtain ⟨S, hS⟩ : ∃ S : Int, S = (h.2.1 70 6).toInt := ⟨_, rfl⟩
  have S0 : 0 ≤ S := by rw [hS]; exact (hv.2.1 70 6).1
  have S1 : S ≤ 1 := by rw [hS]; exact (hv.2.1 70 6).2
  rw [← hS] at hr
  rw [← hS] at hl
  rw [← hS] at hi
  have fx : FX KAq h h := FX.rfl
  obtain ⟨fin, kf⟩ : ∃ z, z = f_X8_tries_b g_X8_goesBlock (st h) a2.toInt a3.toInt := ⟨_, _root_.rfl⟩
  have k0 := kf
  unfold f_X8_tries_b at k0
  have cc := (hr.1.2.1 a2.toInt hi.1 hi.2).2
  have cd := (hr.1.2.1 a2.toInt hi.1 hi.2).1
  have t3 := hr.1.1.2.2.2.1 a2.toInt hi
  have r8 : V h.2.1 80 a2.toInt ≤ 6 := (hv.2.1 80 _).2
  have c6 := cc.1 hk
  refine go_aload_n (pc := 0) rfl dX8_tries_0 ?_
  refine go_aload_n (pc := 1) rfl dX8_tries_1 ?_
  refine gi_getF (pc := 2) (q := 85) hv fL_X8_53 rfl (Nat.le_of_ble_eq_true rfl) rfl (hv.rf (by decide)) dX8_tries_2 ?_
  refine go_iload_n (pc := 5) rfl dX8_tries_5 ?_
  refine gi_iald (pc := 6) (lo := -1) (hi := 559) (len := 260) hv (ti_rfl a2) rfl (by omega) (by omega) (fun _ => rfl) dX8_tries_6 (fun v1 v1l v1u v1w => ?_)
  have k2 := bd_e k0 (congrArg Int32.toInt v1w.symm)
  have v1V : v1.toInt = V h.2.1 85 a2.toInt := by rw [v1w]; rfl
  refine go_iload_n (pc := 7) rfl dX8_tries_7 ?_
  rcases (hr.1.1.2.2.2.2.1 a2.toInt hi).1 with t43 | t43
  · exact False.elim (by omega)
  have sM4 : (h.2.1 70 6).toInt = S := by rw [hv.fy (j := 6) (by omega), ← hv.fy (j := 6) (by omega)]; exact hS.symm
  have g5 : (0 : Int) ≤ (h.2.1 70 53).toInt := (hv.2.1 70 53).1
  have g6 : (h.2.1 70 53).toInt ≤ 3000 := (hv.2.1 70 53).2
  refine go_invV (pc := 8) (sl := 0) (ihG hv v1 (by rw [show (v1 : Int32).toInt = v1.toInt from (ti_rfl v1)]; omega) (by rw [show (v1 : Int32).toInt = v1.toInt from (ti_rfl v1)]; omega) a3 (by rw [show (a3 : Int32).toInt = a3.toInt from (ti_rfl a3)]; omega) (by rw [show (a3 : Int32).toInt = a3.toInt from (ti_rfl a3)]; omega) (by rw [sM4]; exact (RT2.ve (VE.of hv hv) hr)) (by rw [sM4]; exact (by rw [hv.fy (j := 29) (by omega), ← hv.fy (j := 29) (by omega)]; exact hl)) (CKF.ve (VE.of hv hv) ckf) (by rw [sM4]; exact (by rw [v1V]; exact (BB.ve (VE.of hv hv)).mpr t43.1)) (by rw [v1V, VE.v (VE.of hv hv) (c := 92) (by omega) (by omega), t43.2]; exact ⟨fun q => by omega, fun q => by rw [VE.v (VE.of hv hv) (c := 80) (by omega) (by omega)]; omega⟩)) mL_X8_431 iM_X8_goesBlock sM_X8_goesBlock (hv.sh rfl) rfl rfl rfl (Nat.le_of_ble_eq_true rfl) (show d + 0 + 1 ≤ d + 1 by omega) (show 8 + (5 + 11) + 40 * (d + 0) ≤ 40 * (d + 1) by omega) (g_c0 hv.ln) (Nat.le_of_ble_eq_true rfl) dX8_tries_8 ?_
  intro r h7 hq _
  obtain ⟨v11, rfl, v11l, v11u, hv7, f8, f9, f10⟩ := hq
  have fx7 : FX KAq h h7 := FX.tr fx f10
  have k12 := bd2_e k2 f9
  obtain ⟨u13, u13w⟩ : ∃ v : Int32, v = h7.2.1 70 53 := ⟨_, rfl⟩
  have u13e : (h7.2.1 70 53).toInt = u13.toInt := by rw [u13w]
  have u13l : 0 ≤ u13.toInt := by rw [u13w]; exact (hv7.2.1 70 53).1
  have u13u : u13.toInt ≤ 3000 := by rw [u13w]; exact (hv7.2.1 70 53).2
  have k14 := k12
  refine go_istore_n (pc := 11) (Nat.le_of_ble_eq_true rfl) dX8_tries_11 (go_lv (lv2 := [(0, .ref 70), (1, .int a2), (2, .int a3), (3, .int v11)]) rfl ?_)
  refine go_iload_n (pc := 12) rfl dX8_tries_12 ?_
  refine go_iconst (pc := 13) (v := 2) (by decide) dX8_tries_13 ?_
  refine gf_icmp_eq (pc := 14) (tgt := 19) (ti_rfl v11) (ti_c (v := 2) (a := 2) (by decide)) (by decide) dX8_tries_14 (fun q15 => ?_) (fun q15 => ?_)
  ·
    have k16 := if_t k14 q15
    refine go_aload_n (pc := 19) rfl dX8_tries_19 ?_
    refine gi_getF (pc := 20) (q := 114) hv7 fL_X8_142 rfl (Nat.le_of_ble_eq_true rfl) rfl (hv7.rf (by decide)) dX8_tries_20 ?_
    refine go_bipush (pc := 23) (v := 6) (by decide) dX8_tries_23 ?_
    refine go_iload_n (pc := 25) rfl dX8_tries_25 ?_
    refine gf_imul (pc := 26) (ti_c (v := 6) (a := 6) (by decide)) (ti_rfl a3) (by omega) (by omega) dX8_tries_26 (fun v17 e18 => ?_)
    refine go_aload_n (pc := 27) rfl dX8_tries_27 ?_
    refine gi_getF (pc := 28) (q := 82) hv7 fL_X8_44 rfl (Nat.le_of_ble_eq_true rfl) rfl (hv7.rf (by decide)) dX8_tries_28 ?_
    refine go_iload_n (pc := 31) rfl dX8_tries_31 ?_
    refine gi_iald (pc := 32) (lo := -1) (hi := 9) (len := 260) hv7 (ti_rfl a2) rfl (by omega) (by omega) (fun _ => rfl) dX8_tries_32 (fun v19 v19l v19u v19w => ?_)
    have k20 := bd_e k16 (congrArg Int32.toInt v19w.symm)
    have v19V : v19.toInt = V h.2.1 82 a2.toInt := by rw [v19w, hv7.fz (c := 82) (by omega) (by omega), ← hv.fz (c := 82) (by omega) (by omega)]; rfl
    have k5 : 0 ≤ v19.toInt ∧ v19.toInt ≤ 5 := by omega
    refine gf_iadd (pc := 33) e18 (ti_rfl v19) (by omega) (by omega) dX8_tries_33 (fun v21 e22 => ?_)
    refine go_aload_n (pc := 34) rfl dX8_tries_34 ?_
    refine gi_get (pc := 35) (lo := -2147483648) (hi := 2147483647) hv7 fL_X8_434 rfl (Nat.le_of_ble_eq_true rfl) rfl rfl dX8_tries_35 (fun v23 v23l v23u v23w => ?_)
    have k24 := bd_e k20 (congrArg Int32.toInt v23w.symm)
    refine gi_iast (pc := 38) (lo := -2147483648) (hi := 2147483647) (len := 192) hv7 e22 (ti_rfl v23) rfl (by omega) (by omega) (fun _ => rfl) (ti_ge (ti_rfl v23)) (ti_le2 (ti_rfl v23)) (by decide) dX8_tries_38 (fun h25 hv25 hv25e => ?_)
    have fx25 : FX KAq h h25 := FX.pI fx7 hv25e (by unfold KAq; omega)
    have k26 := bd_e k24 (st_I hv25e (ti_rfl v23))
    refine go_aload_n (pc := 39) rfl dX8_tries_39 ?_
    refine go_aload_n (pc := 40) rfl dX8_tries_40 ?_
    refine gi_getF (pc := 41) (q := 86) hv25 fL_X8_56 rfl (Nat.le_of_ble_eq_true rfl) rfl (hv25.rf (by decide)) dX8_tries_41 ?_
    refine go_iload_n (pc := 44) rfl dX8_tries_44 ?_
    refine gi_iald (pc := 45) (lo := -1) (hi := 559) (len := 260) hv25 (ti_rfl a2) rfl (by omega) (by omega) (fun _ => rfl) dX8_tries_45 (fun v27 v27l v27u v27w => ?_)
    have k28 := bd_e k26 (congrArg Int32.toInt v27w.symm)
    have v27V : v27.toInt = V h.2.1 86 a2.toInt := by rw [v27w, hv25.fz (c := 86) (by omega) (by omega), ← hv.fz (c := 86) (by omega) (by omega)]; rfl
    refine go_iload_n (pc := 46) rfl dX8_tries_46 ?_
    rcases (hr.1.1.2.2.2.2.1 a2.toInt hi).2 with t429 | t429
    · exact False.elim (by omega)
    have sM30 : (h25.2.1 70 6).toInt = S := by rw [hv25.fy (j := 6) (by omega), ← hv.fy (j := 6) (by omega)]; exact hS.symm
    have g31 : (0 : Int) ≤ (h25.2.1 70 53).toInt := (hv25.2.1 70 53).1
    have g32 : (h25.2.1 70 53).toInt ≤ 3000 := (hv25.2.1 70 53).2
    have g33 : (h25.2.1 70 53).toInt = u13.toInt := by rw [← (show u13 = h25.2.1 70 53 from (show u13 = h25.2.1 70 53 from by rw [hv25e]; exact (g_iI rfl u13w.symm).symm))] <;> exact (ti_rfl u13)
    refine go_invV (pc := 47) (sl := 0) (ihG hv25 v27 (by rw [show (v27 : Int32).toInt = v27.toInt from (ti_rfl v27)]; omega) (by rw [show (v27 : Int32).toInt = v27.toInt from (ti_rfl v27)]; omega) a3 (by rw [show (a3 : Int32).toInt = a3.toInt from (ti_rfl a3)]; omega) (by rw [show (a3 : Int32).toInt = a3.toInt from (ti_rfl a3)]; omega) (by rw [sM30]; exact (RT2.ve (VE.of hv hv25) hr)) (by rw [sM30]; exact (by rw [hv25.fy (j := 29) (by omega), ← hv.fy (j := 29) (by omega)]; exact hl)) (CKF.ve (VE.of hv hv25) ckf) (by rw [sM30]; exact (by rw [v27V]; exact (BB.ve (VE.of hv hv25)).mpr t429.1)) (by rw [v27V, VE.v (VE.of hv hv25) (c := 92) (by omega) (by omega), t429.2]; exact ⟨fun q => by omega, fun q => by rw [VE.v (VE.of hv hv25) (c := 80) (by omega) (by omega)]; omega⟩)) mL_X8_431 iM_X8_goesBlock sM_X8_goesBlock (hv25.sh rfl) rfl rfl rfl (Nat.le_of_ble_eq_true rfl) (show d + 0 + 1 ≤ d + 1 by omega) (show 8 + (5 + 11) + 40 * (d + 0) ≤ 40 * (d + 1) by omega) (g_c0 hv25.ln) (Nat.le_of_ble_eq_true rfl) dX8_tries_47 ?_
    intro r h34 hq _
    obtain ⟨v38, rfl, v38l, v38u, hv34, f35, f36, f37⟩ := hq
    have fx34 : FX KAq h h34 := FX.tr fx25 f37
    have k39 := bd2_e k28 f36
    obtain ⟨u40, u40w⟩ : ∃ v : Int32, v = h34.2.1 70 53 := ⟨_, rfl⟩
    have u40e : (h34.2.1 70 53).toInt = u40.toInt := by rw [u40w]
    have u40l : 0 ≤ u40.toInt := by rw [u40w]; exact (hv34.2.1 70 53).1
    have u40u : u40.toInt ≤ 3000 := by rw [u40w]; exact (hv34.2.1 70 53).2
    have k41 := k39
    have g42 : (0 : Int) ≤ (h34.2.1 70 53).toInt := (hv34.2.1 70 53).1
    have g43 : (h34.2.1 70 53).toInt ≤ 3000 := (hv34.2.1 70 53).2
    have g44 : (h34.2.1 70 53).toInt = u40.toInt := by rw [← (show u40 = h34.2.1 70 53 from u40w)] <;> exact (ti_rfl u40)
    exact gi_iret (pc := 50) (ti_rfl v38) ⟨_, rfl, (by rw [show (v38 : Int32).toInt = v38.toInt from (ti_rfl v38)]; omega), (by rw [show (v38 : Int32).toInt = v38.toInt from (ti_rfl v38)]; omega), hv34, (by omega), (k41.symm.trans kf), fx34⟩ hv34 dX8_tries_50
  ·
    have k45 := if_f k14 q15
    refine go_iload_n (pc := 17) rfl dX8_tries_17 ?_
    have g46 : (0 : Int) ≤ (h7.2.1 70 53).toInt := (hv7.2.1 70 53).1
    have g47 : (h7.2.1 70 53).toInt ≤ 3000 := (hv7.2.1 70 53).2
    have g48 : (h7.2.1 70 53).toInt = u13.toInt := by rw [← (show u13 = h7.2.1 70 53 from u13w)] <;> exact (ti_rfl u13)
    exact gi_iret (pc := 18) (ti_rfl v11) ⟨_, rfl, (by rw [show (v11 : Int32).toInt = v11.toInt from (ti_rfl v11)]; omega), (by rw [show (v11 : Int32).toInt = v11.toInt from (ti_rfl v11)]; omega), hv7, (by omega), (k45.symm.trans kf), fx7⟩ hv7 dX8_tries_18
def f_X8_does_b (g_X8_calls_ : ST → Int → Int → Int → Int → ST × Int) (g_X8_goesBlock : ST → Int → Int → ST × Int) (g_X8_loops : ST → Int → Int → ST × Int) (s : ST) (a2 : Int) (a3 : Int) : ST × Int :=
  bd (s.1 70 53) fun v1 => if ¬ v1 = 3000 then (bd (sI s 70 53 ((v1 + 1))) fun s9 => bd (f_X8_number_ s9 a3 a2 0) fun v13 => bd (f_X8_number_ s9 a3 a2 1) fun v17 => bd (s9.1 77 (a2).toNat) fun v19 => if v19 = 0 then (bd (s9.1 83 (a2).toNat) fun v23 => if ¬ v23 = 0 then (bd (s9.1 83 (a2).toNat) fun v27 => bd (f_X8_worked s9 v27 v13 v17) fun v31 => bd (s9.1 82 (a2).toNat) fun v33 => bd (f_X8_tellsName_x s9 a3 v33 v31) fun s38 => bd (f_X8_sees_x s38 a2 v31) fun s48 => (s48, 0)) else (bd (s9.1 82 (a2).toNat) fun v59 => bd (f_X8_tellsName_x s9 a3 v59 v13) fun s64 => bd (f_X8_sees_x s64 a2 v13) fun s74 => (s74, 0))) else if v19 = 1 then (bd2 (g_X8_calls_ s9 a2 a3 v13 v17) fun s91 v95 => (s91, v95)) else if v19 = 2 then (if v17 ≤ v13 then (bd (f_X8_sees_x s9 a2 0) fun s110 => if v17 ≤ v13 then (bd (s110.1 86 (a2).toNat) fun v119 => if ¬ v119 = (-1) then (bd (s110.1 86 (a2).toNat) fun v123 => bd2 (g_X8_goesBlock s110 v123 a3) fun s130 v134 => (s130, v134)) else ((s110, 0))) else (bd (s110.1 85 (a2).toNat) fun v146 => bd2 (g_X8_goesBlock s110 v146 a3) fun s153 v157 => (s153, v157))) else (bd (f_X8_sees_x s9 a2 1) fun s168 => if v17 ≤ v13 then (bd (s168.1 86 (a2).toNat) fun v177 => if ¬ v177 = (-1) then (bd (s168.1 86 (a2).toNat) fun v181 => bd2 (g_X8_goesBlock s168 v181 a3) fun s188 v192 => (s188, v192)) else ((s168, 0))) else (bd (s168.1 85 (a2).toNat) fun v204 => bd2 (g_X8_goesBlock s168 v204 a3) fun s211 v215 => (s211, v215)))) else if v19 = 3 then (bd2 (g_X8_loops s9 a2 a3) fun s229 v233 => (s229, v233)) else bd (f_X8_sees_x s9 a2 v13) fun s244 => bd (sI s244 70 52 v13) fun s251 => bd (s251.1 77 (a2).toNat) fun v253 => if ¬ v253 = 4 then ((s251, 1)) else ((s251, 2))) else ((s, 3))
set_option maxHeartbeats 4000000 in
set_option maxRecDepth 100000 in
theorem s_X8_does_b_f (l : Launch) (d : Nat) {nn : Nat} (g_X8_calls_ : ST → Int → Int → Int → Int → ST × Int) (g_X8_goesBlock : ST → Int → Int → ST × Int) (g_X8_loops : ST → Int → Int → ST × Int) (ihC : ∀ {P : PP} {h : HP} (_ : Iv P h) (a2 : Int32) (a2l : 0 ≤ a2.toInt) (a2u : a2.toInt ≤ 259) (a3 : Int32) (a3l : 0 ≤ a3.toInt) (a3u : a3.toInt ≤ 30) (a4 : Int32) (a5 : Int32) (hr : RD h.2.1 (h.2.1 70 6).toInt ∧ TD h.2.1 (h.2.1 70 6).toInt) (hl : (h.2.1 70 29).toInt = (h.2.1 70 6).toInt) (ckf : CKF h.2.1) (hi : II h.2.1 (h.2.1 70 6).toInt a2.toInt) (hk : V h.2.1 77 a2.toInt = 1) (hg : 30 * (30 - a3.toInt) + 1 ≤ (nn : Int)), Mt l yX8_calls_ cX8_calls_ 6 (some .int) (d + 2) [.ref 70, .int a2, .int a3, .int a4, .int a5] h 0 0 (fun r h' => ∃ v : Int32, r = some (.int v) ∧ 0 ≤ v.toInt ∧ v.toInt ≤ 3 ∧ Iv P h' ∧ ((h.2.1 70 53).toInt ≤ (h'.2.1 70 53).toInt) ∧ ((st h', v.toInt) = g_X8_calls_ (st h) a2.toInt a3.toInt a4.toInt a5.toInt) ∧ (FX KAq h h'))) (ihG : ∀ {P : PP} {h : HP} (_ : Iv P h) (a2 : Int32) (a2l : 0 ≤ a2.toInt) (a2u : a2.toInt ≤ 559) (a3 : Int32) (a3l : 0 ≤ a3.toInt) (a3u : a3.toInt ≤ 30) (hr : RD h.2.1 (h.2.1 70 6).toInt ∧ TD h.2.1 (h.2.1 70 6).toInt) (hl : (h.2.1 70 29).toInt = (h.2.1 70 6).toInt) (ckf : CKF h.2.1) (hb : BB h.2.1 (h.2.1 70 6).toInt a2.toInt) (hg : (V h.2.1 92 a2.toInt = -1 → 30 * (30 - a3.toInt) + 24 ≤ (nn : Int)) ∧ (0 ≤ V h.2.1 92 a2.toInt → 30 * (30 - a3.toInt) + 3 * (6 - V h.2.1 80 (V h.2.1 92 a2.toInt)) + 3 ≤ (nn : Int))), Mt l yX8_goesBlock cX8_goesBlock 5 (some .int) (d + 2) [.ref 70, .int a2, .int a3] h 0 0 (fun r h' => ∃ v : Int32, r = some (.int v) ∧ 0 ≤ v.toInt ∧ v.toInt ≤ 3 ∧ Iv P h' ∧ ((h.2.1 70 53).toInt ≤ (h'.2.1 70 53).toInt) ∧ ((st h', v.toInt) = g_X8_goesBlock (st h) a2.toInt a3.toInt) ∧ (FX KAq h h'))) (ihL : ∀ {P : PP} {h : HP} (_ : Iv P h) (a2 : Int32) (a2l : 0 ≤ a2.toInt) (a2u : a2.toInt ≤ 259) (a3 : Int32) (a3l : 0 ≤ a3.toInt) (a3u : a3.toInt ≤ 30) (hr : RD h.2.1 (h.2.1 70 6).toInt ∧ TD h.2.1 (h.2.1 70 6).toInt) (hl : (h.2.1 70 29).toInt = (h.2.1 70 6).toInt) (ckf : CKF h.2.1) (hi : II h.2.1 (h.2.1 70 6).toInt a2.toInt) (hk : V h.2.1 77 a2.toInt = 3) (hg : 30 * (30 - a3.toInt) + 3 * (7 - V h.2.1 80 a2.toInt) + 1 ≤ (nn : Int)), Mt l yX8_loops cX8_loops 5 (some .int) (d + 2) [.ref 70, .int a2, .int a3] h 0 0 (fun r h' => ∃ v : Int32, r = some (.int v) ∧ 0 ≤ v.toInt ∧ v.toInt ≤ 3 ∧ Iv P h' ∧ ((h.2.1 70 53).toInt ≤ (h'.2.1 70 53).toInt) ∧ ((st h', v.toInt) = g_X8_loops (st h) a2.toInt a3.toInt) ∧ (FX KAq h h'))) {P : PP} {h : HP} (hv : Iv P h) (a2 : Int32) (a2l : 0 ≤ a2.toInt) (a2u : a2.toInt ≤ 259) (a3 : Int32) (a3l : 0 ≤ a3.toInt) (a3u : a3.toInt ≤ 30) (hr : RD h.2.1 (h.2.1 70 6).toInt ∧ TD h.2.1 (h.2.1 70 6).toInt) (hl : (h.2.1 70 29).toInt = (h.2.1 70 6).toInt) (ckf : CKF h.2.1) (hi : II h.2.1 (h.2.1 70 6).toInt a2.toInt) (hk : ¬ V h.2.1 77 a2.toInt = 6) (hg : 30 * (30 - a3.toInt) + 3 * (7 - V h.2.1 80 a2.toInt) + 2 ≤ ((nn + 1 : Nat) : Int)) : Mt l yX8_does cX8_does 6 (some .int) (d + 3) [.ref 70, .int a2, .int a3] h 0 0 (fun r h' => ∃ v : Int32, r = some (.int v) ∧ 0 ≤ v.toInt ∧ v.toInt ≤ 3 ∧ Iv P h' ∧ ((h.2.1 70 53).toInt ≤ (h'.2.1 70 53).toInt) ∧ ((st h', v.toInt) = f_X8_does_b g_X8_calls_ g_X8_goesBlock g_X8_loops (st h) a2.toInt a3.toInt) ∧ (FX KAq h h')) := by
  refine Mt_iv hv (by decide) (Nat.le_of_ble_eq_true rfl) ?_
  show Go l RX8 cX8_does 6 (g_rm (d + 3) 0 0) "does" (some .int) 117 0 0 (fun _ _ => True) (fun r h' => ∃ v : Int32, r = some (.int v) ∧ 0 ≤ v.toInt ∧ v.toInt ≤ 3 ∧ Iv P h' ∧ ((h.2.1 70 53).toInt ≤ (h'.2.1 70 53).toInt) ∧ ((st h', v.toInt) = f_X8_does_b g_X8_calls_ g_X8_goesBlock g_X8_loops (st h) a2.toInt a3.toInt) ∧ (FX KAq h h')) 0 0 [(0, .ref 70), (1, .int a2), (2, .int a3)] [] h
  obtain ⟨S, hS⟩ : ∃ S : Int, S = (h.2.1 70 6).toInt := ⟨_, rfl⟩
  have S0 : 0 ≤ S := by rw [hS]; exact (hv.2.1 70 6).1
  have S1 : S ≤ 1 := by rw [hS]; exact (hv.2.1 70 6).2
  rw [← hS] at hr
  rw [← hS] at hl
  rw [← hS] at hi
  have fx : FX KAq h h := FX.rfl
  obtain ⟨fin, kf⟩ : ∃ z, z = f_X8_does_b g_X8_calls_ g_X8_goesBlock g_X8_loops (st h) a2.toInt a3.toInt := ⟨_, _root_.rfl⟩
  have k0 := kf
  unfold f_X8_does_b at k0
  have cc := (hr.1.2.1 a2.toInt hi.1 hi.2).2
  have cd := (hr.1.2.1 a2.toInt hi.1 hi.2).1
  have t3 := hr.1.1.2.2.2.1 a2.toInt hi
  have r8 : V h.2.1 80 a2.toInt ≤ 6 := (hv.2.1 80 _).2
  refine go_aload_n (pc := 0) rfl dX8_does_0 ?_
  refine gi_get (pc := 1) (lo := 0) (hi := 3000) hv fL_X8_437 rfl (Nat.le_of_ble_eq_true rfl) rfl rfl dX8_does_1 (fun v1 v1l v1u v1w => ?_)
  have k2 := bd_e k0 (congrArg Int32.toInt v1w.symm)
  have g3 : (h.2.1 70 53).toInt = v1.toInt := by rw [v1w]
  refine go_sipush (pc := 4) (v := 3000) (by decide) dX8_does_4 ?_
  refine gf_icmp_ne (pc := 7) (tgt := 12) (ti_rfl v1) (ti_c (v := 3000) (a := 3000) (by decide)) (by decide) dX8_does_7 (fun q4 => ?_) (fun q4 => ?_)
  ·
    have k5 := if_t k2 q4
    refine go_aload_n (pc := 12) rfl dX8_does_12 ?_
    refine go_dup (pc := 13) rfl dX8_does_13 ?_
    refine gi_get (pc := 14) (lo := 0) (hi := 3000) hv fL_X8_437 rfl (Nat.le_of_ble_eq_true rfl) rfl rfl dX8_does_14 (fun v6 v6l v6u v6w => ?_)
    have v6r : v1 = h.2.1 70 53 := v1w
    have v6q : TI v6 v1.toInt := by rw [v6w.trans v6r.symm]; exact (ti_rfl v1)
    refine go_iconst (pc := 17) (v := 1) (by decide) dX8_does_17 ?_
    refine gf_iadd (pc := 18) v6q (ti_c (v := 1) (a := 1) (by decide)) (by omega) (by omega) dX8_does_18 (fun v7 e8 => ?_)
    refine gi_put (pc := 19) (lo := 0) (hi := 3000) hv e8 (fP_X8_437 _) rfl (Nat.le_of_ble_eq_true rfl) rfl rfl (by omega) (by omega) rfl rfl (by decide) (by decide) (by decide) (by decide) dX8_does_19 (fun h9 hv9 hv9e => ?_)
    have fx9 : FX KAq h h9 := FX.pI fx hv9e (by unfold KAq; omega)
    have k10 := bd_e k5 (st_I hv9e e8)
    refine go_aload_n (pc := 22) rfl dX8_does_22 ?_
    refine go_iload_n (pc := 23) rfl dX8_does_23 ?_
    refine go_iload_n (pc := 24) rfl dX8_does_24 ?_
    refine go_iconst (pc := 25) (v := 0) (by decide) dX8_does_25 ?_
    refine go_invV (pc := 26) (sl := 0) (s_X8_number__f l (d + 0) hv9 a3 (by rw [show (a3 : Int32).toInt = a3.toInt from (ti_rfl a3)]; omega) (by rw [show (a3 : Int32).toInt = a3.toInt from (ti_rfl a3)]; omega) a2 (by rw [show (a2 : Int32).toInt = a2.toInt from (ti_rfl a2)]; omega) (by rw [show (a2 : Int32).toInt = a2.toInt from (ti_rfl a2)]; omega) 0 (by rw [show (0 : Int32).toInt = 0 from (ti_c (v := 0) (a := 0) (by decide))]; omega) (by rw [show (0 : Int32).toInt = 0 from (ti_c (v := 0) (a := 0) (by decide))]; omega) (show V h9.2.1 89 (2 * a2.toInt + (0 : Int32).toInt) ≤ 1009 from by rw [VE.v (VE.of hv hv9) (c := 89) (by omega) (by omega)]; exact (by rw [show ((0 : Int32).toInt) = 0 by decide, Int.add_zero]; exact t3.2.2.2.1))) mL_X8_440 iM_X8_number_ sM_X8_number_ (hv9.sh rfl) rfl rfl rfl (Nat.le_of_ble_eq_true rfl) (show d + 0 + 2 + 1 ≤ d + 3 by omega) (show 8 + (4 + 11) + 40 * (d + 0 + 2) ≤ 40 * (d + 3) by omega) (g_c0 hv9.ln) (Nat.le_of_ble_eq_true rfl) dX8_does_26 ?_
    intro r h11 hq _
    obtain ⟨v13, rfl, v13l, v13u, rfl, f12⟩ := hq
    try rw [show (0 : Int32).toInt = 0 from (ti_c (v := 0) (a := 0) (by decide))] at f12
    replace f12 : PE _ _ := f12
    have k14 := bd_e k10 f12.symm
    refine go_istore_n (pc := 29) (Nat.le_of_ble_eq_true rfl) dX8_does_29 (go_lv (lv2 := [(0, .ref 70), (1, .int a2), (2, .int a3), (3, .int v13)]) rfl ?_)
    refine go_aload_n (pc := 30) rfl dX8_does_30 ?_
    refine go_iload_n (pc := 31) rfl dX8_does_31 ?_
    refine go_iload_n (pc := 32) rfl dX8_does_32 ?_
    refine go_iconst (pc := 33) (v := 1) (by decide) dX8_does_33 ?_
    refine go_invV (pc := 34) (sl := 0) (s_X8_number__f l (d + 0) hv9 a3 (by rw [show (a3 : Int32).toInt = a3.toInt from (ti_rfl a3)]; omega) (by rw [show (a3 : Int32).toInt = a3.toInt from (ti_rfl a3)]; omega) a2 (by rw [show (a2 : Int32).toInt = a2.toInt from (ti_rfl a2)]; omega) (by rw [show (a2 : Int32).toInt = a2.toInt from (ti_rfl a2)]; omega) 1 (by rw [show (1 : Int32).toInt = 1 from (ti_c (v := 1) (a := 1) (by decide))]; omega) (by rw [show (1 : Int32).toInt = 1 from (ti_c (v := 1) (a := 1) (by decide))]; omega) (show V h9.2.1 89 (2 * a2.toInt + (1 : Int32).toInt) ≤ 1009 from by rw [VE.v (VE.of hv hv9) (c := 89) (by omega) (by omega)]; exact (by rw [show ((1 : Int32).toInt) = 1 by decide]; exact t3.2.2.2.2))) mL_X8_440 iM_X8_number_ sM_X8_number_ (hv9.sh rfl) rfl rfl rfl (Nat.le_of_ble_eq_true rfl) (show d + 0 + 2 + 1 ≤ d + 3 by omega) (show 8 + (4 + 11) + 40 * (d + 0 + 2) ≤ 40 * (d + 3) by omega) (g_c0 hv9.ln) (Nat.le_of_ble_eq_true rfl) dX8_does_34 ?_
    intro r h15 hq _
    obtain ⟨v17, rfl, v17l, v17u, rfl, f16⟩ := hq
    try rw [show (1 : Int32).toInt = 1 from (ti_c (v := 1) (a := 1) (by decide))] at f16
    replace f16 : PE _ _ := f16
    have k18 := bd_e k14 f16.symm
    refine go_istore (pc := 37) (Nat.le_of_ble_eq_true rfl) dX8_does_37 (go_lv (lv2 := [(0, .ref 70), (1, .int a2), (2, .int a3), (3, .int v13), (4, .int v17)]) rfl ?_)
    refine go_aload_n (pc := 39) rfl dX8_does_39 ?_
    refine gi_getF (pc := 40) (q := 77) hv9 fL_X8_29 rfl (Nat.le_of_ble_eq_true rfl) rfl (hv9.rf (by decide)) dX8_does_40 ?_
    refine go_iload_n (pc := 43) rfl dX8_does_43 ?_
    refine gi_iald (pc := 44) (lo := 0) (hi := 6) (len := 260) hv9 (ti_rfl a2) rfl (by omega) (by omega) (fun _ => rfl) dX8_does_44 (fun v19 v19l v19u v19w => ?_)
    have k20 := bd_e k18 (congrArg Int32.toInt v19w.symm)
    have v19V : v19.toInt = V h.2.1 77 a2.toInt := by rw [v19w, hv9.fz (c := 77) (by omega) (by omega), ← hv.fz (c := 77) (by omega) (by omega)]; rfl
    by_cases q21 : v19.toInt = 0
    ·
      refine go_tableIn (pc := 45) (tgt := 76) (off := 31) (by rw [show (v19 : Int32).toInt = v19.toInt from (ti_rfl v19)]; omega) (by rw [show (v19 : Int32).toInt = v19.toInt from (ti_rfl v19)]; omega) (by rw [show (v19 : Int32).toInt = v19.toInt from (ti_rfl v19), q21]; rfl) (by decide) dX8_does_45 ?_
      have k22 := if_t k20 q21
      refine go_aload_n (pc := 76) rfl dX8_does_76 ?_
      refine gi_getF (pc := 77) (q := 83) hv9 fL_X8_47 rfl (Nat.le_of_ble_eq_true rfl) rfl (hv9.rf (by decide)) dX8_does_77 ?_
      refine go_iload_n (pc := 80) rfl dX8_does_80 ?_
      refine gi_iald (pc := 81) (lo := -2147483648) (hi := 2147483647) (len := 260) hv9 (ti_rfl a2) rfl (by omega) (by omega) (fun _ => rfl) dX8_does_81 (fun v23 v23l v23u v23w => ?_)
      have k24 := bd_e k22 (congrArg Int32.toInt v23w.symm)
      have v23V : v23.toInt = V h.2.1 83 a2.toInt := by rw [v23w, hv9.fz (c := 83) (by omega) (by omega), ← hv.fz (c := 83) (by omega) (by omega)]; rfl
      refine gf_if_ne (pc := 82) (tgt := 89) (ti_rfl v23) (by decide) dX8_does_82 (fun q25 => ?_) (fun q25 => ?_)
      ·
        have k26 := if_t k24 q25
        refine go_aload_n (pc := 89) rfl dX8_does_89 ?_
        refine gi_getF (pc := 90) (q := 83) hv9 fL_X8_47 rfl (Nat.le_of_ble_eq_true rfl) rfl (hv9.rf (by decide)) dX8_does_90 ?_
        refine go_iload_n (pc := 93) rfl dX8_does_93 ?_
        refine gi_iald (pc := 94) (lo := -2147483648) (hi := 2147483647) (len := 260) hv9 (ti_rfl a2) rfl (by omega) (by omega) (fun _ => rfl) dX8_does_94 (fun v27 v27l v27u v27w => ?_)
        have k28 := bd_e k26 (congrArg Int32.toInt v27w.symm)
        have v27V : v27.toInt = V h.2.1 83 a2.toInt := by rw [v27w, hv9.fz (c := 83) (by omega) (by omega), ← hv.fz (c := 83) (by omega) (by omega)]; rfl
        refine go_iload_n (pc := 95) rfl dX8_does_95 ?_
        refine go_iload (pc := 96) rfl dX8_does_96 ?_
        refine go_invS (pc := 98) (sl := 0) (s_X8_worked_f l (d + 1) hv9 v27 v13 v17) mL_X8_442 iM_X8_worked rfl rfl (Nat.le_of_ble_eq_true rfl) (show d + 1 + 1 + 1 ≤ d + 3 by omega) (show 8 + (3 + 11) + 40 * (d + 1 + 1) ≤ 40 * (d + 3) by omega) (g_c0 hv9.ln) (Nat.le_of_ble_eq_true rfl) dX8_does_98 ?_
        intro r h29 hq _
        obtain ⟨v31, rfl, v31l, v31u, rfl, f30⟩ := hq
        replace f30 : PE _ _ := f30
        have k32 := bd_e k28 f30.symm
        refine go_istore (pc := 101) (Nat.le_of_ble_eq_true rfl) dX8_does_101 (go_lv (lv2 := [(0, .ref 70), (1, .int a2), (2, .int a3), (3, .int v13), (4, .int v17), (5, .int v31)]) rfl ?_)
        refine go_aload_n (pc := 103) rfl dX8_does_103 ?_
        refine go_iload_n (pc := 104) rfl dX8_does_104 ?_
        refine go_aload_n (pc := 105) rfl dX8_does_105 ?_
        refine gi_getF (pc := 106) (q := 82) hv9 fL_X8_44 rfl (Nat.le_of_ble_eq_true rfl) rfl (hv9.rf (by decide)) dX8_does_106 ?_
        refine go_iload_n (pc := 109) rfl dX8_does_109 ?_
        refine gi_iald (pc := 110) (lo := -1) (hi := 9) (len := 260) hv9 (ti_rfl a2) rfl (by omega) (by omega) (fun _ => rfl) dX8_does_110 (fun v33 v33l v33u v33w => ?_)
        have k34 := bd_e k32 (congrArg Int32.toInt v33w.symm)
        have v33V : v33.toInt = V h.2.1 82 a2.toInt := by rw [v33w, hv9.fz (c := 82) (by omega) (by omega), ← hv.fz (c := 82) (by omega) (by omega)]; rfl
        refine go_iload (pc := 111) rfl dX8_does_111 ?_
        have k9 : 0 ≤ v33.toInt := by have q := t3.2.1 (by omega); omega
        have g35 : (0 : Int) ≤ (h9.2.1 70 53).toInt := (hv9.2.1 70 53).1
        have g36 : (h9.2.1 70 53).toInt ≤ 3000 := (hv9.2.1 70 53).2
        have g37 : (h9.2.1 70 53).toInt = (v1.toInt + 1) := by rw [← (show v7 = h9.2.1 70 53 from (show v7 = h9.2.1 70 53 from by rw [hv9e]; exact g_iS.symm))] <;> exact e8
        refine go_invV (pc := 113) (sl := 0) (s_X8_tellsName_x_f l (d + 1) hv9 a3 (by rw [show (a3 : Int32).toInt = a3.toInt from (ti_rfl a3)]; omega) (by rw [show (a3 : Int32).toInt = a3.toInt from (ti_rfl a3)]; omega) v33 (by rw [show (v33 : Int32).toInt = v33.toInt from (ti_rfl v33)]; omega) (by rw [show (v33 : Int32).toInt = v33.toInt from (ti_rfl v33)]; omega) v31) mL_X8_445 iM_X8_tellsName sM_X8_tellsName (hv9.sh rfl) rfl rfl rfl (Nat.le_of_ble_eq_true rfl) (show d + 1 + 1 + 1 ≤ d + 3 by omega) (show 8 + (4 + 11) + 40 * (d + 1 + 1) ≤ 40 * (d + 3) by omega) (g_c0 hv9.ln) (Nat.le_of_ble_eq_true rfl) dX8_does_113 ?_
        intro r h38 hq _
        obtain ⟨rfl, hv38, f39, f40, f41⟩ := hq
        have fx38 : FX KAq h h38 := FX.tr fx9 f41
        have k42 := bd_e k34 f40.symm
        obtain ⟨u43, u43w⟩ : ∃ v : Int32, v = h38.2.1 70 53 := ⟨_, rfl⟩
        have u43e : (h38.2.1 70 53).toInt = u43.toInt := by rw [u43w]
        have u43l : 0 ≤ u43.toInt := by rw [u43w]; exact (hv38.2.1 70 53).1
        have u43u : u43.toInt ≤ 3000 := by rw [u43w]; exact (hv38.2.1 70 53).2
        have k44 := k42
        refine go_aload_n (pc := 116) rfl dX8_does_116 ?_
        refine go_iload_n (pc := 117) rfl dX8_does_117 ?_
        refine go_iload (pc := 118) rfl dX8_does_118 ?_
        have g45 : (0 : Int) ≤ (h38.2.1 70 53).toInt := (hv38.2.1 70 53).1
        have g46 : (h38.2.1 70 53).toInt ≤ 3000 := (hv38.2.1 70 53).2
        have g47 : (h38.2.1 70 53).toInt = u43.toInt := by rw [← (show u43 = h38.2.1 70 53 from u43w)] <;> exact (ti_rfl u43)
        refine go_invV (pc := 120) (sl := 0) (s_X8_sees_x_f l (d + 1) hv38 a2 (by rw [show (a2 : Int32).toInt = a2.toInt from (ti_rfl a2)]; omega) (by rw [show (a2 : Int32).toInt = a2.toInt from (ti_rfl a2)]; omega) v31) mL_X8_448 iM_X8_sees sM_X8_sees (hv38.sh rfl) rfl rfl rfl (Nat.le_of_ble_eq_true rfl) (show d + 1 + 1 + 1 ≤ d + 3 by omega) (show 8 + (3 + 11) + 40 * (d + 1 + 1) ≤ 40 * (d + 3) by omega) (g_c0 hv38.ln) (Nat.le_of_ble_eq_true rfl) dX8_does_120 ?_
        intro r h48 hq _
        obtain ⟨rfl, hv48, f49, f50, f51⟩ := hq
        have fx48 : FX KAq h h48 := FX.tr fx38 f51
        have k52 := bd_e k44 f50.symm
        obtain ⟨u53, u53w⟩ : ∃ v : Int32, v = h48.2.1 70 53 := ⟨_, rfl⟩
        have u53e : (h48.2.1 70 53).toInt = u53.toInt := by rw [u53w]
        have u53l : 0 ≤ u53.toInt := by rw [u53w]; exact (hv48.2.1 70 53).1
        have u53u : u53.toInt ≤ 3000 := by rw [u53w]; exact (hv48.2.1 70 53).2
        have k54 := k52
        refine go_iconst (pc := 123) (v := 0) (by decide) dX8_does_123 ?_
        have g55 : (0 : Int) ≤ (h48.2.1 70 53).toInt := (hv48.2.1 70 53).1
        have g56 : (h48.2.1 70 53).toInt ≤ 3000 := (hv48.2.1 70 53).2
        have g57 : (h48.2.1 70 53).toInt = u53.toInt := by rw [← (show u53 = h48.2.1 70 53 from u53w)] <;> exact (ti_rfl u53)
        exact gi_iret (pc := 124) (ti_c (v := 0) (a := 0) (by decide)) ⟨_, rfl, (by rw [show (0 : Int32).toInt = 0 from (ti_c (v := 0) (a := 0) (by decide))]; omega), (by rw [show (0 : Int32).toInt = 0 from (ti_c (v := 0) (a := 0) (by decide))]; omega), hv48, (by omega), (by rw [show (0 : Int32).toInt = 0 from (ti_c (v := 0) (a := 0) (by decide))]; exact k54.symm.trans kf), fx48⟩ hv48 dX8_does_124
      ·
        have k58 := if_f k24 (fun z => z q25)
        refine go_iload_n (pc := 85) rfl dX8_does_85 ?_
        refine go_goto (pc := 86) (tgt := 101) (by decide) dX8_does_86 ?_
        refine go_istore (pc := 101) (Nat.le_of_ble_eq_true rfl) dX8_does_101 (go_lv (lv2 := [(0, .ref 70), (1, .int a2), (2, .int a3), (3, .int v13), (4, .int v17), (5, .int v13)]) rfl ?_)
        refine go_aload_n (pc := 103) rfl dX8_does_103 ?_
        refine go_iload_n (pc := 104) rfl dX8_does_104 ?_
        refine go_aload_n (pc := 105) rfl dX8_does_105 ?_
        refine gi_getF (pc := 106) (q := 82) hv9 fL_X8_44 rfl (Nat.le_of_ble_eq_true rfl) rfl (hv9.rf (by decide)) dX8_does_106 ?_
        refine go_iload_n (pc := 109) rfl dX8_does_109 ?_
        refine gi_iald (pc := 110) (lo := -1) (hi := 9) (len := 260) hv9 (ti_rfl a2) rfl (by omega) (by omega) (fun _ => rfl) dX8_does_110 (fun v59 v59l v59u v59w => ?_)
        have k60 := bd_e k58 (congrArg Int32.toInt v59w.symm)
        have v59V : v59.toInt = V h.2.1 82 a2.toInt := by rw [v59w, hv9.fz (c := 82) (by omega) (by omega), ← hv.fz (c := 82) (by omega) (by omega)]; rfl
        refine go_iload (pc := 111) rfl dX8_does_111 ?_
        have k9 : 0 ≤ v59.toInt := by have q := t3.2.1 (by omega); omega
        have g61 : (0 : Int) ≤ (h9.2.1 70 53).toInt := (hv9.2.1 70 53).1
        have g62 : (h9.2.1 70 53).toInt ≤ 3000 := (hv9.2.1 70 53).2
        have g63 : (h9.2.1 70 53).toInt = (v1.toInt + 1) := by rw [← (show v7 = h9.2.1 70 53 from (show v7 = h9.2.1 70 53 from by rw [hv9e]; exact g_iS.symm))] <;> exact e8
        refine go_invV (pc := 113) (sl := 0) (s_X8_tellsName_x_f l (d + 1) hv9 a3 (by rw [show (a3 : Int32).toInt = a3.toInt from (ti_rfl a3)]; omega) (by rw [show (a3 : Int32).toInt = a3.toInt from (ti_rfl a3)]; omega) v59 (by rw [show (v59 : Int32).toInt = v59.toInt from (ti_rfl v59)]; omega) (by rw [show (v59 : Int32).toInt = v59.toInt from (ti_rfl v59)]; omega) v13) mL_X8_445 iM_X8_tellsName sM_X8_tellsName (hv9.sh rfl) rfl rfl rfl (Nat.le_of_ble_eq_true rfl) (show d + 1 + 1 + 1 ≤ d + 3 by omega) (show 8 + (4 + 11) + 40 * (d + 1 + 1) ≤ 40 * (d + 3) by omega) (g_c0 hv9.ln) (Nat.le_of_ble_eq_true rfl) dX8_does_113 ?_
        intro r h64 hq _
        obtain ⟨rfl, hv64, f65, f66, f67⟩ := hq
        have fx64 : FX KAq h h64 := FX.tr fx9 f67
        have k68 := bd_e k60 f66.symm
        obtain ⟨u69, u69w⟩ : ∃ v : Int32, v = h64.2.1 70 53 := ⟨_, rfl⟩
        have u69e : (h64.2.1 70 53).toInt = u69.toInt := by rw [u69w]
        have u69l : 0 ≤ u69.toInt := by rw [u69w]; exact (hv64.2.1 70 53).1
        have u69u : u69.toInt ≤ 3000 := by rw [u69w]; exact (hv64.2.1 70 53).2
        have k70 := k68
        refine go_aload_n (pc := 116) rfl dX8_does_116 ?_
        refine go_iload_n (pc := 117) rfl dX8_does_117 ?_
        refine go_iload (pc := 118) rfl dX8_does_118 ?_
        have g71 : (0 : Int) ≤ (h64.2.1 70 53).toInt := (hv64.2.1 70 53).1
        have g72 : (h64.2.1 70 53).toInt ≤ 3000 := (hv64.2.1 70 53).2
        have g73 : (h64.2.1 70 53).toInt = u69.toInt := by rw [← (show u69 = h64.2.1 70 53 from u69w)] <;> exact (ti_rfl u69)
        refine go_invV (pc := 120) (sl := 0) (s_X8_sees_x_f l (d + 1) hv64 a2 (by rw [show (a2 : Int32).toInt = a2.toInt from (ti_rfl a2)]; omega) (by rw [show (a2 : Int32).toInt = a2.toInt from (ti_rfl a2)]; omega) v13) mL_X8_448 iM_X8_sees sM_X8_sees (hv64.sh rfl) rfl rfl rfl (Nat.le_of_ble_eq_true rfl) (show d + 1 + 1 + 1 ≤ d + 3 by omega) (show 8 + (3 + 11) + 40 * (d + 1 + 1) ≤ 40 * (d + 3) by omega) (g_c0 hv64.ln) (Nat.le_of_ble_eq_true rfl) dX8_does_120 ?_
        intro r h74 hq _
        obtain ⟨rfl, hv74, f75, f76, f77⟩ := hq
        have fx74 : FX KAq h h74 := FX.tr fx64 f77
        have k78 := bd_e k70 f76.symm
        obtain ⟨u79, u79w⟩ : ∃ v : Int32, v = h74.2.1 70 53 := ⟨_, rfl⟩
        have u79e : (h74.2.1 70 53).toInt = u79.toInt := by rw [u79w]
        have u79l : 0 ≤ u79.toInt := by rw [u79w]; exact (hv74.2.1 70 53).1
        have u79u : u79.toInt ≤ 3000 := by rw [u79w]; exact (hv74.2.1 70 53).2
        have k80 := k78
        refine go_iconst (pc := 123) (v := 0) (by decide) dX8_does_123 ?_
        have g81 : (0 : Int) ≤ (h74.2.1 70 53).toInt := (hv74.2.1 70 53).1
        have g82 : (h74.2.1 70 53).toInt ≤ 3000 := (hv74.2.1 70 53).2
        have g83 : (h74.2.1 70 53).toInt = u79.toInt := by rw [← (show u79 = h74.2.1 70 53 from u79w)] <;> exact (ti_rfl u79)
        exact gi_iret (pc := 124) (ti_c (v := 0) (a := 0) (by decide)) ⟨_, rfl, (by rw [show (0 : Int32).toInt = 0 from (ti_c (v := 0) (a := 0) (by decide))]; omega), (by rw [show (0 : Int32).toInt = 0 from (ti_c (v := 0) (a := 0) (by decide))]; omega), hv74, (by omega), (by rw [show (0 : Int32).toInt = 0 from (ti_c (v := 0) (a := 0) (by decide))]; exact k80.symm.trans kf), fx74⟩ hv74 dX8_does_124
    have k84 := if_f k20 q21
    by_cases q85 : v19.toInt = 1
    ·
      refine go_tableIn (pc := 45) (tgt := 125) (off := 80) (by rw [show (v19 : Int32).toInt = v19.toInt from (ti_rfl v19)]; omega) (by rw [show (v19 : Int32).toInt = v19.toInt from (ti_rfl v19)]; omega) (by rw [show (v19 : Int32).toInt = v19.toInt from (ti_rfl v19), q85]; rfl) (by decide) dX8_does_45 ?_
      have k86 := if_t k84 q85
      refine go_aload_n (pc := 125) rfl dX8_does_125 ?_
      refine go_iload_n (pc := 126) rfl dX8_does_126 ?_
      refine go_iload_n (pc := 127) rfl dX8_does_127 ?_
      refine go_iload_n (pc := 128) rfl dX8_does_128 ?_
      refine go_iload (pc := 129) rfl dX8_does_129 ?_
      have sM87 : (h9.2.1 70 6).toInt = S := by rw [hv9.fy (j := 6) (by omega), ← hv.fy (j := 6) (by omega)]; exact hS.symm
      have g88 : (0 : Int) ≤ (h9.2.1 70 53).toInt := (hv9.2.1 70 53).1
      have g89 : (h9.2.1 70 53).toInt ≤ 3000 := (hv9.2.1 70 53).2
      have g90 : (h9.2.1 70 53).toInt = (v1.toInt + 1) := by rw [← (show v7 = h9.2.1 70 53 from (show v7 = h9.2.1 70 53 from by rw [hv9e]; exact g_iS.symm))] <;> exact e8
      refine go_invV (pc := 131) (sl := 0) (ihC hv9 a2 (by rw [show (a2 : Int32).toInt = a2.toInt from (ti_rfl a2)]; omega) (by rw [show (a2 : Int32).toInt = a2.toInt from (ti_rfl a2)]; omega) a3 (by rw [show (a3 : Int32).toInt = a3.toInt from (ti_rfl a3)]; omega) (by rw [show (a3 : Int32).toInt = a3.toInt from (ti_rfl a3)]; omega) v13 v17 (by rw [sM87]; exact (RT2.ve (VE.of hv hv9) hr)) (by rw [sM87]; exact (by rw [hv9.fy (j := 29) (by omega), ← hv.fy (j := 29) (by omega)]; exact hl)) (CKF.ve (VE.of hv hv9) ckf) (by rw [sM87]; exact ((II.ve (VE.of hv hv9)).mpr hi)) (by rw [VE.v (VE.of hv hv9) (c := 77) (by omega) (by omega)]; omega) (by omega)) mL_X8_451 iM_X8_calls_ sM_X8_calls_ (hv9.sh rfl) rfl rfl rfl (Nat.le_of_ble_eq_true rfl) (show d + 2 + 1 ≤ d + 3 by omega) (show 8 + (6 + 11) + 40 * (d + 2) ≤ 40 * (d + 3) by omega) (g_c0 hv9.ln) (Nat.le_of_ble_eq_true rfl) dX8_does_131 ?_
      intro r h91 hq _
      obtain ⟨v95, rfl, v95l, v95u, hv91, f92, f93, f94⟩ := hq
      have fx91 : FX KAq h h91 := FX.tr fx9 f94
      have k96 := bd2_e k86 f93
      obtain ⟨u97, u97w⟩ : ∃ v : Int32, v = h91.2.1 70 53 := ⟨_, rfl⟩
      have u97e : (h91.2.1 70 53).toInt = u97.toInt := by rw [u97w]
      have u97l : 0 ≤ u97.toInt := by rw [u97w]; exact (hv91.2.1 70 53).1
      have u97u : u97.toInt ≤ 3000 := by rw [u97w]; exact (hv91.2.1 70 53).2
      have k98 := k96
      have g99 : (0 : Int) ≤ (h91.2.1 70 53).toInt := (hv91.2.1 70 53).1
      have g100 : (h91.2.1 70 53).toInt ≤ 3000 := (hv91.2.1 70 53).2
      have g101 : (h91.2.1 70 53).toInt = u97.toInt := by rw [← (show u97 = h91.2.1 70 53 from u97w)] <;> exact (ti_rfl u97)
      exact gi_iret (pc := 134) (ti_rfl v95) ⟨_, rfl, (by rw [show (v95 : Int32).toInt = v95.toInt from (ti_rfl v95)]; omega), (by rw [show (v95 : Int32).toInt = v95.toInt from (ti_rfl v95)]; omega), hv91, (by omega), (k98.symm.trans kf), fx91⟩ hv91 dX8_does_134
    have k102 := if_f k84 q85
    by_cases q103 : v19.toInt = 2
    ·
      refine go_tableIn (pc := 45) (tgt := 135) (off := 90) (by rw [show (v19 : Int32).toInt = v19.toInt from (ti_rfl v19)]; omega) (by rw [show (v19 : Int32).toInt = v19.toInt from (ti_rfl v19)]; omega) (by rw [show (v19 : Int32).toInt = v19.toInt from (ti_rfl v19), q103]; rfl) (by decide) dX8_does_45 ?_
      have k104 := if_t k102 q103
      refine go_aload_n (pc := 135) rfl dX8_does_135 ?_
      refine go_iload_n (pc := 136) rfl dX8_does_136 ?_
      refine go_iload_n (pc := 137) rfl dX8_does_137 ?_
      refine go_iload (pc := 138) rfl dX8_does_138 ?_
      refine gf_icmp_ge (pc := 140) (tgt := 147) (ti_rfl v13) (ti_rfl v17) (by decide) dX8_does_140 (fun q105 => ?_) (fun q105 => ?_)
      ·
        have k106 := if_t k104 q105
        refine go_iconst (pc := 147) (v := 0) (by decide) dX8_does_147 ?_
        have g107 : (0 : Int) ≤ (h9.2.1 70 53).toInt := (hv9.2.1 70 53).1
        have g108 : (h9.2.1 70 53).toInt ≤ 3000 := (hv9.2.1 70 53).2
        have g109 : (h9.2.1 70 53).toInt = (v1.toInt + 1) := by rw [← (show v7 = h9.2.1 70 53 from (show v7 = h9.2.1 70 53 from by rw [hv9e]; exact g_iS.symm))] <;> exact e8
        refine go_invV (pc := 148) (sl := 0) (s_X8_sees_x_f l (d + 1) hv9 a2 (by rw [show (a2 : Int32).toInt = a2.toInt from (ti_rfl a2)]; omega) (by rw [show (a2 : Int32).toInt = a2.toInt from (ti_rfl a2)]; omega) 0) mL_X8_448 iM_X8_sees sM_X8_sees (hv9.sh rfl) rfl rfl rfl (Nat.le_of_ble_eq_true rfl) (show d + 1 + 1 + 1 ≤ d + 3 by omega) (show 8 + (3 + 11) + 40 * (d + 1 + 1) ≤ 40 * (d + 3) by omega) (g_c0 hv9.ln) (Nat.le_of_ble_eq_true rfl) dX8_does_148 ?_
        intro r h110 hq _
        obtain ⟨rfl, hv110, f111, f112, f113⟩ := hq
        try rw [show (0 : Int32).toInt = 0 from (ti_c (v := 0) (a := 0) (by decide))] at f111
        try rw [show (0 : Int32).toInt = 0 from (ti_c (v := 0) (a := 0) (by decide))] at f112
        try rw [show (0 : Int32).toInt = 0 from (ti_c (v := 0) (a := 0) (by decide))] at f113
        have fx110 : FX KAq h h110 := FX.tr fx9 f113
        have k114 := bd_e k106 f112.symm
        obtain ⟨u115, u115w⟩ : ∃ v : Int32, v = h110.2.1 70 53 := ⟨_, rfl⟩
        have u115e : (h110.2.1 70 53).toInt = u115.toInt := by rw [u115w]
        have u115l : 0 ≤ u115.toInt := by rw [u115w]; exact (hv110.2.1 70 53).1
        have u115u : u115.toInt ≤ 3000 := by rw [u115w]; exact (hv110.2.1 70 53).2
        have k116 := k114
        refine go_iload_n (pc := 151) rfl dX8_does_151 ?_
        refine go_iload (pc := 152) rfl dX8_does_152 ?_
        refine gf_icmp_ge (pc := 154) (tgt := 171) (ti_rfl v13) (ti_rfl v17) (by decide) dX8_does_154 (fun q117 => ?_) (fun q117 => ?_)
        ·
          have k118 := if_t k116 q117
          refine go_aload_n (pc := 171) rfl dX8_does_171 ?_
          refine gi_getF (pc := 172) (q := 86) hv110 fL_X8_56 rfl (Nat.le_of_ble_eq_true rfl) rfl (hv110.rf (by decide)) dX8_does_172 ?_
          refine go_iload_n (pc := 175) rfl dX8_does_175 ?_
          refine gi_iald (pc := 176) (lo := -1) (hi := 559) (len := 260) hv110 (ti_rfl a2) rfl (by omega) (by omega) (fun _ => rfl) dX8_does_176 (fun v119 v119l v119u v119w => ?_)
          have k120 := bd_e k118 (congrArg Int32.toInt v119w.symm)
          have v119V : v119.toInt = V h.2.1 86 a2.toInt := by rw [v119w, hv110.fz (c := 86) (by omega) (by omega), ← hv.fz (c := 86) (by omega) (by omega)]; rfl
          refine go_iconst (pc := 177) (v := (-1)) (by decide) dX8_does_177 ?_
          refine gf_icmp_ne (pc := 178) (tgt := 185) (ti_rfl v119) (ti_c (v := (-1)) (a := (-1)) (by decide)) (by decide) dX8_does_178 (fun q121 => ?_) (fun q121 => ?_)
          ·
            have k122 := if_t k120 q121
            refine go_aload_n (pc := 185) rfl dX8_does_185 ?_
            refine go_aload_n (pc := 186) rfl dX8_does_186 ?_
            refine gi_getF (pc := 187) (q := 86) hv110 fL_X8_56 rfl (Nat.le_of_ble_eq_true rfl) rfl (hv110.rf (by decide)) dX8_does_187 ?_
            refine go_iload_n (pc := 190) rfl dX8_does_190 ?_
            refine gi_iald (pc := 191) (lo := -1) (hi := 559) (len := 260) hv110 (ti_rfl a2) rfl (by omega) (by omega) (fun _ => rfl) dX8_does_191 (fun v123 v123l v123u v123w => ?_)
            have k124 := bd_e k122 (congrArg Int32.toInt v123w.symm)
            have v123V : v123.toInt = V h.2.1 86 a2.toInt := by rw [v123w, hv110.fz (c := 86) (by omega) (by omega), ← hv.fz (c := 86) (by omega) (by omega)]; rfl
            refine go_iload_n (pc := 192) rfl dX8_does_192 ?_
            rcases (hr.1.1.2.2.2.2.1 a2.toInt hi).2 with t4125 | t4125
            · exact False.elim (by omega)
            have sM126 : (h110.2.1 70 6).toInt = S := by rw [hv110.fy (j := 6) (by omega), ← hv.fy (j := 6) (by omega)]; exact hS.symm
            have g127 : (0 : Int) ≤ (h110.2.1 70 53).toInt := (hv110.2.1 70 53).1
            have g128 : (h110.2.1 70 53).toInt ≤ 3000 := (hv110.2.1 70 53).2
            have g129 : (h110.2.1 70 53).toInt = u115.toInt := by rw [← (show u115 = h110.2.1 70 53 from u115w)] <;> exact (ti_rfl u115)
            refine go_invV (pc := 193) (sl := 0) (ihG hv110 v123 (by rw [show (v123 : Int32).toInt = v123.toInt from (ti_rfl v123)]; omega) (by rw [show (v123 : Int32).toInt = v123.toInt from (ti_rfl v123)]; omega) a3 (by rw [show (a3 : Int32).toInt = a3.toInt from (ti_rfl a3)]; omega) (by rw [show (a3 : Int32).toInt = a3.toInt from (ti_rfl a3)]; omega) (by rw [sM126]; exact (RT2.ve (VE.of hv hv110) hr)) (by rw [sM126]; exact (by rw [hv110.fy (j := 29) (by omega), ← hv.fy (j := 29) (by omega)]; exact hl)) (CKF.ve (VE.of hv hv110) ckf) (by rw [sM126]; exact (by rw [v123V]; exact (BB.ve (VE.of hv hv110)).mpr t4125.1)) (by rw [v123V, VE.v (VE.of hv hv110) (c := 92) (by omega) (by omega), t4125.2]; exact ⟨fun q => by omega, fun q => by rw [VE.v (VE.of hv hv110) (c := 80) (by omega) (by omega)]; omega⟩)) mL_X8_431 iM_X8_goesBlock sM_X8_goesBlock (hv110.sh rfl) rfl rfl rfl (Nat.le_of_ble_eq_true rfl) (show d + 2 + 1 ≤ d + 3 by omega) (show 8 + (5 + 11) + 40 * (d + 2) ≤ 40 * (d + 3) by omega) (g_c0 hv110.ln) (Nat.le_of_ble_eq_true rfl) dX8_does_193 ?_
            intro r h130 hq _
            obtain ⟨v134, rfl, v134l, v134u, hv130, f131, f132, f133⟩ := hq
            have fx130 : FX KAq h h130 := FX.tr fx110 f133
            have k135 := bd2_e k124 f132
            obtain ⟨u136, u136w⟩ : ∃ v : Int32, v = h130.2.1 70 53 := ⟨_, rfl⟩
            have u136e : (h130.2.1 70 53).toInt = u136.toInt := by rw [u136w]
            have u136l : 0 ≤ u136.toInt := by rw [u136w]; exact (hv130.2.1 70 53).1
            have u136u : u136.toInt ≤ 3000 := by rw [u136w]; exact (hv130.2.1 70 53).2
            have k137 := k135
            have g138 : (0 : Int) ≤ (h130.2.1 70 53).toInt := (hv130.2.1 70 53).1
            have g139 : (h130.2.1 70 53).toInt ≤ 3000 := (hv130.2.1 70 53).2
            have g140 : (h130.2.1 70 53).toInt = u136.toInt := by rw [← (show u136 = h130.2.1 70 53 from u136w)] <;> exact (ti_rfl u136)
            exact gi_iret (pc := 196) (ti_rfl v134) ⟨_, rfl, (by rw [show (v134 : Int32).toInt = v134.toInt from (ti_rfl v134)]; omega), (by rw [show (v134 : Int32).toInt = v134.toInt from (ti_rfl v134)]; omega), hv130, (by omega), (k137.symm.trans kf), fx130⟩ hv130 dX8_does_196
          ·
            have k141 := if_f k120 (fun z => z q121)
            refine go_iconst (pc := 181) (v := 0) (by decide) dX8_does_181 ?_
            refine go_goto (pc := 182) (tgt := 196) (by decide) dX8_does_182 ?_
            have g142 : (0 : Int) ≤ (h110.2.1 70 53).toInt := (hv110.2.1 70 53).1
            have g143 : (h110.2.1 70 53).toInt ≤ 3000 := (hv110.2.1 70 53).2
            have g144 : (h110.2.1 70 53).toInt = u115.toInt := by rw [← (show u115 = h110.2.1 70 53 from u115w)] <;> exact (ti_rfl u115)
            exact gi_iret (pc := 196) (ti_c (v := 0) (a := 0) (by decide)) ⟨_, rfl, (by rw [show (0 : Int32).toInt = 0 from (ti_c (v := 0) (a := 0) (by decide))]; omega), (by rw [show (0 : Int32).toInt = 0 from (ti_c (v := 0) (a := 0) (by decide))]; omega), hv110, (by omega), (by rw [show (0 : Int32).toInt = 0 from (ti_c (v := 0) (a := 0) (by decide))]; exact k141.symm.trans kf), fx110⟩ hv110 dX8_does_196
        ·
          have k145 := if_f k116 (Int.not_le.mpr q117)
          refine go_aload_n (pc := 157) rfl dX8_does_157 ?_
          refine go_aload_n (pc := 158) rfl dX8_does_158 ?_
          refine gi_getF (pc := 159) (q := 85) hv110 fL_X8_53 rfl (Nat.le_of_ble_eq_true rfl) rfl (hv110.rf (by decide)) dX8_does_159 ?_
          refine go_iload_n (pc := 162) rfl dX8_does_162 ?_
          refine gi_iald (pc := 163) (lo := -1) (hi := 559) (len := 260) hv110 (ti_rfl a2) rfl (by omega) (by omega) (fun _ => rfl) dX8_does_163 (fun v146 v146l v146u v146w => ?_)
          have k147 := bd_e k145 (congrArg Int32.toInt v146w.symm)
          have v146V : v146.toInt = V h.2.1 85 a2.toInt := by rw [v146w, hv110.fz (c := 85) (by omega) (by omega), ← hv.fz (c := 85) (by omega) (by omega)]; rfl
          refine go_iload_n (pc := 164) rfl dX8_does_164 ?_
          have c23 := cc.2 (by omega)
          rcases (hr.1.1.2.2.2.2.1 a2.toInt hi).1 with t4148 | t4148
          · exact False.elim (by omega)
          have sM149 : (h110.2.1 70 6).toInt = S := by rw [hv110.fy (j := 6) (by omega), ← hv.fy (j := 6) (by omega)]; exact hS.symm
          have g150 : (0 : Int) ≤ (h110.2.1 70 53).toInt := (hv110.2.1 70 53).1
          have g151 : (h110.2.1 70 53).toInt ≤ 3000 := (hv110.2.1 70 53).2
          have g152 : (h110.2.1 70 53).toInt = u115.toInt := by rw [← (show u115 = h110.2.1 70 53 from u115w)] <;> exact (ti_rfl u115)
          refine go_invV (pc := 165) (sl := 0) (ihG hv110 v146 (by rw [show (v146 : Int32).toInt = v146.toInt from (ti_rfl v146)]; omega) (by rw [show (v146 : Int32).toInt = v146.toInt from (ti_rfl v146)]; omega) a3 (by rw [show (a3 : Int32).toInt = a3.toInt from (ti_rfl a3)]; omega) (by rw [show (a3 : Int32).toInt = a3.toInt from (ti_rfl a3)]; omega) (by rw [sM149]; exact (RT2.ve (VE.of hv hv110) hr)) (by rw [sM149]; exact (by rw [hv110.fy (j := 29) (by omega), ← hv.fy (j := 29) (by omega)]; exact hl)) (CKF.ve (VE.of hv hv110) ckf) (by rw [sM149]; exact (by rw [v146V]; exact (BB.ve (VE.of hv hv110)).mpr t4148.1)) (by rw [v146V, VE.v (VE.of hv hv110) (c := 92) (by omega) (by omega), t4148.2]; exact ⟨fun q => by omega, fun q => by rw [VE.v (VE.of hv hv110) (c := 80) (by omega) (by omega)]; omega⟩)) mL_X8_431 iM_X8_goesBlock sM_X8_goesBlock (hv110.sh rfl) rfl rfl rfl (Nat.le_of_ble_eq_true rfl) (show d + 2 + 1 ≤ d + 3 by omega) (show 8 + (5 + 11) + 40 * (d + 2) ≤ 40 * (d + 3) by omega) (g_c0 hv110.ln) (Nat.le_of_ble_eq_true rfl) dX8_does_165 ?_
          intro r h153 hq _
          obtain ⟨v157, rfl, v157l, v157u, hv153, f154, f155, f156⟩ := hq
          have fx153 : FX KAq h h153 := FX.tr fx110 f156
          have k158 := bd2_e k147 f155
          obtain ⟨u159, u159w⟩ : ∃ v : Int32, v = h153.2.1 70 53 := ⟨_, rfl⟩
          have u159e : (h153.2.1 70 53).toInt = u159.toInt := by rw [u159w]
          have u159l : 0 ≤ u159.toInt := by rw [u159w]; exact (hv153.2.1 70 53).1
          have u159u : u159.toInt ≤ 3000 := by rw [u159w]; exact (hv153.2.1 70 53).2
          have k160 := k158
          refine go_goto (pc := 168) (tgt := 196) (by decide) dX8_does_168 ?_
          have g161 : (0 : Int) ≤ (h153.2.1 70 53).toInt := (hv153.2.1 70 53).1
          have g162 : (h153.2.1 70 53).toInt ≤ 3000 := (hv153.2.1 70 53).2
          have g163 : (h153.2.1 70 53).toInt = u159.toInt := by rw [← (show u159 = h153.2.1 70 53 from u159w)] <;> exact (ti_rfl u159)
          exact gi_iret (pc := 196) (ti_rfl v157) ⟨_, rfl, (by rw [show (v157 : Int32).toInt = v157.toInt from (ti_rfl v157)]; omega), (by rw [show (v157 : Int32).toInt = v157.toInt from (ti_rfl v157)]; omega), hv153, (by omega), (k160.symm.trans kf), fx153⟩ hv153 dX8_does_196
      ·
        have k164 := if_f k104 (Int.not_le.mpr q105)
        refine go_iconst (pc := 143) (v := 1) (by decide) dX8_does_143 ?_
        refine go_goto (pc := 144) (tgt := 148) (by decide) dX8_does_144 ?_
        have g165 : (0 : Int) ≤ (h9.2.1 70 53).toInt := (hv9.2.1 70 53).1
        have g166 : (h9.2.1 70 53).toInt ≤ 3000 := (hv9.2.1 70 53).2
        have g167 : (h9.2.1 70 53).toInt = (v1.toInt + 1) := by rw [← (show v7 = h9.2.1 70 53 from (show v7 = h9.2.1 70 53 from by rw [hv9e]; exact g_iS.symm))] <;> exact e8
        refine go_invV (pc := 148) (sl := 0) (s_X8_sees_x_f l (d + 1) hv9 a2 (by rw [show (a2 : Int32).toInt = a2.toInt from (ti_rfl a2)]; omega) (by rw [show (a2 : Int32).toInt = a2.toInt from (ti_rfl a2)]; omega) 1) mL_X8_448 iM_X8_sees sM_X8_sees (hv9.sh rfl) rfl rfl rfl (Nat.le_of_ble_eq_true rfl) (show d + 1 + 1 + 1 ≤ d + 3 by omega) (show 8 + (3 + 11) + 40 * (d + 1 + 1) ≤ 40 * (d + 3) by omega) (g_c0 hv9.ln) (Nat.le_of_ble_eq_true rfl) dX8_does_148 ?_
        intro r h168 hq _
        obtain ⟨rfl, hv168, f169, f170, f171⟩ := hq
        try rw [show (1 : Int32).toInt = 1 from (ti_c (v := 1) (a := 1) (by decide))] at f169
        try rw [show (1 : Int32).toInt = 1 from (ti_c (v := 1) (a := 1) (by decide))] at f170
        try rw [show (1 : Int32).toInt = 1 from (ti_c (v := 1) (a := 1) (by decide))] at f171
        have fx168 : FX KAq h h168 := FX.tr fx9 f171
        have k172 := bd_e k164 f170.symm
        obtain ⟨u173, u173w⟩ : ∃ v : Int32, v = h168.2.1 70 53 := ⟨_, rfl⟩
        have u173e : (h168.2.1 70 53).toInt = u173.toInt := by rw [u173w]
        have u173l : 0 ≤ u173.toInt := by rw [u173w]; exact (hv168.2.1 70 53).1
        have u173u : u173.toInt ≤ 3000 := by rw [u173w]; exact (hv168.2.1 70 53).2
        have k174 := k172
        refine go_iload_n (pc := 151) rfl dX8_does_151 ?_
        refine go_iload (pc := 152) rfl dX8_does_152 ?_
        refine gf_icmp_ge (pc := 154) (tgt := 171) (ti_rfl v13) (ti_rfl v17) (by decide) dX8_does_154 (fun q175 => ?_) (fun q175 => ?_)
        ·
          have k176 := if_t k174 q175
          refine go_aload_n (pc := 171) rfl dX8_does_171 ?_
          refine gi_getF (pc := 172) (q := 86) hv168 fL_X8_56 rfl (Nat.le_of_ble_eq_true rfl) rfl (hv168.rf (by decide)) dX8_does_172 ?_
          refine go_iload_n (pc := 175) rfl dX8_does_175 ?_
          refine gi_iald (pc := 176) (lo := -1) (hi := 559) (len := 260) hv168 (ti_rfl a2) rfl (by omega) (by omega) (fun _ => rfl) dX8_does_176 (fun v177 v177l v177u v177w => ?_)
          have k178 := bd_e k176 (congrArg Int32.toInt v177w.symm)
          have v177V : v177.toInt = V h.2.1 86 a2.toInt := by rw [v177w, hv168.fz (c := 86) (by omega) (by omega), ← hv.fz (c := 86) (by omega) (by omega)]; rfl
          refine go_iconst (pc := 177) (v := (-1)) (by decide) dX8_does_177 ?_
          refine gf_icmp_ne (pc := 178) (tgt := 185) (ti_rfl v177) (ti_c (v := (-1)) (a := (-1)) (by decide)) (by decide) dX8_does_178 (fun q179 => ?_) (fun q179 => ?_)
          ·
            have k180 := if_t k178 q179
            refine go_aload_n (pc := 185) rfl dX8_does_185 ?_
            refine go_aload_n (pc := 186) rfl dX8_does_186 ?_
            refine gi_getF (pc := 187) (q := 86) hv168 fL_X8_56 rfl (Nat.le_of_ble_eq_true rfl) rfl (hv168.rf (by decide)) dX8_does_187 ?_
            refine go_iload_n (pc := 190) rfl dX8_does_190 ?_
            refine gi_iald (pc := 191) (lo := -1) (hi := 559) (len := 260) hv168 (ti_rfl a2) rfl (by omega) (by omega) (fun _ => rfl) dX8_does_191 (fun v181 v181l v181u v181w => ?_)
            have k182 := bd_e k180 (congrArg Int32.toInt v181w.symm)
            have v181V : v181.toInt = V h.2.1 86 a2.toInt := by rw [v181w, hv168.fz (c := 86) (by omega) (by omega), ← hv.fz (c := 86) (by omega) (by omega)]; rfl
            refine go_iload_n (pc := 192) rfl dX8_does_192 ?_
            rcases (hr.1.1.2.2.2.2.1 a2.toInt hi).2 with t4183 | t4183
            · exact False.elim (by omega)
            have sM184 : (h168.2.1 70 6).toInt = S := by rw [hv168.fy (j := 6) (by omega), ← hv.fy (j := 6) (by omega)]; exact hS.symm
            have g185 : (0 : Int) ≤ (h168.2.1 70 53).toInt := (hv168.2.1 70 53).1
            have g186 : (h168.2.1 70 53).toInt ≤ 3000 := (hv168.2.1 70 53).2
            have g187 : (h168.2.1 70 53).toInt = u173.toInt := by rw [← (show u173 = h168.2.1 70 53 from u173w)] <;> exact (ti_rfl u173)
            refine go_invV (pc := 193) (sl := 0) (ihG hv168 v181 (by rw [show (v181 : Int32).toInt = v181.toInt from (ti_rfl v181)]; omega) (by rw [show (v181 : Int32).toInt = v181.toInt from (ti_rfl v181)]; omega) a3 (by rw [show (a3 : Int32).toInt = a3.toInt from (ti_rfl a3)]; omega) (by rw [show (a3 : Int32).toInt = a3.toInt from (ti_rfl a3)]; omega) (by rw [sM184]; exact (RT2.ve (VE.of hv hv168) hr)) (by rw [sM184]; exact (by rw [hv168.fy (j := 29) (by omega), ← hv.fy (j := 29) (by omega)]; exact hl)) (CKF.ve (VE.of hv hv168) ckf) (by rw [sM184]; exact (by rw [v181V]; exact (BB.ve (VE.of hv hv168)).mpr t4183.1)) (by rw [v181V, VE.v (VE.of hv hv168) (c := 92) (by omega) (by omega), t4183.2]; exact ⟨fun q => by omega, fun q => by rw [VE.v (VE.of hv hv168) (c := 80) (by omega) (by omega)]; omega⟩)) mL_X8_431 iM_X8_goesBlock sM_X8_goesBlock (hv168.sh rfl) rfl rfl rfl (Nat.le_of_ble_eq_true rfl) (show d + 2 + 1 ≤ d + 3 by omega) (show 8 + (5 + 11) + 40 * (d + 2) ≤ 40 * (d + 3) by omega) (g_c0 hv168.ln) (Nat.le_of_ble_eq_true rfl) dX8_does_193 ?_
            intro r h188 hq _
            obtain ⟨v192, rfl, v192l, v192u, hv188, f189, f190, f191⟩ := hq
            have fx188 : FX KAq h h188 := FX.tr fx168 f191
            have k193 := bd2_e k182 f190
            obtain ⟨u194, u194w⟩ : ∃ v : Int32, v = h188.2.1 70 53 := ⟨_, rfl⟩
            have u194e : (h188.2.1 70 53).toInt = u194.toInt := by rw [u194w]
            have u194l : 0 ≤ u194.toInt := by rw [u194w]; exact (hv188.2.1 70 53).1
            have u194u : u194.toInt ≤ 3000 := by rw [u194w]; exact (hv188.2.1 70 53).2
            have k195 := k193
            have g196 : (0 : Int) ≤ (h188.2.1 70 53).toInt := (hv188.2.1 70 53).1
            have g197 : (h188.2.1 70 53).toInt ≤ 3000 := (hv188.2.1 70 53).2
            have g198 : (h188.2.1 70 53).toInt = u194.toInt := by rw [← (show u194 = h188.2.1 70 53 from u194w)] <;> exact (ti_rfl u194)
            exact gi_iret (pc := 196) (ti_rfl v192) ⟨_, rfl, (by rw [show (v192 : Int32).toInt = v192.toInt from (ti_rfl v192)]; omega), (by rw [show (v192 : Int32).toInt = v192.toInt from (ti_rfl v192)]; omega), hv188, (by omega), (k195.symm.trans kf), fx188⟩ hv188 dX8_does_196
          ·
            have k199 := if_f k178 (fun z => z q179)
            refine go_iconst (pc := 181) (v := 0) (by decide) dX8_does_181 ?_
            refine go_goto (pc := 182) (tgt := 196) (by decide) dX8_does_182 ?_
            have g200 : (0 : Int) ≤ (h168.2.1 70 53).toInt := (hv168.2.1 70 53).1
            have g201 : (h168.2.1 70 53).toInt ≤ 3000 := (hv168.2.1 70 53).2
            have g202 : (h168.2.1 70 53).toInt = u173.toInt := by rw [← (show u173 = h168.2.1 70 53 from u173w)] <;> exact (ti_rfl u173)
            exact gi_iret (pc := 196) (ti_c (v := 0) (a := 0) (by decide)) ⟨_, rfl, (by rw [show (0 : Int32).toInt = 0 from (ti_c (v := 0) (a := 0) (by decide))]; omega), (by rw [show (0 : Int32).toInt = 0 from (ti_c (v := 0) (a := 0) (by decide))]; omega), hv168, (by omega), (by rw [show (0 : Int32).toInt = 0 from (ti_c (v := 0) (a := 0) (by decide))]; exact k199.symm.trans kf), fx168⟩ hv168 dX8_does_196
        ·
          have k203 := if_f k174 (Int.not_le.mpr q175)
          refine go_aload_n (pc := 157) rfl dX8_does_157 ?_
          refine go_aload_n (pc := 158) rfl dX8_does_158 ?_
          refine gi_getF (pc := 159) (q := 85) hv168 fL_X8_53 rfl (Nat.le_of_ble_eq_true rfl) rfl (hv168.rf (by decide)) dX8_does_159 ?_
          refine go_iload_n (pc := 162) rfl dX8_does_162 ?_
          refine gi_iald (pc := 163) (lo := -1) (hi := 559) (len := 260) hv168 (ti_rfl a2) rfl (by omega) (by omega) (fun _ => rfl) dX8_does_163 (fun v204 v204l v204u v204w => ?_)
          have k205 := bd_e k203 (congrArg Int32.toInt v204w.symm)
          have v204V : v204.toInt = V h.2.1 85 a2.toInt := by rw [v204w, hv168.fz (c := 85) (by omega) (by omega), ← hv.fz (c := 85) (by omega) (by omega)]; rfl
          refine go_iload_n (pc := 164) rfl dX8_does_164 ?_
          have c23 := cc.2 (by omega)
          rcases (hr.1.1.2.2.2.2.1 a2.toInt hi).1 with t4206 | t4206
          · exact False.elim (by omega)
          have sM207 : (h168.2.1 70 6).toInt = S := by rw [hv168.fy (j := 6) (by omega), ← hv.fy (j := 6) (by omega)]; exact hS.symm
          have g208 : (0 : Int) ≤ (h168.2.1 70 53).toInt := (hv168.2.1 70 53).1
          have g209 : (h168.2.1 70 53).toInt ≤ 3000 := (hv168.2.1 70 53).2
          have g210 : (h168.2.1 70 53).toInt = u173.toInt := by rw [← (show u173 = h168.2.1 70 53 from u173w)] <;> exact (ti_rfl u173)
          refine go_invV (pc := 165) (sl := 0) (ihG hv168 v204 (by rw [show (v204 : Int32).toInt = v204.toInt from (ti_rfl v204)]; omega) (by rw [show (v204 : Int32).toInt = v204.toInt from (ti_rfl v204)]; omega) a3 (by rw [show (a3 : Int32).toInt = a3.toInt from (ti_rfl a3)]; omega) (by rw [show (a3 : Int32).toInt = a3.toInt from (ti_rfl a3)]; omega) (by rw [sM207]; exact (RT2.ve (VE.of hv hv168) hr)) (by rw [sM207]; exact (by rw [hv168.fy (j := 29) (by omega), ← hv.fy (j := 29) (by omega)]; exact hl)) (CKF.ve (VE.of hv hv168) ckf) (by rw [sM207]; exact (by rw [v204V]; exact (BB.ve (VE.of hv hv168)).mpr t4206.1)) (by rw [v204V, VE.v (VE.of hv hv168) (c := 92) (by omega) (by omega), t4206.2]; exact ⟨fun q => by omega, fun q => by rw [VE.v (VE.of hv hv168) (c := 80) (by omega) (by omega)]; omega⟩)) mL_X8_431 iM_X8_goesBlock sM_X8_goesBlock (hv168.sh rfl) rfl rfl rfl (Nat.le_of_ble_eq_true rfl) (show d + 2 + 1 ≤ d + 3 by omega) (show 8 + (5 + 11) + 40 * (d + 2) ≤ 40 * (d + 3) by omega) (g_c0 hv168.ln) (Nat.le_of_ble_eq_true rfl) dX8_does_165 ?_
          intro r h211 hq _
          obtain ⟨v215, rfl, v215l, v215u, hv211, f212, f213, f214⟩ := hq
          have fx211 : FX KAq h h211 := FX.tr fx168 f214
          have k216 := bd2_e k205 f213
          obtain ⟨u217, u217w⟩ : ∃ v : Int32, v = h211.2.1 70 53 := ⟨_, rfl⟩
          have u217e : (h211.2.1 70 53).toInt = u217.toInt := by rw [u217w]
          have u217l : 0 ≤ u217.toInt := by rw [u217w]; exact (hv211.2.1 70 53).1
          have u217u : u217.toInt ≤ 3000 := by rw [u217w]; exact (hv211.2.1 70 53).2
          have k218 := k216
          refine go_goto (pc := 168) (tgt := 196) (by decide) dX8_does_168 ?_
          have g219 : (0 : Int) ≤ (h211.2.1 70 53).toInt := (hv211.2.1 70 53).1
          have g220 : (h211.2.1 70 53).toInt ≤ 3000 := (hv211.2.1 70 53).2
          have g221 : (h211.2.1 70 53).toInt = u217.toInt := by rw [← (show u217 = h211.2.1 70 53 from u217w)] <;> exact (ti_rfl u217)
          exact gi_iret (pc := 196) (ti_rfl v215) ⟨_, rfl, (by rw [show (v215 : Int32).toInt = v215.toInt from (ti_rfl v215)]; omega), (by rw [show (v215 : Int32).toInt = v215.toInt from (ti_rfl v215)]; omega), hv211, (by omega), (k218.symm.trans kf), fx211⟩ hv211 dX8_does_196
    have k222 := if_f k102 q103
    by_cases q223 : v19.toInt = 3
    ·
      refine go_tableIn (pc := 45) (tgt := 197) (off := 152) (by rw [show (v19 : Int32).toInt = v19.toInt from (ti_rfl v19)]; omega) (by rw [show (v19 : Int32).toInt = v19.toInt from (ti_rfl v19)]; omega) (by rw [show (v19 : Int32).toInt = v19.toInt from (ti_rfl v19), q223]; rfl) (by decide) dX8_does_45 ?_
      have k224 := if_t k222 q223
      refine go_aload_n (pc := 197) rfl dX8_does_197 ?_
      refine go_iload_n (pc := 198) rfl dX8_does_198 ?_
      refine go_iload_n (pc := 199) rfl dX8_does_199 ?_
      have sM225 : (h9.2.1 70 6).toInt = S := by rw [hv9.fy (j := 6) (by omega), ← hv.fy (j := 6) (by omega)]; exact hS.symm
      have g226 : (0 : Int) ≤ (h9.2.1 70 53).toInt := (hv9.2.1 70 53).1
      have g227 : (h9.2.1 70 53).toInt ≤ 3000 := (hv9.2.1 70 53).2
      have g228 : (h9.2.1 70 53).toInt = (v1.toInt + 1) := by rw [← (show v7 = h9.2.1 70 53 from (show v7 = h9.2.1 70 53 from by rw [hv9e]; exact g_iS.symm))] <;> exact e8
      refine go_invV (pc := 200) (sl := 0) (ihL hv9 a2 (by rw [show (a2 : Int32).toInt = a2.toInt from (ti_rfl a2)]; omega) (by rw [show (a2 : Int32).toInt = a2.toInt from (ti_rfl a2)]; omega) a3 (by rw [show (a3 : Int32).toInt = a3.toInt from (ti_rfl a3)]; omega) (by rw [show (a3 : Int32).toInt = a3.toInt from (ti_rfl a3)]; omega) (by rw [sM225]; exact (RT2.ve (VE.of hv hv9) hr)) (by rw [sM225]; exact (by rw [hv9.fy (j := 29) (by omega), ← hv.fy (j := 29) (by omega)]; exact hl)) (CKF.ve (VE.of hv hv9) ckf) (by rw [sM225]; exact ((II.ve (VE.of hv hv9)).mpr hi)) (by rw [VE.v (VE.of hv hv9) (c := 77) (by omega) (by omega)]; omega) (by rw [VE.v (VE.of hv hv9) (c := 80) (by omega) (by omega)]; omega)) mL_X8_454 iM_X8_loops sM_X8_loops (hv9.sh rfl) rfl rfl rfl (Nat.le_of_ble_eq_true rfl) (show d + 2 + 1 ≤ d + 3 by omega) (show 8 + (5 + 11) + 40 * (d + 2) ≤ 40 * (d + 3) by omega) (g_c0 hv9.ln) (Nat.le_of_ble_eq_true rfl) dX8_does_200 ?_
      intro r h229 hq _
      obtain ⟨v233, rfl, v233l, v233u, hv229, f230, f231, f232⟩ := hq
      have fx229 : FX KAq h h229 := FX.tr fx9 f232
      have k234 := bd2_e k224 f231
      obtain ⟨u235, u235w⟩ : ∃ v : Int32, v = h229.2.1 70 53 := ⟨_, rfl⟩
      have u235e : (h229.2.1 70 53).toInt = u235.toInt := by rw [u235w]
      have u235l : 0 ≤ u235.toInt := by rw [u235w]; exact (hv229.2.1 70 53).1
      have u235u : u235.toInt ≤ 3000 := by rw [u235w]; exact (hv229.2.1 70 53).2
      have k236 := k234
      have g237 : (0 : Int) ≤ (h229.2.1 70 53).toInt := (hv229.2.1 70 53).1
      have g238 : (h229.2.1 70 53).toInt ≤ 3000 := (hv229.2.1 70 53).2
      have g239 : (h229.2.1 70 53).toInt = u235.toInt := by rw [← (show u235 = h229.2.1 70 53 from u235w)] <;> exact (ti_rfl u235)
      exact gi_iret (pc := 203) (ti_rfl v233) ⟨_, rfl, (by rw [show (v233 : Int32).toInt = v233.toInt from (ti_rfl v233)]; omega), (by rw [show (v233 : Int32).toInt = v233.toInt from (ti_rfl v233)]; omega), hv229, (by omega), (k236.symm.trans kf), fx229⟩ hv229 dX8_does_203
    have k240 := if_f k222 q223
    refine go_tableOut (pc := 45) (tgt := 204) (by rw [show (v19 : Int32).toInt = v19.toInt from (ti_rfl v19)]; omega) (by decide) dX8_does_45 ?_
    refine go_aload_n (pc := 204) rfl dX8_does_204 ?_
    refine go_iload_n (pc := 205) rfl dX8_does_205 ?_
    refine go_iload_n (pc := 206) rfl dX8_does_206 ?_
    have g241 : (0 : Int) ≤ (h9.2.1 70 53).toInt := (hv9.2.1 70 53).1
    have g242 : (h9.2.1 70 53).toInt ≤ 3000 := (hv9.2.1 70 53).2
    have g243 : (h9.2.1 70 53).toInt = (v1.toInt + 1) := by rw [← (show v7 = h9.2.1 70 53 from (show v7 = h9.2.1 70 53 from by rw [hv9e]; exact g_iS.symm))] <;> exact e8
    refine go_invV (pc := 207) (sl := 0) (s_X8_sees_x_f l (d + 1) hv9 a2 (by rw [show (a2 : Int32).toInt = a2.toInt from (ti_rfl a2)]; omega) (by rw [show (a2 : Int32).toInt = a2.toInt from (ti_rfl a2)]; omega) v13) mL_X8_448 iM_X8_sees sM_X8_sees (hv9.sh rfl) rfl rfl rfl (Nat.le_of_ble_eq_true rfl) (show d + 1 + 1 + 1 ≤ d + 3 by omega) (show 8 + (3 + 11) + 40 * (d + 1 + 1) ≤ 40 * (d + 3) by omega) (g_c0 hv9.ln) (Nat.le_of_ble_eq_true rfl) dX8_does_207 ?_
    intro r h244 hq _
    obtain ⟨rfl, hv244, f245, f246, f247⟩ := hq
    have fx244 : FX KAq h h244 := FX.tr fx9 f247
    have k248 := bd_e k240 f246.symm
    obtain ⟨u249, u249w⟩ : ∃ v : Int32, v = h244.2.1 70 53 := ⟨_, rfl⟩
    have u249e : (h244.2.1 70 53).toInt = u249.toInt := by rw [u249w]
    have u249l : 0 ≤ u249.toInt := by rw [u249w]; exact (hv244.2.1 70 53).1
    have u249u : u249.toInt ≤ 3000 := by rw [u249w]; exact (hv244.2.1 70 53).2
    have k250 := k248
    refine go_aload_n (pc := 210) rfl dX8_does_210 ?_
    refine go_iload_n (pc := 211) rfl dX8_does_211 ?_
    refine gi_put (pc := 212) (lo := -2147483648) (hi := 2147483647) hv244 (ti_rfl v13) (fP_X8_434 _) rfl (Nat.le_of_ble_eq_true rfl) rfl rfl (ti_ge (ti_rfl v13)) (ti_le2 (ti_rfl v13)) rfl rfl (by decide) (by decide) (by decide) (by decide) dX8_does_212 (fun h251 hv251 hv251e => ?_)
    have fx251 : FX KAq h h251 := FX.pI fx244 hv251e (by unfold KAq; omega)
    have k252 := bd_e k250 (st_I hv251e (ti_rfl v13))
    refine go_aload_n (pc := 215) rfl dX8_does_215 ?_
    refine gi_getF (pc := 216) (q := 77) hv251 fL_X8_29 rfl (Nat.le_of_ble_eq_true rfl) rfl (hv251.rf (by decide)) dX8_does_216 ?_
    refine go_iload_n (pc := 219) rfl dX8_does_219 ?_
    refine gi_iald (pc := 220) (lo := 0) (hi := 6) (len := 260) hv251 (ti_rfl a2) rfl (by omega) (by omega) (fun _ => rfl) dX8_does_220 (fun v253 v253l v253u v253w => ?_)
    have k254 := bd_e k252 (congrArg Int32.toInt v253w.symm)
    have v253V : v253.toInt = V h.2.1 77 a2.toInt := by rw [v253w, hv251.fz (c := 77) (by omega) (by omega), ← hv.fz (c := 77) (by omega) (by omega)]; rfl
    refine go_iconst (pc := 221) (v := 4) (by decide) dX8_does_221 ?_
    refine gf_icmp_ne (pc := 222) (tgt := 229) (ti_rfl v253) (ti_c (v := 4) (a := 4) (by decide)) (by decide) dX8_does_222 (fun q255 => ?_) (fun q255 => ?_)
    ·
      have k256 := if_t k254 q255
      refine go_iconst (pc := 229) (v := 1) (by decide) dX8_does_229 ?_
      have g257 : (0 : Int) ≤ (h251.2.1 70 53).toInt := (hv251.2.1 70 53).1
      have g258 : (h251.2.1 70 53).toInt ≤ 3000 := (hv251.2.1 70 53).2
      have g259 : (h251.2.1 70 53).toInt = u249.toInt := by rw [← (show u249 = h251.2.1 70 53 from (show u249 = h251.2.1 70 53 from by rw [hv251e]; exact (g_iI rfl u249w.symm).symm))] <;> exact (ti_rfl u249)
      exact gi_iret (pc := 230) (ti_c (v := 1) (a := 1) (by decide)) ⟨_, rfl, (by rw [show (1 : Int32).toInt = 1 from (ti_c (v := 1) (a := 1) (by decide))]; omega), (by rw [show (1 : Int32).toInt = 1 from (ti_c (v := 1) (a := 1) (by decide))]; omega), hv251, (by omega), (by rw [show (1 : Int32).toInt = 1 from (ti_c (v := 1) (a := 1) (by decide))]; exact k256.symm.trans kf), fx251⟩ hv251 dX8_does_230
    ·
      have k260 := if_f k254 (fun z => z q255)
      refine go_iconst (pc := 225) (v := 2) (by decide) dX8_does_225 ?_
      refine go_goto (pc := 226) (tgt := 230) (by decide) dX8_does_226 ?_
      have g261 : (0 : Int) ≤ (h251.2.1 70 53).toInt := (hv251.2.1 70 53).1
      have g262 : (h251.2.1 70 53).toInt ≤ 3000 := (hv251.2.1 70 53).2
      have g263 : (h251.2.1 70 53).toInt = u249.toInt := by rw [← (show u249 = h251.2.1 70 53 from (show u249 = h251.2.1 70 53 from by rw [hv251e]; exact (g_iI rfl u249w.symm).symm))] <;> exact (ti_rfl u249)
      exact gi_iret (pc := 230) (ti_c (v := 2) (a := 2) (by decide)) ⟨_, rfl, (by rw [show (2 : Int32).toInt = 2 from (ti_c (v := 2) (a := 2) (by decide))]; omega), (by rw [show (2 : Int32).toInt = 2 from (ti_c (v := 2) (a := 2) (by decide))]; omega), hv251, (by omega), (by rw [show (2 : Int32).toInt = 2 from (ti_c (v := 2) (a := 2) (by decide))]; exact k260.symm.trans kf), fx251⟩ hv251 dX8_does_230
  ·
    have k264 := if_f k2 (fun z => z q4)
    refine go_iconst (pc := 10) (v := 3) (by decide) dX8_does_10 ?_
    have g265 : (0 : Int) ≤ (h.2.1 70 53).toInt := (hv.2.1 70 53).1
    have g266 : (h.2.1 70 53).toInt ≤ 3000 := (hv.2.1 70 53).2
    have g267 : (h.2.1 70 53).toInt = v1.toInt := by rw [← (show v1 = h.2.1 70 53 from v1w)] <;> exact (ti_rfl v1)
    exact gi_iret (pc := 11) (ti_c (v := 3) (a := 3) (by decide)) ⟨_, rfl, (by rw [show (3 : Int32).toInt = 3 from (ti_c (v := 3) (a := 3) (by decide))]; omega), (by rw [show (3 : Int32).toInt = 3 from (ti_c (v := 3) (a := 3) (by decide))]; omega), hv, (by omega), (by rw [show (3 : Int32).toInt = 3 from (ti_c (v := 3) (a := 3) (by decide))]; exact k264.symm.trans kf), fx⟩ hv dX8_does_11
def f_X8_loops_b_ (g_X8_goesBlock : ST → Int → Int → ST × Int) : Nat → Nat → Int → Int → Int → ST → ST × Int
  | 0, _, _, _, _, sx => (sx, 0)
  | n + 1, _, l1, l2, l3, sx => if l3 = 0 then ((sx, 0)) else (bd (sx.1 85 (l1).toNat) fun v6 => bd2 (g_X8_goesBlock sx v6 l2) fun s11 v15 => bd (s11.1 70 53) fun u17 => if v15 = 0 then (if ¬ u17 = 3000 then (bd (sI s11 70 53 ((u17 + 1))) fun s27 => bd (f_X8_number_ s27 l2 l1 0) fun v31 => bd (f_X8_number_ s27 l2 l1 1) fun v35 => if v35 ≤ v31 then (bd (f_X8_sees_x s27 l1 0) fun s43 => f_X8_loops_b_ g_X8_goesBlock n 37 l1 l2 0 s43) else (bd (f_X8_sees_x s27 l1 1) fun s59 => f_X8_loops_b_ g_X8_goesBlock n 37 l1 l2 1 s59)) else ((s11, 3))) else ((s11, v15)))
def f_X8_loops_b (g_X8_goesBlock : ST → Int → Int → ST × Int) (s : ST) (a2 : Int) (a3 : Int) : ST × Int :=
  bd (f_X8_number_ s a3 a2 0) fun v80 => bd (f_X8_number_ s a3 a2 1) fun v84 => if v84 ≤ v80 then (bd (f_X8_sees_x s a2 0) fun s91 => f_X8_loops_b_ g_X8_goesBlock 10001 37 a2 a3 0 s91) else (bd (f_X8_sees_x s a2 1) fun s106 => f_X8_loops_b_ g_X8_goesBlock 10001 37 a2 a3 1 s106)
set_option maxHeartbeats 4000000 in
set_option maxRecDepth 100000 in
theorem s_X8_loops_b_f (l : Launch) (d : Nat) {nn : Nat} (g_X8_goesBlock : ST → Int → Int → ST × Int) (ihG : ∀ {P : PP} {h : HP} (_ : Iv P h) (a2 : Int32) (a2l : 0 ≤ a2.toInt) (a2u : a2.toInt ≤ 559) (a3 : Int32) (a3l : 0 ≤ a3.toInt) (a3u : a3.toInt ≤ 30) (hr : RD h.2.1 (h.2.1 70 6).toInt ∧ TD h.2.1 (h.2.1 70 6).toInt) (hl : (h.2.1 70 29).toInt = (h.2.1 70 6).toInt) (ckf : CKF h.2.1) (hb : BB h.2.1 (h.2.1 70 6).toInt a2.toInt) (hg : (V h.2.1 92 a2.toInt = -1 → 30 * (30 - a3.toInt) + 24 ≤ (nn : Int)) ∧ (0 ≤ V h.2.1 92 a2.toInt → 30 * (30 - a3.toInt) + 3 * (6 - V h.2.1 80 (V h.2.1 92 a2.toInt)) + 3 ≤ (nn : Int))), Mt l yX8_goesBlock cX8_goesBlock 5 (some .int) (d + 2) [.ref 70, .int a2, .int a3] h 0 0 (fun r h' => ∃ v : Int32, r = some (.int v) ∧ 0 ≤ v.toInt ∧ v.toInt ≤ 3 ∧ Iv P h' ∧ ((h.2.1 70 53).toInt ≤ (h'.2.1 70 53).toInt) ∧ ((st h', v.toInt) = g_X8_goesBlock (st h) a2.toInt a3.toInt) ∧ (FX KAq h h'))) {P : PP} {h : HP} (hv : Iv P h) (a2 : Int32) (a2l : 0 ≤ a2.toInt) (a2u : a2.toInt ≤ 259) (a3 : Int32) (a3l : 0 ≤ a3.toInt) (a3u : a3.toInt ≤ 30) (hr : RD h.2.1 (h.2.1 70 6).toInt ∧ TD h.2.1 (h.2.1 70 6).toInt) (hl : (h.2.1 70 29).toInt = (h.2.1 70 6).toInt) (ckf : CKF h.2.1) (hi : II h.2.1 (h.2.1 70 6).toInt a2.toInt) (hk : V h.2.1 77 a2.toInt = 3) (hg : 30 * (30 - a3.toInt) + 3 * (7 - V h.2.1 80 a2.toInt) + 1 ≤ ((nn + 1 : Nat) : Int)) : Mt l yX8_loops cX8_loops 5 (some .int) (d + 3) [.ref 70, .int a2, .int a3] h 0 0 (fun r h' => ∃ v : Int32, r = some (.int v) ∧ 0 ≤ v.toInt ∧ v.toInt ≤ 3 ∧ Iv P h' ∧ ((h.2.1 70 53).toInt ≤ (h'.2.1 70 53).toInt) ∧ ((st h', v.toInt) = f_X8_loops_b g_X8_goesBlock (st h) a2.toInt a3.toInt) ∧ (FX KAq h h')) := by
  refine Mt_iv hv (by decide) (Nat.le_of_ble_eq_true rfl) ?_
  show Go l RX8 cX8_loops 5 (g_rm (d + 3) 0 0) "loops" (some .int) 117 0 0 (fun _ _ => True) (fun r h' => ∃ v : Int32, r = some (.int v) ∧ 0 ≤ v.toInt ∧ v.toInt ≤ 3 ∧ Iv P h' ∧ ((h.2.1 70 53).toInt ≤ (h'.2.1 70 53).toInt) ∧ ((st h', v.toInt) = f_X8_loops_b g_X8_goesBlock (st h) a2.toInt a3.toInt) ∧ (FX KAq h h')) 0 0 [(0, .ref 70), (1, .int a2), (2, .int a3)] [] h
  obtain ⟨S, hS⟩ : ∃ S : Int, S = (h.2.1 70 6).toInt := ⟨_, rfl⟩
  have S0 : 0 ≤ S := by rw [hS]; exact (hv.2.1 70 6).1
  have S1 : S ≤ 1 := by rw [hS]; exact (hv.2.1 70 6).2
  rw [← hS] at hr
  rw [← hS] at hl
  rw [← hS] at hi
  have cc := (hr.1.2.1 a2.toInt hi.1 hi.2).2
  have cd := (hr.1.2.1 a2.toInt hi.1 hi.2).1
  have t3 := hr.1.1.2.2.2.1 a2.toInt hi
  have r8 : V h.2.1 80 a2.toInt ≤ 6 := (hv.2.1 80 _).2
  have fx : FX KAq h h := FX.rfl
  obtain ⟨fin, kf⟩ : ∃ z, z = f_X8_loops_b g_X8_goesBlock (st h) a2.toInt a3.toInt := ⟨_, _root_.rfl⟩
  have k0 := kf
  unfold f_X8_loops_b at k0
  have key : ∀ n : Nat, (∀ (l1 : Int32) (l2 : Int32) (l3 : Int32) (hx : HP), Iv P hx → 0 ≤ l1.toInt → l1.toInt ≤ 259 → 0 ≤ l2.toInt → l2.toInt ≤ 30 → 0 ≤ l3.toInt → l3.toInt ≤ 1 → (l2.toInt = a3.toInt) → (l1.toInt = a2.toInt) → ((h.2.1 70 53).toInt ≤ (hx.2.1 70 53).toInt) → (0 : Int) ≤ (hx.2.1 70 53).toInt → (hx.2.1 70 53).toInt ≤ 3000 → FX KAq h hx → fin = f_X8_loops_b_ g_X8_goesBlock n 37 l1.toInt l2.toInt l3.toInt (st hx) → (3010 - (hx.2.1 70 53).toInt : Int) < n → Go l RX8 cX8_loops 5 (g_rm (d + 3) 0 0) "loops" (some .int) 117 0 0 (fun _ _ => True) (fun r h' => ∃ v : Int32, r = some (.int v) ∧ 0 ≤ v.toInt ∧ v.toInt ≤ 3 ∧ Iv P h' ∧ ((h.2.1 70 53).toInt ≤ (h'.2.1 70 53).toInt) ∧ ((st h', v.toInt) = f_X8_loops_b g_X8_goesBlock (st h) a2.toInt a3.toInt) ∧ (FX KAq h h')) 0 37 [(0, .ref 70), (1, .int l1), (2, .int l2), (3, .int l3)] [] hx) := by
    intro n
    induction n with
    | zero => exact (by intros; omega)
    | succ n ih =>
      refine ?_
      ·
        intro l1 l2 l3 hx hvx l1l l1u l2l l2u l3l l3u x0 x1 x2 y0l y0u fxx kL hm
        rw [f_X8_loops_b_] at kL
        refine go_iload_n (pc := 37) rfl dX8_loops_37 ?_
        refine gf_if_eq (pc := 38) (tgt := 124) (ti_rfl l3) (by decide) dX8_loops_38 (fun q1 => ?_) (fun q1 => ?_)
        ·
          have k2 := if_t kL q1
          refine go_iconst (pc := 124) (v := 0) (by decide) dX8_loops_124 ?_
          have g3 : (0 : Int) ≤ (hx.2.1 70 53).toInt := (hvx.2.1 70 53).1
          have g4 : (hx.2.1 70 53).toInt ≤ 3000 := (hvx.2.1 70 53).2
          exact gi_iret (pc := 125) (ti_c (v := 0) (a := 0) (by decide)) ⟨_, rfl, (by rw [show (0 : Int32).toInt = 0 from (ti_c (v := 0) (a := 0) (by decide))]; omega), (by rw [show (0 : Int32).toInt = 0 from (ti_c (v := 0) (a := 0) (by decide))]; omega), hvx, (by omega), (by rw [show (0 : Int32).toInt = 0 from (ti_c (v := 0) (a := 0) (by decide))]; exact k2.symm.trans kf), fxx⟩ hvx dX8_loops_125
        ·
          have k5 := if_f kL q1
          refine go_aload_n (pc := 41) rfl dX8_loops_41 ?_
          refine go_aload_n (pc := 42) rfl dX8_loops_42 ?_
          refine gi_getF (pc := 43) (q := 85) hvx fL_X8_53 rfl (Nat.le_of_ble_eq_true rfl) rfl (hvx.rf (by decide)) dX8_loops_43 ?_
          refine go_iload_n (pc := 46) rfl dX8_loops_46 ?_
          refine gi_iald (pc := 47) (lo := -1) (hi := 559) (len := 260) hvx (ti_rfl l1) rfl (by omega) (by omega) (fun _ => rfl) dX8_loops_47 (fun v6 v6l v6u v6w => ?_)
          have k7 := bd_e k5 (congrArg Int32.toInt v6w.symm)
          have v6V : v6.toInt = V h.2.1 85 l1.toInt := by rw [v6w, hvx.fz (c := 85) (by omega) (by omega), ← hv.fz (c := 85) (by omega) (by omega)]; rfl
          refine go_iload_n (pc := 48) rfl dX8_loops_48 ?_
          have c23 := cc.2 (Or.inr hk)
          rcases (hr.1.1.2.2.2.2.1 a2.toInt hi).1 with t4 | t4
          · exact False.elim (by omega)
          have bE : v6.toInt = V h.2.1 85 a2.toInt := by rw [v6V, x1]
          have sM8 : (hx.2.1 70 6).toInt = S := by rw [hvx.fy (j := 6) (by omega), ← hv.fy (j := 6) (by omega)]; exact hS.symm
          have g9 : (0 : Int) ≤ (hx.2.1 70 53).toInt := (hvx.2.1 70 53).1
          have g10 : (hx.2.1 70 53).toInt ≤ 3000 := (hvx.2.1 70 53).2
          refine go_invV (pc := 49) (sl := 0) (ihG hvx v6 (by rw [show (v6 : Int32).toInt = v6.toInt from (ti_rfl v6)]; omega) (by rw [show (v6 : Int32).toInt = v6.toInt from (ti_rfl v6)]; omega) l2 (by rw [show (l2 : Int32).toInt = l2.toInt from (ti_rfl l2)]; omega) (by rw [show (l2 : Int32).toInt = l2.toInt from (ti_rfl l2)]; omega) (by rw [sM8]; exact (RT2.ve (VE.of hv hvx) hr)) (by rw [sM8]; exact (by rw [hvx.fy (j := 29) (by omega), ← hv.fy (j := 29) (by omega)]; exact hl)) (CKF.ve (VE.of hv hvx) ckf) (by rw [sM8]; exact (by rw [bE]; exact (BB.ve (VE.of hv hvx)).mpr t4.1)) (by rw [bE, VE.v (VE.of hv hvx) (c := 92) (by omega) (by omega), t4.2]; exact ⟨fun q => by omega, fun q => by rw [VE.v (VE.of hv hvx) (c := 80) (by omega) (by omega)]; omega⟩)) mL_X8_431 iM_X8_goesBlock sM_X8_goesBlock (hvx.sh rfl) rfl rfl rfl (Nat.le_of_ble_eq_true rfl) (show d + 2 + 1 ≤ d + 3 by omega) (show 8 + (5 + 11) + 40 * (d + 2) ≤ 40 * (d + 3) by omega) (g_c0 hvx.ln) (Nat.le_of_ble_eq_true rfl) dX8_loops_49 ?_
          intro r h11 hq _
          obtain ⟨v15, rfl, v15l, v15u, hv11, f12, f13, f14⟩ := hq
          have fx11 : FX KAq h h11 := FX.tr fxx f14
          have k16 := bd2_e k7 f13
          obtain ⟨u17, u17w⟩ : ∃ v : Int32, v = h11.2.1 70 53 := ⟨_, rfl⟩
          have u17e : (h11.2.1 70 53).toInt = u17.toInt := by rw [u17w]
          have u17l : 0 ≤ u17.toInt := by rw [u17w]; exact (hv11.2.1 70 53).1
          have u17u : u17.toInt ≤ 3000 := by rw [u17w]; exact (hv11.2.1 70 53).2
          have k18 := bd_e k16 (congrArg Int32.toInt u17w.symm)
          refine go_istore (pc := 52) (Nat.le_of_ble_eq_true rfl) dX8_loops_52 (go_lv (lv2 := [(0, .ref 70), (1, .int l1), (2, .int l2), (3, .int l3), (4, .int v15)]) rfl ?_)
          refine go_iload (pc := 54) rfl dX8_loops_54 ?_
          refine gf_if_eq (pc := 56) (tgt := 62) (ti_rfl v15) (by decide) dX8_loops_56 (fun q19 => ?_) (fun q19 => ?_)
          ·
            have k20 := if_t k18 q19
            refine go_aload_n (pc := 62) rfl dX8_loops_62 ?_
            refine gi_get (pc := 63) (lo := 0) (hi := 3000) hv11 fL_X8_437 rfl (Nat.le_of_ble_eq_true rfl) rfl rfl dX8_loops_63 (fun v21 v21l v21u v21w => ?_)
            have v21r : u17 = h11.2.1 70 53 := u17w
            have v21q : TI v21 u17.toInt := by rw [v21w.trans v21r.symm]; exact (ti_rfl u17)
            refine go_sipush (pc := 66) (v := 3000) (by decide) dX8_loops_66 ?_
            refine gf_icmp_ne (pc := 69) (tgt := 74) v21q (ti_c (v := 3000) (a := 3000) (by decide)) (by decide) dX8_loops_69 (fun q22 => ?_) (fun q22 => ?_)
            ·
              have k23 := if_t k20 q22
              refine go_aload_n (pc := 74) rfl dX8_loops_74 ?_
              refine go_dup (pc := 75) rfl dX8_loops_75 ?_
              refine gi_get (pc := 76) (lo := 0) (hi := 3000) hv11 fL_X8_437 rfl (Nat.le_of_ble_eq_true rfl) rfl rfl dX8_loops_76 (fun v24 v24l v24u v24w => ?_)
              have v24r : u17 = h11.2.1 70 53 := u17w
              have v24q : TI v24 u17.toInt := by rw [v24w.trans v24r.symm]; exact (ti_rfl u17)
              refine go_iconst (pc := 79) (v := 1) (by decide) dX8_loops_79 ?_
              refine gf_iadd (pc := 80) v24q (ti_c (v := 1) (a := 1) (by decide)) (by omega) (by omega) dX8_loops_80 (fun v25 e26 => ?_)
              refine gi_put (pc := 81) (lo := 0) (hi := 3000) hv11 e26 (fP_X8_437 _) rfl (Nat.le_of_ble_eq_true rfl) rfl rfl (by omega) (by omega) rfl rfl (by decide) (by decide) (by decide) (by decide) dX8_loops_81 (fun h27 hv27 hv27e => ?_)
              have fx27 : FX KAq h h27 := FX.pI fx11 hv27e (by unfold KAq; omega)
              have k28 := bd_e k23 (st_I hv27e e26)
              refine go_aload_n (pc := 84) rfl dX8_loops_84 ?_
              refine go_iload_n (pc := 85) rfl dX8_loops_85 ?_
              refine go_iload_n (pc := 86) rfl dX8_loops_86 ?_
              refine go_iconst (pc := 87) (v := 0) (by decide) dX8_loops_87 ?_
              refine go_invV (pc := 88) (sl := 0) (s_X8_number__f l (d + 0) hv27 l2 (by rw [show (l2 : Int32).toInt = l2.toInt from (ti_rfl l2)]; omega) (by rw [show (l2 : Int32).toInt = l2.toInt from (ti_rfl l2)]; omega) l1 (by rw [show (l1 : Int32).toInt = l1.toInt from (ti_rfl l1)]; omega) (by rw [show (l1 : Int32).toInt = l1.toInt from (ti_rfl l1)]; omega) 0 (by rw [show (0 : Int32).toInt = 0 from (ti_c (v := 0) (a := 0) (by decide))]; omega) (by rw [show (0 : Int32).toInt = 0 from (ti_c (v := 0) (a := 0) (by decide))]; omega) (show V h27.2.1 89 (2 * l1.toInt + (0 : Int32).toInt) ≤ 1009 from by rw [x1, VE.v (VE.of hv hv27) (c := 89) (by omega) (by omega)]; exact (by rw [show ((0 : Int32).toInt) = 0 by decide, Int.add_zero]; exact t3.2.2.2.1))) mL_X8_440 iM_X8_number_ sM_X8_number_ (hv27.sh rfl) rfl rfl rfl (Nat.le_of_ble_eq_true rfl) (show d + 0 + 2 + 1 ≤ d + 3 by omega) (show 8 + (4 + 11) + 40 * (d + 0 + 2) ≤ 40 * (d + 3) by omega) (g_c0 hv27.ln) (Nat.le_of_ble_eq_true rfl) dX8_loops_88 ?_
              intro r h29 hq _
              obtain ⟨v31, rfl, v31l, v31u, rfl, f30⟩ := hq
              try rw [show (0 : Int32).toInt = 0 from (ti_c (v := 0) (a := 0) (by decide))] at f30
              replace f30 : PE _ _ := f30
              have k32 := bd_e k28 f30.symm
              refine go_aload_n (pc := 91) rfl dX8_loops_91 ?_
              refine go_iload_n (pc := 92) rfl dX8_loops_92 ?_
              refine go_iload_n (pc := 93) rfl dX8_loops_93 ?_
              refine go_iconst (pc := 94) (v := 1) (by decide) dX8_loops_94 ?_
              refine go_invV (pc := 95) (sl := 0) (s_X8_number__f l (d + 0) hv27 l2 (by rw [show (l2 : Int32).toInt = l2.toInt from (ti_rfl l2)]; omega) (by rw [show (l2 : Int32).toInt = l2.toInt from (ti_rfl l2)]; omega) l1 (by rw [show (l1 : Int32).toInt = l1.toInt from (ti_rfl l1)]; omega) (by rw [show (l1 : Int32).toInt = l1.toInt from (ti_rfl l1)]; omega) 1 (by rw [show (1 : Int32).toInt = 1 from (ti_c (v := 1) (a := 1) (by decide))]; omega) (by rw [show (1 : Int32).toInt = 1 from (ti_c (v := 1) (a := 1) (by decide))]; omega) (show V h27.2.1 89 (2 * l1.toInt + (1 : Int32).toInt) ≤ 1009 from by rw [x1, VE.v (VE.of hv hv27) (c := 89) (by omega) (by omega)]; exact (by rw [show ((1 : Int32).toInt) = 1 by decide]; exact t3.2.2.2.2))) mL_X8_440 iM_X8_number_ sM_X8_number_ (hv27.sh rfl) rfl rfl rfl (Nat.le_of_ble_eq_true rfl) (show d + 0 + 2 + 1 ≤ d + 3 by omega) (show 8 + (4 + 11) + 40 * (d + 0 + 2) ≤ 40 * (d + 3) by omega) (g_c0 hv27.ln) (Nat.le_of_ble_eq_true rfl) dX8_loops_95 ?_
              intro r h33 hq _
              obtain ⟨v35, rfl, v35l, v35u, rfl, f34⟩ := hq
              try rw [show (1 : Int32).toInt = 1 from (ti_c (v := 1) (a := 1) (by decide))] at f34
              replace f34 : PE _ _ := f34
              have k36 := bd_e k32 f34.symm
              refine gf_icmp_ge (pc := 98) (tgt := 105) (ti_rfl v31) (ti_rfl v35) (by decide) dX8_loops_98 (fun q37 => ?_) (fun q37 => ?_)
              ·
                have k38 := if_t k36 q37
                refine go_iconst (pc := 105) (v := 0) (by decide) dX8_loops_105 ?_
                refine go_istore_n (pc := 106) (Nat.le_of_ble_eq_true rfl) dX8_loops_106 (go_lv (lv2 := [(0, .ref 70), (1, .int l1), (2, .int l2), (3, .int 0), (4, .int v15)]) rfl ?_)
                refine go_aload_n (pc := 107) rfl dX8_loops_107 ?_
                refine go_iload_n (pc := 108) rfl dX8_loops_108 ?_
                refine go_iload_n (pc := 109) rfl dX8_loops_109 ?_
                refine gf_if_eq (pc := 110) (tgt := 117) (ti_c (v := 0) (a := 0) (by decide)) (by decide) dX8_loops_110 (fun q39 => ?_) (fun q39 => False.elim (by omega))
                refine go_iconst (pc := 117) (v := 0) (by decide) dX8_loops_117 ?_
                have g40 : (0 : Int) ≤ (h27.2.1 70 53).toInt := (hv27.2.1 70 53).1
                have g41 : (h27.2.1 70 53).toInt ≤ 3000 := (hv27.2.1 70 53).2
                have g42 : (h27.2.1 70 53).toInt = (u17.toInt + 1) := by rw [← (show v25 = h27.2.1 70 53 from (show v25 = h27.2.1 70 53 from by rw [hv27e]; exact g_iS.symm))] <;> exact e26
                refine go_invV (pc := 118) (sl := 0) (s_X8_sees_x_f l (d + 1) hv27 l1 (by rw [show (l1 : Int32).toInt = l1.toInt from (ti_rfl l1)]; omega) (by rw [show (l1 : Int32).toInt = l1.toInt from (ti_rfl l1)]; omega) 0) mL_X8_448 iM_X8_sees sM_X8_sees (hv27.sh rfl) rfl rfl rfl (Nat.le_of_ble_eq_true rfl) (show d + 1 + 1 + 1 ≤ d + 3 by omega) (show 8 + (3 + 11) + 40 * (d + 1 + 1) ≤ 40 * (d + 3) by omega) (g_c0 hv27.ln) (Nat.le_of_ble_eq_true rfl) dX8_loops_118 ?_
                intro r h43 hq _
                obtain ⟨rfl, hv43, f44, f45, f46⟩ := hq
                try rw [show (0 : Int32).toInt = 0 from (ti_c (v := 0) (a := 0) (by decide))] at f44
                try rw [show (0 : Int32).toInt = 0 from (ti_c (v := 0) (a := 0) (by decide))] at f45
                try rw [show (0 : Int32).toInt = 0 from (ti_c (v := 0) (a := 0) (by decide))] at f46
                have fx43 : FX KAq h h43 := FX.tr fx27 f46
                have k47 := bd_e k38 f45.symm
                obtain ⟨u48, u48w⟩ : ∃ v : Int32, v = h43.2.1 70 53 := ⟨_, rfl⟩
                have u48e : (h43.2.1 70 53).toInt = u48.toInt := by rw [u48w]
                have u48l : 0 ≤ u48.toInt := by rw [u48w]; exact (hv43.2.1 70 53).1
                have u48u : u48.toInt ≤ 3000 := by rw [u48w]; exact (hv43.2.1 70 53).2
                have k49 := k47
                refine go_goto (pc := 121) (tgt := 37) (by decide) dX8_loops_121 ?_
                have z50 : (0 : Int32).toInt = 0 := (ti_c (v := 0) (a := 0) (by decide))
                have g51 : (0 : Int) ≤ (h43.2.1 70 53).toInt := (hv43.2.1 70 53).1
                have g52 : (h43.2.1 70 53).toInt ≤ 3000 := (hv43.2.1 70 53).2
                have g53 : (h43.2.1 70 53).toInt = u48.toInt := by rw [← (show u48 = h43.2.1 70 53 from u48w)] <;> exact (ti_rfl u48)
                exact go_lv rfl (ih l1 l2 0 h43 hv43 (by omega) (by omega) (by omega) (by omega) (by omega) (by omega) (by omega) (by omega) (by omega) (by omega) (by omega) fx43 (by rw [show (0 : Int32).toInt = 0 from (ti_c (v := 0) (a := 0) (by decide))]; exact k49) (by omega))
              ·
                have k54 := if_f k36 (Int.not_le.mpr q37)
                refine go_iconst (pc := 101) (v := 1) (by decide) dX8_loops_101 ?_
                refine go_goto (pc := 102) (tgt := 106) (by decide) dX8_loops_102 ?_
                refine go_istore_n (pc := 106) (Nat.le_of_ble_eq_true rfl) dX8_loops_106 (go_lv (lv2 := [(0, .ref 70), (1, .int l1), (2, .int l2), (3, .int 1), (4, .int v15)]) rfl ?_)
                refine go_aload_n (pc := 107) rfl dX8_loops_107 ?_
                refine go_iload_n (pc := 108) rfl dX8_loops_108 ?_
                refine go_iload_n (pc := 109) rfl dX8_loops_109 ?_
                refine gf_if_eq (pc := 110) (tgt := 117) (ti_c (v := 1) (a := 1) (by decide)) (by decide) dX8_loops_110 (fun q55 => False.elim (by omega)) (fun q55 => ?_)
                refine go_iconst (pc := 113) (v := 1) (by decide) dX8_loops_113 ?_
                refine go_goto (pc := 114) (tgt := 118) (by decide) dX8_loops_114 ?_
                have g56 : (0 : Int) ≤ (h27.2.1 70 53).toInt := (hv27.2.1 70 53).1
                have g57 : (h27.2.1 70 53).toInt ≤ 3000 := (hv27.2.1 70 53).2
                have g58 : (h27.2.1 70 53).toInt = (u17.toInt + 1) := by rw [← (show v25 = h27.2.1 70 53 from (show v25 = h27.2.1 70 53 from by rw [hv27e]; exact g_iS.symm))] <;> exact e26
                refine go_invV (pc := 118) (sl := 0) (s_X8_sees_x_f l (d + 1) hv27 l1 (by rw [show (l1 : Int32).toInt = l1.toInt from (ti_rfl l1)]; omega) (by rw [show (l1 : Int32).toInt = l1.toInt from (ti_rfl l1)]; omega) 1) mL_X8_448 iM_X8_sees sM_X8_sees (hv27.sh rfl) rfl rfl rfl (Nat.le_of_ble_eq_true rfl) (show d + 1 + 1 + 1 ≤ d + 3 by omega) (show 8 + (3 + 11) + 40 * (d + 1 + 1) ≤ 40 * (d + 3) by omega) (g_c0 hv27.ln) (Nat.le_of_ble_eq_true rfl) dX8_loops_118 ?_
                intro r h59 hq _
                obtain ⟨rfl, hv59, f60, f61, f62⟩ := hq
                try rw [show (1 : Int32).toInt = 1 from (ti_c (v := 1) (a := 1) (by decide))] at f60
                try rw [show (1 : Int32).toInt = 1 from (ti_c (v := 1) (a := 1) (by decide))] at f61
                try rw [show (1 : Int32).toInt = 1 from (ti_c (v := 1) (a := 1) (by decide))] at f62
                have fx59 : FX KAq h h59 := FX.tr fx27 f62
                have k63 := bd_e k54 f61.symm
                obtain ⟨u64, u64w⟩ : ∃ v : Int32, v = h59.2.1 70 53 := ⟨_, rfl⟩
                have u64e : (h59.2.1 70 53).toInt = u64.toInt := by rw [u64w]
                have u64l : 0 ≤ u64.toInt := by rw [u64w]; exact (hv59.2.1 70 53).1
                have u64u : u64.toInt ≤ 3000 := by rw [u64w]; exact (hv59.2.1 70 53).2
                have k65 := k63
                refine go_goto (pc := 121) (tgt := 37) (by decide) dX8_loops_121 ?_
                have z66 : (1 : Int32).toInt = 1 := (ti_c (v := 1) (a := 1) (by decide))
                have g67 : (0 : Int) ≤ (h59.2.1 70 53).toInt := (hv59.2.1 70 53).1
                have g68 : (h59.2.1 70 53).toInt ≤ 3000 := (hv59.2.1 70 53).2
                have g69 : (h59.2.1 70 53).toInt = u64.toInt := by rw [← (show u64 = h59.2.1 70 53 from u64w)] <;> exact (ti_rfl u64)
                exact go_lv rfl (ih l1 l2 1 h59 hv59 (by omega) (by omega) (by omega) (by omega) (by omega) (by omega) (by omega) (by omega) (by omega) (by omega) (by omega) fx59 (by rw [show (1 : Int32).toInt = 1 from (ti_c (v := 1) (a := 1) (by decide))]; exact k65) (by omega))
            ·
              have k70 := if_f k20 (fun z => z q22)
              refine go_iconst (pc := 72) (v := 3) (by decide) dX8_loops_72 ?_
              have g71 : (0 : Int) ≤ (h11.2.1 70 53).toInt := (hv11.2.1 70 53).1
              have g72 : (h11.2.1 70 53).toInt ≤ 3000 := (hv11.2.1 70 53).2
              have g73 : (h11.2.1 70 53).toInt = u17.toInt := by rw [← (show u17 = h11.2.1 70 53 from u17w)] <;> exact (ti_rfl u17)
              exact gi_iret (pc := 73) (ti_c (v := 3) (a := 3) (by decide)) ⟨_, rfl, (by rw [show (3 : Int32).toInt = 3 from (ti_c (v := 3) (a := 3) (by decide))]; omega), (by rw [show (3 : Int32).toInt = 3 from (ti_c (v := 3) (a := 3) (by decide))]; omega), hv11, (by omega), (by rw [show (3 : Int32).toInt = 3 from (ti_c (v := 3) (a := 3) (by decide))]; exact k70.symm.trans kf), fx11⟩ hv11 dX8_loops_73
          ·
            have k74 := if_f k18 q19
            refine go_iload (pc := 59) rfl dX8_loops_59 ?_
            have g75 : (0 : Int) ≤ (h11.2.1 70 53).toInt := (hv11.2.1 70 53).1
            have g76 : (h11.2.1 70 53).toInt ≤ 3000 := (hv11.2.1 70 53).2
            have g77 : (h11.2.1 70 53).toInt = u17.toInt := by rw [← (show u17 = h11.2.1 70 53 from u17w)] <;> exact (ti_rfl u17)
            exact gi_iret (pc := 61) (ti_rfl v15) ⟨_, rfl, (by rw [show (v15 : Int32).toInt = v15.toInt from (ti_rfl v15)]; omega), (by rw [show (v15 : Int32).toInt = v15.toInt from (ti_rfl v15)]; omega), hv11, (by omega), (k74.symm.trans kf), fx11⟩ hv11 dX8_loops_61
  refine go_aload_n (pc := 0) rfl dX8_loops_0 ?_
  refine go_iload_n (pc := 1) rfl dX8_loops_1 ?_
  refine go_iload_n (pc := 2) rfl dX8_loops_2 ?_
  refine go_iconst (pc := 3) (v := 0) (by decide) dX8_loops_3 ?_
  refine go_invV (pc := 4) (sl := 0) (s_X8_number__f l (d + 0) hv a3 (by rw [show (a3 : Int32).toInt = a3.toInt from (ti_rfl a3)]; omega) (by rw [show (a3 : Int32).toInt = a3.toInt from (ti_rfl a3)]; omega) a2 (by rw [show (a2 : Int32).toInt = a2.toInt from (ti_rfl a2)]; omega) (by rw [show (a2 : Int32).toInt = a2.toInt from (ti_rfl a2)]; omega) 0 (by rw [show (0 : Int32).toInt = 0 from (ti_c (v := 0) (a := 0) (by decide))]; omega) (by rw [show (0 : Int32).toInt = 0 from (ti_c (v := 0) (a := 0) (by decide))]; omega) (show V h.2.1 89 (2 * a2.toInt + (0 : Int32).toInt) ≤ 1009 from by rw [VE.v (VE.of hv hv) (c := 89) (by omega) (by omega)]; exact (by rw [show ((0 : Int32).toInt) = 0 by decide, Int.add_zero]; exact t3.2.2.2.1))) mL_X8_440 iM_X8_number_ sM_X8_number_ (hv.sh rfl) rfl rfl rfl (Nat.le_of_ble_eq_true rfl) (show d + 0 + 2 + 1 ≤ d + 3 by omega) (show 8 + (4 + 11) + 40 * (d + 0 + 2) ≤ 40 * (d + 3) by omega) (g_c0 hv.ln) (Nat.le_of_ble_eq_true rfl) dX8_loops_4 ?_
  intro r h78 hq _
  obtain ⟨v80, rfl, v80l, v80u, rfl, f79⟩ := hq
  try rw [show (0 : Int32).toInt = 0 from (ti_c (v := 0) (a := 0) (by decide))] at f79
  replace f79 : PE _ _ := f79
  have k81 := bd_e k0 f79.symm
  refine go_aload_n (pc := 7) rfl dX8_loops_7 ?_
  refine go_iload_n (pc := 8) rfl dX8_loops_8 ?_
  refine go_iload_n (pc := 9) rfl dX8_loops_9 ?_
  refine go_iconst (pc := 10) (v := 1) (by decide) dX8_loops_10 ?_
  refine go_invV (pc := 11) (sl := 0) (s_X8_number__f l (d + 0) hv a3 (by rw [show (a3 : Int32).toInt = a3.toInt from (ti_rfl a3)]; omega) (by rw [show (a3 : Int32).toInt = a3.toInt from (ti_rfl a3)]; omega) a2 (by rw [show (a2 : Int32).toInt = a2.toInt from (ti_rfl a2)]; omega) (by rw [show (a2 : Int32).toInt = a2.toInt from (ti_rfl a2)]; omega) 1 (by rw [show (1 : Int32).toInt = 1 from (ti_c (v := 1) (a := 1) (by decide))]; omega) (by rw [show (1 : Int32).toInt = 1 from (ti_c (v := 1) (a := 1) (by decide))]; omega) (show V h.2.1 89 (2 * a2.toInt + (1 : Int32).toInt) ≤ 1009 from by rw [VE.v (VE.of hv hv) (c := 89) (by omega) (by omega)]; exact (by rw [show ((1 : Int32).toInt) = 1 by decide]; exact t3.2.2.2.2))) mL_X8_440 iM_X8_number_ sM_X8_number_ (hv.sh rfl) rfl rfl rfl (Nat.le_of_ble_eq_true rfl) (show d + 0 + 2 + 1 ≤ d + 3 by omega) (show 8 + (4 + 11) + 40 * (d + 0 + 2) ≤ 40 * (d + 3) by omega) (g_c0 hv.ln) (Nat.le_of_ble_eq_true rfl) dX8_loops_11 ?_
  intro r h82 hq _
  obtain ⟨v84, rfl, v84l, v84u, rfl, f83⟩ := hq
  try rw [show (1 : Int32).toInt = 1 from (ti_c (v := 1) (a := 1) (by decide))] at f83
  replace f83 : PE _ _ := f83
  have k85 := bd_e k81 f83.symm
  refine gf_icmp_ge (pc := 14) (tgt := 21) (ti_rfl v80) (ti_rfl v84) (by decide) dX8_loops_14 (fun q86 => ?_) (fun q86 => ?_)
  ·
    have k87 := if_t k85 q86
    refine go_iconst (pc := 21) (v := 0) (by decide) dX8_loops_21 ?_
    refine go_istore_n (pc := 22) (Nat.le_of_ble_eq_true rfl) dX8_loops_22 (go_lv (lv2 := [(0, .ref 70), (1, .int a2), (2, .int a3), (3, .int 0)]) rfl ?_)
    refine go_aload_n (pc := 23) rfl dX8_loops_23 ?_
    refine go_iload_n (pc := 24) rfl dX8_loops_24 ?_
    refine go_iload_n (pc := 25) rfl dX8_loops_25 ?_
    refine gf_if_eq (pc := 26) (tgt := 33) (ti_c (v := 0) (a := 0) (by decide)) (by decide) dX8_loops_26 (fun q88 => ?_) (fun q88 => False.elim (by omega))
    refine go_iconst (pc := 33) (v := 0) (by decide) dX8_loops_33 ?_
    have g89 : (0 : Int) ≤ (h.2.1 70 53).toInt := (hv.2.1 70 53).1
    have g90 : (h.2.1 70 53).toInt ≤ 3000 := (hv.2.1 70 53).2
    refine go_invV (pc := 34) (sl := 0) (s_X8_sees_x_f l (d + 1) hv a2 (by rw [show (a2 : Int32).toInt = a2.toInt from (ti_rfl a2)]; omega) (by rw [show (a2 : Int32).toInt = a2.toInt from (ti_rfl a2)]; omega) 0) mL_X8_448 iM_X8_sees sM_X8_sees (hv.sh rfl) rfl rfl rfl (Nat.le_of_ble_eq_true rfl) (show d + 1 + 1 + 1 ≤ d + 3 by omega) (show 8 + (3 + 11) + 40 * (d + 1 + 1) ≤ 40 * (d + 3) by omega) (g_c0 hv.ln) (Nat.le_of_ble_eq_true rfl) dX8_loops_34 ?_
    intro r h91 hq _
    obtain ⟨rfl, hv91, f92, f93, f94⟩ := hq
    try rw [show (0 : Int32).toInt = 0 from (ti_c (v := 0) (a := 0) (by decide))] at f92
    try rw [show (0 : Int32).toInt = 0 from (ti_c (v := 0) (a := 0) (by decide))] at f93
    try rw [show (0 : Int32).toInt = 0 from (ti_c (v := 0) (a := 0) (by decide))] at f94
    have fx91 : FX KAq h h91 := FX.tr fx f94
    have k95 := bd_e k87 f93.symm
    obtain ⟨u96, u96w⟩ : ∃ v : Int32, v = h91.2.1 70 53 := ⟨_, rfl⟩
    have u96e : (h91.2.1 70 53).toInt = u96.toInt := by rw [u96w]
    have u96l : 0 ≤ u96.toInt := by rw [u96w]; exact (hv91.2.1 70 53).1
    have u96u : u96.toInt ≤ 3000 := by rw [u96w]; exact (hv91.2.1 70 53).2
    have k97 := k95
    have z98 : (0 : Int32).toInt = 0 := (ti_c (v := 0) (a := 0) (by decide))
    have g99 : (0 : Int) ≤ (h91.2.1 70 53).toInt := (hv91.2.1 70 53).1
    have g100 : (h91.2.1 70 53).toInt ≤ 3000 := (hv91.2.1 70 53).2
    have g101 : (h91.2.1 70 53).toInt = u96.toInt := by rw [← (show u96 = h91.2.1 70 53 from u96w)] <;> exact (ti_rfl u96)
    exact go_lv rfl ((key 10001) a2 a3 0 h91 hv91 (by omega) (by omega) (by omega) (by omega) (by omega) (by omega) (by omega) (by omega) (by omega) (by omega) (by omega) fx91 (by rw [show (0 : Int32).toInt = 0 from (ti_c (v := 0) (a := 0) (by decide))]; exact k97) (by omega))
  ·
    have k102 := if_f k85 (Int.not_le.mpr q86)
    refine go_iconst (pc := 17) (v := 1) (by decide) dX8_loops_17 ?_
    refine go_goto (pc := 18) (tgt := 22) (by decide) dX8_loops_18 ?_
    refine go_istore_n (pc := 22) (Nat.le_of_ble_eq_true rfl) dX8_loops_22 (go_lv (lv2 := [(0, .ref 70), (1, .int a2), (2, .int a3), (3, .int 1)]) rfl ?_)
    refine go_aload_n (pc := 23) rfl dX8_loops_23 ?_
    refine go_iload_n (pc := 24) rfl dX8_loops_24 ?_
    refine go_iload_n (pc := 25) rfl dX8_loops_25 ?_
    refine gf_if_eq (pc := 26) (tgt := 33) (ti_c (v := 1) (a := 1) (by decide)) (by decide) dX8_loops_26 (fun q103 => False.elim (by omega)) (fun q103 => ?_)
    refine go_iconst (pc := 29) (v := 1) (by decide) dX8_loops_29 ?_
    refine go_goto (pc := 30) (tgt := 34) (by decide) dX8_loops_30 ?_
    have g104 : (0 : Int) ≤ (h.2.1 70 53).toInt := (hv.2.1 70 53).1
    have g105 : (h.2.1 70 53).toInt ≤ 3000 := (hv.2.1 70 53).2
    refine go_invV (pc := 34) (sl := 0) (s_X8_sees_x_f l (d + 1) hv a2 (by rw [show (a2 : Int32).toInt = a2.toInt from (ti_rfl a2)]; omega) (by rw [show (a2 : Int32).toInt = a2.toInt from (ti_rfl a2)]; omega) 1) mL_X8_448 iM_X8_sees sM_X8_sees (hv.sh rfl) rfl rfl rfl (Nat.le_of_ble_eq_true rfl) (show d + 1 + 1 + 1 ≤ d + 3 by omega) (show 8 + (3 + 11) + 40 * (d + 1 + 1) ≤ 40 * (d + 3) by omega) (g_c0 hv.ln) (Nat.le_of_ble_eq_true rfl) dX8_loops_34 ?_
    intro r h106 hq _
    obtain ⟨rfl, hv106, f107, f108, f109⟩ := hq
    try rw [show (1 : Int32).toInt = 1 from (ti_c (v := 1) (a := 1) (by decide))] at f107
    try rw [show (1 : Int32).toInt = 1 from (ti_c (v := 1) (a := 1) (by decide))] at f108
    try rw [show (1 : Int32).toInt = 1 from (ti_c (v := 1) (a := 1) (by decide))] at f109
    have fx106 : FX KAq h h106 := FX.tr fx f109
    have k110 := bd_e k102 f108.symm
    obtain ⟨u111, u111w⟩ : ∃ v : Int32, v = h106.2.1 70 53 := ⟨_, rfl⟩
    have u111e : (h106.2.1 70 53).toInt = u111.toInt := by rw [u111w]
    have u111l : 0 ≤ u111.toInt := by rw [u111w]; exact (hv106.2.1 70 53).1
    have u111u : u111.toInt ≤ 3000 := by rw [u111w]; exact (hv106.2.1 70 53).2
    have k112 := k110
    have z113 : (1 : Int32).toInt = 1 := (ti_c (v := 1) (a := 1) (by decide))
    have g114 : (0 : Int) ≤ (h106.2.1 70 53).toInt := (hv106.2.1 70 53).1
    have g115 : (h106.2.1 70 53).toInt ≤ 3000 := (hv106.2.1 70 53).2
    have g116 : (h106.2.1 70 53).toInt = u111.toInt := by rw [← (show u111 = h106.2.1 70 53 from u111w)] <;> exact (ti_rfl u111)
    exact go_lv rfl ((key 10001) a2 a3 1 h106 hv106 (by omega) (by omega) (by omega) (by omega) (by omega) (by omega) (by omega) (by omega) (by omega) (by omega) (by omega) fx106 (by rw [show (1 : Int32).toInt = 1 from (ti_c (v := 1) (a := 1) (by decide))]; exact k112) (by omega))
def f_X8_calls__b (g_X8_procedure : ST → Int → Int → Int → Int → ST × Int) (s : ST) (a2 : Int) (a3 : Int) (a4 : Int) (a5 : Int) : ST × Int :=
  if ¬ a3 = 30 then (bd (s.1 84 (a2).toNat) fun v3 => bd2 (g_X8_procedure s v3 ((a3 + 1)) a4 a5) fun s11 v15 => if ¬ v15 = 3 then (bd (s11.1 70 52) fun v21 => bd (f_X8_sees_x s11 a2 v21) fun s26 => if ¬ v15 = 2 then (bd (s26.1 82 (a2).toNat) fun v35 => bd (s26.1 70 52) fun v37 => bd (f_X8_tellsName_x s26 a3 v35 v37) fun s42 => (s42, 0)) else ((s26, 2))) else ((s11, 3))) else ((s, 3))
set_option maxHeartbeats 4000000 in
set_option maxRecDepth 100000 in
theorem s_X8_calls__b_f (l : Launch) (d : Nat) {nn : Nat} (g_X8_procedure : ST → Int → Int → Int → Int → ST × Int) (ihP : ∀ {P : PP} {h : HP} (_ : Iv P h) (a2 : Int32) (a2l : 0 ≤ a2.toInt) (a2u : a2.toInt ≤ 4) (a3 : Int32) (a3l : 0 ≤ a3.toInt) (a3u : a3.toInt ≤ 30) (a4 : Int32) (a5 : Int32) (hr : RD h.2.1 (h.2.1 70 6).toInt ∧ TD h.2.1 (h.2.1 70 6).toInt) (hl : (h.2.1 70 29).toInt = (h.2.1 70 6).toInt) (ckf : CKF h.2.1) (hp : a2.toInt < V h.2.1 76 (h.2.1 70 6).toInt) (hg : 30 * (30 - a3.toInt) + 27 ≤ (nn : Int)), Mt l yX8_procedure cX8_procedure 6 (some .int) (d + 1) [.ref 70, .int a2, .int a3, .int a4, .int a5] h 0 0 (fun r h' => ∃ v : Int32, r = some (.int v) ∧ 0 ≤ v.toInt ∧ v.toInt ≤ 3 ∧ Iv P h' ∧ ((h.2.1 70 53).toInt ≤ (h'.2.1 70 53).toInt) ∧ ((st h', v.toInt) = g_X8_procedure (st h) a2.toInt a3.toInt a4.toInt a5.toInt) ∧ (FX KAq h h'))) {P : PP} {h : HP} (hv : Iv P h) (a2 : Int32) (a2l : 0 ≤ a2.toInt) (a2u : a2.toInt ≤ 259) (a3 : Int32) (a3l : 0 ≤ a3.toInt) (a3u : a3.toInt ≤ 30) (a4 : Int32) (a5 : Int32) (hr : RD h.2.1 (h.2.1 70 6).toInt ∧ TD h.2.1 (h.2.1 70 6).toInt) (hl : (h.2.1 70 29).toInt = (h.2.1 70 6).toInt) (ckf : CKF h.2.1) (hi : II h.2.1 (h.2.1 70 6).toInt a2.toInt) (hk : V h.2.1 77 a2.toInt = 1) (hg : 30 * (30 - a3.toInt) + 1 ≤ ((nn + 1 : Nat) : Int)) : Mt l yX8_calls_ cX8_calls_ 6 (some .int) (d + 2) [.ref 70, .int a2, .int a3, .int a4, .int a5] h 0 0 (fun r h' => ∃ v : Int32, r = some (.int v) ∧ 0 ≤ v.toInt ∧ v.toInt ≤ 3 ∧ Iv P h' ∧ ((h.2.1 70 53).toInt ≤ (h'.2.1 70 53).toInt) ∧ ((st h', v.toInt) = f_X8_calls__b g_X8_procedure (st h) a2.toInt a3.toInt a4.toInt a5.toInt) ∧ (FX KAq h h')) := by
  refine Mt_iv hv (by decide) (Nat.le_of_ble_eq_true rfl) ?_
  show Go l RX8 cX8_calls_ 6 (g_rm (d + 2) 0 0) "calls" (some .int) 117 0 0 (fun _ _ => True) (fun r h' => ∃ v : Int32, r = some (.int v) ∧ 0 ≤ v.toInt ∧ v.toInt ≤ 3 ∧ Iv P h' ∧ ((h.2.1 70 53).toInt ≤ (h'.2.1 70 53).toInt) ∧ ((st h', v.toInt) = f_X8_calls__b g_X8_procedure (st h) a2.toInt a3.toInt a4.toInt a5.toInt) ∧ (FX KAq h h')) 0 0 [(0, .ref 70), (1, .int a2), (2, .int a3), (3, .int a4), (4, .int a5)] [] h
  obtain ⟨S, hS⟩ : ∃ S : Int, S = (h.2.1 70 6).toInt := ⟨_, rfl⟩
  have S0 : 0 ≤ S := by rw [hS]; exact (hv.2.1 70 6).1
  have S1 : S ≤ 1 := by rw [hS]; exact (hv.2.1 70 6).2
  rw [← hS] at hr
  rw [← hS] at hl
  rw [← hS] at hi
  have fx : FX KAq h h := FX.rfl
  obtain ⟨fin, kf⟩ : ∃ z, z = f_X8_calls__b g_X8_procedure (st h) a2.toInt a3.toInt a4.toInt a5.toInt := ⟨_, _root_.rfl⟩
  have k0 := kf
  unfold f_X8_calls__b at k0
  have cc := (hr.1.2.1 a2.toInt hi.1 hi.2).2
  have cd := (hr.1.2.1 a2.toInt hi.1 hi.2).1
  have t3 := hr.1.1.2.2.2.1 a2.toInt hi
  have r8 : V h.2.1 80 a2.toInt ≤ 6 := (hv.2.1 80 _).2
  refine go_iload_n (pc := 0) rfl dX8_calls__0 ?_
  refine go_bipush (pc := 1) (v := 30) (by decide) dX8_calls__1 ?_
  refine gf_icmp_ne (pc := 3) (tgt := 8) (ti_rfl a3) (ti_c (v := 30) (a := 30) (by decide)) (by decide) dX8_calls__3 (fun q1 => ?_) (fun q1 => ?_)
  ·
    have k2 := if_t k0 q1
    refine go_aload_n (pc := 8) rfl dX8_calls__8 ?_
    refine go_aload_n (pc := 9) rfl dX8_calls__9 ?_
    refine gi_getF (pc := 10) (q := 84) hv fL_X8_50 rfl (Nat.le_of_ble_eq_true rfl) rfl (hv.rf (by decide)) dX8_calls__10 ?_
    refine go_iload_n (pc := 13) rfl dX8_calls__13 ?_
    refine gi_iald (pc := 14) (lo := -2) (hi := 4) (len := 260) hv (ti_rfl a2) rfl (by omega) (by omega) (fun _ => rfl) dX8_calls__14 (fun v3 v3l v3u v3w => ?_)
    have k4 := bd_e k2 (congrArg Int32.toInt v3w.symm)
    have v3V : v3.toInt = V h.2.1 84 a2.toInt := by rw [v3w]; rfl
    have kk : 0 ≤ v3.toInt := by rw [v3w]; exact ckf _ (show V h.2.1 77 a2.toInt = 1 from hk)
    refine go_iload_n (pc := 15) rfl dX8_calls__15 ?_
    refine go_iconst (pc := 16) (v := 1) (by decide) dX8_calls__16 ?_
    refine gf_iadd (pc := 17) (ti_rfl a3) (ti_c (v := 1) (a := 1) (by decide)) (by omega) (by omega) dX8_calls__17 (fun v5 e6 => ?_)
    refine go_iload_n (pc := 18) rfl dX8_calls__18 ?_
    refine go_iload (pc := 19) rfl dX8_calls__19 ?_
    have n7 := t3.1 (by omega)
    have td := hr.2 (V h.2.1 78 a2.toInt) n7.1 n7.2.1
    rw [n7.2.2] at td
    have z7 : (v5 : Int32).toInt = (a3.toInt + 1) := e6
    have sM8 : (h.2.1 70 6).toInt = S := by rw [hv.fy (j := 6) (by omega), ← hv.fy (j := 6) (by omega)]; exact hS.symm
    have g9 : (0 : Int) ≤ (h.2.1 70 53).toInt := (hv.2.1 70 53).1
    have g10 : (h.2.1 70 53).toInt ≤ 3000 := (hv.2.1 70 53).2
    refine go_invV (pc := 21) (sl := 0) (ihP hv v3 (by rw [show (v3 : Int32).toInt = v3.toInt from (ti_rfl v3)]; omega) (by rw [show (v3 : Int32).toInt = v3.toInt from (ti_rfl v3)]; omega) v5 (by rw [show (v5 : Int32).toInt = (a3.toInt + 1) from e6]; omega) (by rw [show (v5 : Int32).toInt = (a3.toInt + 1) from e6]; omega) a4 a5 (by rw [sM8]; exact (RT2.ve (VE.of hv hv) hr)) (by rw [sM8]; exact (by rw [hv.fy (j := 29) (by omega), ← hv.fy (j := 29) (by omega)]; exact hl)) (CKF.ve (VE.of hv hv) ckf) (by rw [sM8]; exact (by rw [VE.v (VE.of hv hv) (c := 76) (by omega) (by omega)]; omega)) (by omega)) mL_X8_457 iM_X8_procedure sM_X8_procedure (hv.sh rfl) rfl rfl rfl (Nat.le_of_ble_eq_true rfl) (show d + 1 + 1 ≤ d + 2 by omega) (show 8 + (6 + 11) + 40 * (d + 1) ≤ 40 * (d + 2) by omega) (g_c0 hv.ln) (Nat.le_of_ble_eq_true rfl) dX8_calls__21 ?_
    intro r h11 hq _
    obtain ⟨v15, rfl, v15l, v15u, hv11, f12, f13, f14⟩ := hq
    try rw [show (v5 : Int32).toInt = (a3.toInt + 1) from e6] at f12
    try rw [show (v5 : Int32).toInt = (a3.toInt + 1) from e6] at f13
    try rw [show (v5 : Int32).toInt = (a3.toInt + 1) from e6] at f14
    have fx11 : FX KAq h h11 := FX.tr fx f14
    have k16 := bd2_e k4 f13
    obtain ⟨u17, u17w⟩ : ∃ v : Int32, v = h11.2.1 70 53 := ⟨_, rfl⟩
    have u17e : (h11.2.1 70 53).toInt = u17.toInt := by rw [u17w]
    have u17l : 0 ≤ u17.toInt := by rw [u17w]; exact (hv11.2.1 70 53).1
    have u17u : u17.toInt ≤ 3000 := by rw [u17w]; exact (hv11.2.1 70 53).2
    have k18 := k16
    refine go_istore (pc := 24) (Nat.le_of_ble_eq_true rfl) dX8_calls__24 (go_lv (lv2 := [(0, .ref 70), (1, .int a2), (2, .int a3), (3, .int a4), (4, .int a5), (5, .int v15)]) rfl ?_)
    refine go_iload (pc := 26) rfl dX8_calls__26 ?_
    refine go_iconst (pc := 28) (v := 3) (by decide) dX8_calls__28 ?_
    refine gf_icmp_ne (pc := 29) (tgt := 34) (ti_rfl v15) (ti_c (v := 3) (a := 3) (by decide)) (by decide) dX8_calls__29 (fun q19 => ?_) (fun q19 => ?_)
    ·
      have k20 := if_t k18 q19
      refine go_aload_n (pc := 34) rfl dX8_calls__34 ?_
      refine go_iload_n (pc := 35) rfl dX8_calls__35 ?_
      refine go_aload_n (pc := 36) rfl dX8_calls__36 ?_
      refine gi_get (pc := 37) (lo := -2147483648) (hi := 2147483647) hv11 fL_X8_434 rfl (Nat.le_of_ble_eq_true rfl) rfl rfl dX8_calls__37 (fun v21 v21l v21u v21w => ?_)
      have k22 := bd_e k20 (congrArg Int32.toInt v21w.symm)
      have g23 : (0 : Int) ≤ (h11.2.1 70 53).toInt := (hv11.2.1 70 53).1
      have g24 : (h11.2.1 70 53).toInt ≤ 3000 := (hv11.2.1 70 53).2
      have g25 : (h11.2.1 70 53).toInt = u17.toInt := by rw [← (show u17 = h11.2.1 70 53 from u17w)] <;> exact (ti_rfl u17)
      refine go_invV (pc := 40) (sl := 0) (s_X8_sees_x_f l (d + 0) hv11 a2 (by rw [show (a2 : Int32).toInt = a2.toInt from (ti_rfl a2)]; omega) (by rw [show (a2 : Int32).toInt = a2.toInt from (ti_rfl a2)]; omega) v21) mL_X8_448 iM_X8_sees sM_X8_sees (hv11.sh rfl) rfl rfl rfl (Nat.le_of_ble_eq_true rfl) (show d + 0 + 1 + 1 ≤ d + 2 by omega) (show 8 + (3 + 11) + 40 * (d + 0 + 1) ≤ 40 * (d + 2) by omega) (g_c0 hv11.ln) (Nat.le_of_ble_eq_true rfl) dX8_calls__40 ?_
      intro r h26 hq _
      obtain ⟨rfl, hv26, f27, f28, f29⟩ := hq
      have fx26 : FX KAq h h26 := FX.tr fx11 f29
      have k30 := bd_e k22 f28.symm
      obtain ⟨u31, u31w⟩ : ∃ v : Int32, v = h26.2.1 70 53 := ⟨_, rfl⟩
      have u31e : (h26.2.1 70 53).toInt = u31.toInt := by rw [u31w]
      have u31l : 0 ≤ u31.toInt := by rw [u31w]; exact (hv26.2.1 70 53).1
      have u31u : u31.toInt ≤ 3000 := by rw [u31w]; exact (hv26.2.1 70 53).2
      have k32 := k30
      refine go_iload (pc := 43) rfl dX8_calls__43 ?_
      refine go_iconst (pc := 45) (v := 2) (by decide) dX8_calls__45 ?_
      refine gf_icmp_ne (pc := 46) (tgt := 51) (ti_rfl v15) (ti_c (v := 2) (a := 2) (by decide)) (by decide) dX8_calls__46 (fun q33 => ?_) (fun q33 => ?_)
      ·
        have k34 := if_t k32 q33
        refine go_aload_n (pc := 51) rfl dX8_calls__51 ?_
        refine go_iload_n (pc := 52) rfl dX8_calls__52 ?_
        refine go_aload_n (pc := 53) rfl dX8_calls__53 ?_
        refine gi_getF (pc := 54) (q := 82) hv26 fL_X8_44 rfl (Nat.le_of_ble_eq_true rfl) rfl (hv26.rf (by decide)) dX8_calls__54 ?_
        refine go_iload_n (pc := 57) rfl dX8_calls__57 ?_
        refine gi_iald (pc := 58) (lo := -1) (hi := 9) (len := 260) hv26 (ti_rfl a2) rfl (by omega) (by omega) (fun _ => rfl) dX8_calls__58 (fun v35 v35l v35u v35w => ?_)
        have k36 := bd_e k34 (congrArg Int32.toInt v35w.symm)
        have v35V : v35.toInt = V h.2.1 82 a2.toInt := by rw [v35w, hv26.fz (c := 82) (by omega) (by omega), ← hv.fz (c := 82) (by omega) (by omega)]; rfl
        refine go_aload_n (pc := 59) rfl dX8_calls__59 ?_
        refine gi_get (pc := 60) (lo := -2147483648) (hi := 2147483647) hv26 fL_X8_434 rfl (Nat.le_of_ble_eq_true rfl) rfl rfl dX8_calls__60 (fun v37 v37l v37u v37w => ?_)
        have k38 := bd_e k36 (congrArg Int32.toInt v37w.symm)
        have k9 : 0 ≤ v35.toInt := by have q := t3.2.1 (by omega); omega
        have g39 : (0 : Int) ≤ (h26.2.1 70 53).toInt := (hv26.2.1 70 53).1
        have g40 : (h26.2.1 70 53).toInt ≤ 3000 := (hv26.2.1 70 53).2
        have g41 : (h26.2.1 70 53).toInt = u31.toInt := by rw [← (show u31 = h26.2.1 70 53 from u31w)] <;> exact (ti_rfl u31)
        refine go_invV (pc := 63) (sl := 0) (s_X8_tellsName_x_f l (d + 0) hv26 a3 (by rw [show (a3 : Int32).toInt = a3.toInt from (ti_rfl a3)]; omega) (by rw [show (a3 : Int32).toInt = a3.toInt from (ti_rfl a3)]; omega) v35 (by rw [show (v35 : Int32).toInt = v35.toInt from (ti_rfl v35)]; omega) (by rw [show (v35 : Int32).toInt = v35.toInt from (ti_rfl v35)]; omega) v37) mL_X8_445 iM_X8_tellsName sM_X8_tellsName (hv26.sh rfl) rfl rfl rfl (Nat.le_of_ble_eq_true rfl) (show d + 0 + 1 + 1 ≤ d + 2 by omega) (show 8 + (4 + 11) + 40 * (d + 0 + 1) ≤ 40 * (d + 2) by omega) (g_c0 hv26.ln) (Nat.le_of_ble_eq_true rfl) dX8_calls__63 ?_
        intro r h42 hq _
        obtain ⟨rfl, hv42, f43, f44, f45⟩ := hq
        have fx42 : FX KAq h h42 := FX.tr fx26 f45
        have k46 := bd_e k38 f44.symm
        obtain ⟨u47, u47w⟩ : ∃ v : Int32, v = h42.2.1 70 53 := ⟨_, rfl⟩
        have u47e : (h42.2.1 70 53).toInt = u47.toInt := by rw [u47w]
        have u47l : 0 ≤ u47.toInt := by rw [u47w]; exact (hv42.2.1 70 53).1
        have u47u : u47.toInt ≤ 3000 := by rw [u47w]; exact (hv42.2.1 70 53).2
        have k48 := k46
        refine go_iconst (pc := 66) (v := 0) (by decide) dX8_calls__66 ?_
        have g49 : (0 : Int) ≤ (h42.2.1 70 53).toInt := (hv42.2.1 70 53).1
        have g50 : (h42.2.1 70 53).toInt ≤ 3000 := (hv42.2.1 70 53).2
        have g51 : (h42.2.1 70 53).toInt = u47.toInt := by rw [← (show u47 = h42.2.1 70 53 from u47w)] <;> exact (ti_rfl u47)
        exact gi_iret (pc := 67) (ti_c (v := 0) (a := 0) (by decide)) ⟨_, rfl, (by rw [show (0 : Int32).toInt = 0 from (ti_c (v := 0) (a := 0) (by decide))]; omega), (by rw [show (0 : Int32).toInt = 0 from (ti_c (v := 0) (a := 0) (by decide))]; omega), hv42, (by omega), (by rw [show (0 : Int32).toInt = 0 from (ti_c (v := 0) (a := 0) (by decide))]; exact k48.symm.trans kf), fx42⟩ hv42 dX8_calls__67
      ·
        have k52 := if_f k32 (fun z => z q33)
        refine go_iconst (pc := 49) (v := 2) (by decide) dX8_calls__49 ?_
        have g53 : (0 : Int) ≤ (h26.2.1 70 53).toInt := (hv26.2.1 70 53).1
        have g54 : (h26.2.1 70 53).toInt ≤ 3000 := (hv26.2.1 70 53).2
        have g55 : (h26.2.1 70 53).toInt = u31.toInt := by rw [← (show u31 = h26.2.1 70 53 from u31w)] <;> exact (ti_rfl u31)
        exact gi_iret (pc := 50) (ti_c (v := 2) (a := 2) (by decide)) ⟨_, rfl, (by rw [show (2 : Int32).toInt = 2 from (ti_c (v := 2) (a := 2) (by decide))]; omega), (by rw [show (2 : Int32).toInt = 2 from (ti_c (v := 2) (a := 2) (by decide))]; omega), hv26, (by omega), (by rw [show (2 : Int32).toInt = 2 from (ti_c (v := 2) (a := 2) (by decide))]; exact k52.symm.trans kf), fx26⟩ hv26 dX8_calls__50
    ·
      have k56 := if_f k18 (fun z => z q19)
      refine go_iconst (pc := 32) (v := 3) (by decide) dX8_calls__32 ?_
      have g57 : (0 : Int) ≤ (h11.2.1 70 53).toInt := (hv11.2.1 70 53).1
      have g58 : (h11.2.1 70 53).toInt ≤ 3000 := (hv11.2.1 70 53).2
      have g59 : (h11.2.1 70 53).toInt = u17.toInt := by rw [← (show u17 = h11.2.1 70 53 from u17w)] <;> exact (ti_rfl u17)
      exact gi_iret (pc := 33) (ti_c (v := 3) (a := 3) (by decide)) ⟨_, rfl, (by rw [show (3 : Int32).toInt = 3 from (ti_c (v := 3) (a := 3) (by decide))]; omega), (by rw [show (3 : Int32).toInt = 3 from (ti_c (v := 3) (a := 3) (by decide))]; omega), hv11, (by omega), (by rw [show (3 : Int32).toInt = 3 from (ti_c (v := 3) (a := 3) (by decide))]; exact k56.symm.trans kf), fx11⟩ hv11 dX8_calls__33
  ·
    have k60 := if_f k0 (fun z => z q1)
    refine go_iconst (pc := 6) (v := 3) (by decide) dX8_calls__6 ?_
    have g61 : (0 : Int) ≤ (h.2.1 70 53).toInt := (hv.2.1 70 53).1
    have g62 : (h.2.1 70 53).toInt ≤ 3000 := (hv.2.1 70 53).2
    exact gi_iret (pc := 7) (ti_c (v := 3) (a := 3) (by decide)) ⟨_, rfl, (by rw [show (3 : Int32).toInt = 3 from (ti_c (v := 3) (a := 3) (by decide))]; omega), (by rw [show (3 : Int32).toInt = 3 from (ti_c (v := 3) (a := 3) (by decide))]; omega), hv, (by omega), (by rw [show (3 : Int32).toInt = 3 from (ti_c (v := 3) (a := 3) (by decide))]; exact k60.symm.trans kf), fx⟩ hv dX8_calls__7
def f_X8_procedure_b_ (g_X8_goesBlock : ST → Int → Int → ST × Int) : Nat → Nat → Int → Int → Int → Int → Int → ST → ST × Int
  | 0, _, _, _, _, _, _, sx => (sx, 0)
  | n + 1, _, l1, l2, l3, l4, l5, sx => if 6 ≤ l5 then (bd (sx.1 70 29) fun v4 => bd (sx.1 94 (((5 * v4) + l1)).toNat) fun v10 => bd2 (g_X8_goesBlock sx v10 l2) fun s16 v20 => if ¬ v20 = 0 then ((s16, v20)) else (bd (sI s16 70 52 0) fun s31 => (s31, 1))) else (if ¬ l5 = 0 then (if ¬ l5 = 1 then (bd (sI sx 114 (((6 * l2) + l5)).toNat 0) fun s46 => f_X8_procedure_b_ g_X8_goesBlock n 3 l1 l2 l3 l4 ((l5 + 1)) s46) else (bd (sI sx 114 (((6 * l2) + l5)).toNat l4) fun s55 => f_X8_procedure_b_ g_X8_goesBlock n 3 l1 l2 l3 l4 ((l5 + 1)) s55)) else (bd (sI sx 114 (((6 * l2) + l5)).toNat l3) fun s64 => f_X8_procedure_b_ g_X8_goesBlock n 3 l1 l2 l3 l4 ((l5 + 1)) s64))
def f_X8_procedure_b (g_X8_goesBlock : ST → Int → Int → ST × Int) (s : ST) (a2 : Int) (a3 : Int) (a4 : Int) (a5 : Int) : ST × Int :=
  f_X8_procedure_b_ g_X8_goesBlock 37 3 a2 a3 a4 a5 0 s
set_option maxHeartbeats 4000000 in
set_option maxRecDepth 100000 in
theorem s_X8_procedure_b_f (l : Launch) (d : Nat) {nn : Nat} (g_X8_goesBlock : ST → Int → Int → ST × Int) (ihG : ∀ {P : PP} {h : HP} (_ : Iv P h) (a2 : Int32) (a2l : 0 ≤ a2.toInt) (a2u : a2.toInt ≤ 559) (a3 : Int32) (a3l : 0 ≤ a3.toInt) (a3u : a3.toInt ≤ 30) (hr : RD h.2.1 (h.2.1 70 6).toInt ∧ TD h.2.1 (h.2.1 70 6).toInt) (hl : (h.2.1 70 29).toInt = (h.2.1 70 6).toInt) (ckf : CKF h.2.1) (hb : BB h.2.1 (h.2.1 70 6).toInt a2.toInt) (hg : (V h.2.1 92 a2.toInt = -1 → 30 * (30 - a3.toInt) + 24 ≤ (nn : Int)) ∧ (0 ≤ V h.2.1 92 a2.toInt → 30 * (30 - a3.toInt) + 3 * (6 - V h.2.1 80 (V h.2.1 92 a2.toInt)) + 3 ≤ (nn : Int))), Mt l yX8_goesBlock cX8_goesBlock 5 (some .int) (d + 0) [.ref 70, .int a2, .int a3] h 0 0 (fun r h' => ∃ v : Int32, r = some (.int v) ∧ 0 ≤ v.toInt ∧ v.toInt ≤ 3 ∧ Iv P h' ∧ ((h.2.1 70 53).toInt ≤ (h'.2.1 70 53).toInt) ∧ ((st h', v.toInt) = g_X8_goesBlock (st h) a2.toInt a3.toInt) ∧ (FX KAq h h'))) {P : PP} {h : HP} (hv : Iv P h) (a2 : Int32) (a2l : 0 ≤ a2.toInt) (a2u : a2.toInt ≤ 4) (a3 : Int32) (a3l : 0 ≤ a3.toInt) (a3u : a3.toInt ≤ 30) (a4 : Int32) (a5 : Int32) (hr : RD h.2.1 (h.2.1 70 6).toInt ∧ TD h.2.1 (h.2.1 70 6).toInt) (hl : (h.2.1 70 29).toInt = (h.2.1 70 6).toInt) (ckf : CKF h.2.1) (hp : a2.toInt < V h.2.1 76 (h.2.1 70 6).toInt) (hg : 30 * (30 - a3.toInt) + 27 ≤ ((nn + 1 : Nat) : Int)) : Mt l yX8_procedure cX8_procedure 6 (some .int) (d + 1) [.ref 70, .int a2, .int a3, .int a4, .int a5] h 0 0 (fun r h' => ∃ v : Int32, r = some (.int v) ∧ 0 ≤ v.toInt ∧ v.toInt ≤ 3 ∧ Iv P h' ∧ ((h.2.1 70 53).toInt ≤ (h'.2.1 70 53).toInt) ∧ ((st h', v.toInt) = f_X8_procedure_b g_X8_goesBlock (st h) a2.toInt a3.toInt a4.toInt a5.toInt) ∧ (FX KAq h h')) := by
  refine Mt_iv hv (by decide) (Nat.le_of_ble_eq_true rfl) ?_
  show Go l RX8 cX8_procedure 6 (g_rm (d + 1) 0 0) "procedure" (some .int) 117 0 0 (fun _ _ => True) (fun r h' => ∃ v : Int32, r = some (.int v) ∧ 0 ≤ v.toInt ∧ v.toInt ≤ 3 ∧ Iv P h' ∧ ((h.2.1 70 53).toInt ≤ (h'.2.1 70 53).toInt) ∧ ((st h', v.toInt) = f_X8_procedure_b g_X8_goesBlock (st h) a2.toInt a3.toInt a4.toInt a5.toInt) ∧ (FX KAq h h')) 0 0 [(0, .ref 70), (1, .int a2), (2, .int a3), (3, .int a4), (4, .int a5)] [] h
  obtain ⟨S, hS⟩ : ∃ S : Int, S = (h.2.1 70 6).toInt := ⟨_, rfl⟩
  have S0 : 0 ≤ S := by rw [hS]; exact (hv.2.1 70 6).1
  have S1 : S ≤ 1 := by rw [hS]; exact (hv.2.1 70 6).2
  rw [← hS] at hr
  rw [← hS] at hl
  rw [← hS] at hp
  have fx : FX KAq h h := FX.rfl
  obtain ⟨fin, kf⟩ : ∃ z, z = f_X8_procedure_b g_X8_goesBlock (st h) a2.toInt a3.toInt a4.toInt a5.toInt := ⟨_, _root_.rfl⟩
  have k0 := kf
  unfold f_X8_procedure_b at k0
  have key : ∀ n : Nat, (∀ (l1 : Int32) (l2 : Int32) (l3 : Int32) (l4 : Int32) (l5 : Int32) (hx : HP), Iv P hx → 0 ≤ l1.toInt → l1.toInt ≤ 4 → 0 ≤ l2.toInt → l2.toInt ≤ 30 → 0 ≤ l5.toInt → l5.toInt ≤ 6 → (l1.toInt = a2.toInt) → (l2.toInt = a3.toInt) → ((h.2.1 70 53).toInt ≤ (hx.2.1 70 53).toInt) → (0 : Int) ≤ (hx.2.1 70 53).toInt → (hx.2.1 70 53).toInt ≤ 3000 → FX KAq h hx → fin = f_X8_procedure_b_ g_X8_goesBlock n 3 l1.toInt l2.toInt l3.toInt l4.toInt l5.toInt (st hx) → (3 * (6 - l5.toInt) + 2 : Int) < n → Go l RX8 cX8_procedure 6 (g_rm (d + 1) 0 0) "procedure" (some .int) 117 0 0 (fun _ _ => True) (fun r h' => ∃ v : Int32, r = some (.int v) ∧ 0 ≤ v.toInt ∧ v.toInt ≤ 3 ∧ Iv P h' ∧ ((h.2.1 70 53).toInt ≤ (h'.2.1 70 53).toInt) ∧ ((st h', v.toInt) = f_X8_procedure_b g_X8_goesBlock (st h) a2.toInt a3.toInt a4.toInt a5.toInt) ∧ (FX KAq h h')) 0 3 [(0, .ref 70), (1, .int l1), (2, .int l2), (3, .int l3), (4, .int l4), (5, .int l5)] [] hx) := by
    intro n
    induction n with
    | zero => exact (by intros; omega)
    | succ n ih =>
      refine ?_
      ·
        intro l1 l2 l3 l4 l5 hx hvx l1l l1u l2l l2u l5l l5u x0 x1 x2 y0l y0u fxx kL hm
        obtain ⟨u70_53, u70_53w⟩ : ∃ v : Int32, v = hx.2.1 70 53 := ⟨_, rfl⟩
        have u70_53e : (hx.2.1 70 53).toInt = u70_53.toInt := by rw [u70_53w]
        have u70_53l : 0 ≤ u70_53.toInt := by rw [u70_53w]; exact (hvx.2.1 70 53).1
        have u70_53u : u70_53.toInt ≤ 3000 := by rw [u70_53w]; exact (hvx.2.1 70 53).2
        rw [f_X8_procedure_b_] at kL
        have k1 := kL
        refine go_iload (pc := 3) rfl dX8_procedure_3 ?_
        refine go_bipush (pc := 5) (v := 6) (by decide) dX8_procedure_5 ?_
        refine gf_icmp_ge (pc := 7) (tgt := 49) (ti_rfl l5) (ti_c (v := 6) (a := 6) (by decide)) (by decide) dX8_procedure_7 (fun q2 => ?_) (fun q2 => ?_)
        ·
          have k3 := if_t k1 q2
          refine go_aload_n (pc := 49) rfl dX8_procedure_49 ?_
          refine go_aload_n (pc := 50) rfl dX8_procedure_50 ?_
          refine gi_getF (pc := 51) (q := 94) hvx fL_X8_80 rfl (Nat.le_of_ble_eq_true rfl) rfl (hvx.rf (by decide)) dX8_procedure_51 ?_
          refine go_iconst (pc := 54) (v := 5) (by decide) dX8_procedure_54 ?_
          refine go_aload_n (pc := 55) rfl dX8_procedure_55 ?_
          refine gi_get (pc := 56) (lo := 0) (hi := 1) hvx fL_X8_228 rfl (Nat.le_of_ble_eq_true rfl) rfl rfl dX8_procedure_56 (fun v4 v4l v4u v4w => ?_)
          have k5 := bd_e k3 (congrArg Int32.toInt v4w.symm)
          have w29 : v4.toInt = S := by rw [v4w, hvx.fy (j := 29) (by omega), ← hv.fy (j := 29) (by omega)]; exact hl
          refine gf_imul (pc := 59) (ti_c (v := 5) (a := 5) (by decide)) (ti_rfl v4) (by omega) (by omega) dX8_procedure_59 (fun v6 e7 => ?_)
          refine go_iload_n (pc := 60) rfl dX8_procedure_60 ?_
          refine gf_iadd (pc := 61) e7 (ti_rfl l1) (by omega) (by omega) dX8_procedure_61 (fun v8 e9 => ?_)
          refine gi_iald (pc := 62) (lo := 0) (hi := 559) (len := 10) hvx e9 rfl (by omega) (by omega) (fun _ => rfl) dX8_procedure_62 (fun v10 v10l v10u v10w => ?_)
          have k11 := bd_e k5 (congrArg Int32.toInt v10w.symm)
          have v10V : v10.toInt = V h.2.1 94 (((5 * v4.toInt) + l1.toInt)) := by rw [v10w, hvx.fz (c := 94) (by omega) (by omega), ← hv.fz (c := 94) (by omega) (by omega)]; rfl
          refine go_iload_n (pc := 63) rfl dX8_procedure_63 ?_
          have bE : v10.toInt = V h.2.1 94 (5 * S + a2.toInt) := by rw [v10V, w29, x0]
          have wh := hr.1.2.2 a2.toInt (by omega) hp
          have sM12 : (hx.2.1 70 6).toInt = S := by rw [hvx.fy (j := 6) (by omega), ← hv.fy (j := 6) (by omega)]; exact hS.symm
          have g13 : (0 : Int) ≤ (hx.2.1 70 53).toInt := (hvx.2.1 70 53).1
          have g14 : (hx.2.1 70 53).toInt ≤ 3000 := (hvx.2.1 70 53).2
          have g15 : (hx.2.1 70 53).toInt = u70_53.toInt := by rw [← (show u70_53 = hx.2.1 70 53 from u70_53w)] <;> exact (ti_rfl u70_53)
          refine go_invV (pc := 64) (sl := 0) (ihG hvx v10 (by rw [show (v10 : Int32).toInt = v10.toInt from (ti_rfl v10)]; omega) (by rw [show (v10 : Int32).toInt = v10.toInt from (ti_rfl v10)]; omega) l2 (by rw [show (l2 : Int32).toInt = l2.toInt from (ti_rfl l2)]; omega) (by rw [show (l2 : Int32).toInt = l2.toInt from (ti_rfl l2)]; omega) (by rw [sM12]; exact (RT2.ve (VE.of hv hvx) hr)) (by rw [sM12]; exact (by rw [hvx.fy (j := 29) (by omega), ← hv.fy (j := 29) (by omega)]; exact hl)) (CKF.ve (VE.of hv hvx) ckf) (by rw [sM12]; exact (by rw [bE]; exact (BB.ve (VE.of hv hvx)).mpr wh.1)) (by rw [bE, VE.v (VE.of hv hvx) (c := 92) (by omega) (by omega), wh.2]; exact ⟨fun q => by omega, fun q => by omega⟩)) mL_X8_431 iM_X8_goesBlock sM_X8_goesBlock (hvx.sh rfl) rfl rfl rfl (Nat.le_of_ble_eq_true rfl) (show d + 0 + 1 ≤ d + 1 by omega) (show 8 + (5 + 11) + 40 * (d + 0) ≤ 40 * (d + 1) by omega) (g_c0 hvx.ln) (Nat.le_of_ble_eq_true rfl) dX8_procedure_64 ?_
          intro r h16 hq _
          obtain ⟨v20, rfl, v20l, v20u, hv16, f17, f18, f19⟩ := hq
          have fx16 : FX KAq h h16 := FX.tr fxx f19
          have k21 := bd2_e k11 f18
          obtain ⟨u22, u22w⟩ : ∃ v : Int32, v = h16.2.1 70 53 := ⟨_, rfl⟩
          have u22e : (h16.2.1 70 53).toInt = u22.toInt := by rw [u22w]
          have u22l : 0 ≤ u22.toInt := by rw [u22w]; exact (hv16.2.1 70 53).1
          have u22u : u22.toInt ≤ 3000 := by rw [u22w]; exact (hv16.2.1 70 53).2
          have k23 := k21
          refine go_istore (pc := 67) (Nat.le_of_ble_eq_true rfl) dX8_procedure_67 (go_lv (lv2 := [(0, .ref 70), (1, .int l1), (2, .int l2), (3, .int l3), (4, .int l4), (5, .int v20)]) rfl ?_)
          refine go_iload (pc := 69) rfl dX8_procedure_69 ?_
          refine gf_if_ne (pc := 71) (tgt := 79) (ti_rfl v20) (by decide) dX8_procedure_71 (fun q24 => ?_) (fun q24 => ?_)
          ·
            have k25 := if_t k23 q24
            refine go_iload (pc := 79) rfl dX8_procedure_79 ?_
            refine gf_if_ne (pc := 81) (tgt := 88) (ti_rfl v20) (by decide) dX8_procedure_81 (fun q26 => ?_) (fun q26 => False.elim (by omega))
            refine go_iload (pc := 88) rfl dX8_procedure_88 ?_
            have g27 : (0 : Int) ≤ (h16.2.1 70 53).toInt := (hv16.2.1 70 53).1
            have g28 : (h16.2.1 70 53).toInt ≤ 3000 := (hv16.2.1 70 53).2
            have g29 : (h16.2.1 70 53).toInt = u22.toInt := by rw [← (show u22 = h16.2.1 70 53 from u22w)] <;> exact (ti_rfl u22)
            exact gi_iret (pc := 90) (ti_rfl v20) ⟨_, rfl, (by rw [show (v20 : Int32).toInt = v20.toInt from (ti_rfl v20)]; omega), (by rw [show (v20 : Int32).toInt = v20.toInt from (ti_rfl v20)]; omega), hv16, (by omega), (k25.symm.trans kf), fx16⟩ hv16 dX8_procedure_90
          ·
            have k30 := if_f k23 (fun z => z q24)
            refine go_aload_n (pc := 74) rfl dX8_procedure_74 ?_
            refine go_iconst (pc := 75) (v := 0) (by decide) dX8_procedure_75 ?_
            refine gi_put (pc := 76) (lo := -2147483648) (hi := 2147483647) hv16 (ti_c (v := 0) (a := 0) (by decide)) (fP_X8_434 _) rfl (Nat.le_of_ble_eq_true rfl) rfl rfl (ti_ge (ti_c (v := 0) (a := 0) (by decide))) (ti_le2 (ti_c (v := 0) (a := 0) (by decide))) rfl rfl (by decide) (by decide) (by decide) (by decide) dX8_procedure_76 (fun h31 hv31 hv31e => ?_)
            have fx31 : FX KAq h h31 := FX.pI fx16 hv31e (by unfold KAq; omega)
            have k32 := bd_e k30 (st_I hv31e (ti_c (v := 0) (a := 0) (by decide)))
            refine go_iload (pc := 79) rfl dX8_procedure_79 ?_
            refine gf_if_ne (pc := 81) (tgt := 88) (ti_rfl v20) (by decide) dX8_procedure_81 (fun q33 => False.elim (by omega)) (fun q33 => ?_)
            refine go_iconst (pc := 84) (v := 1) (by decide) dX8_procedure_84 ?_
            refine go_goto (pc := 85) (tgt := 90) (by decide) dX8_procedure_85 ?_
            have g34 : (0 : Int) ≤ (h31.2.1 70 53).toInt := (hv31.2.1 70 53).1
            have g35 : (h31.2.1 70 53).toInt ≤ 3000 := (hv31.2.1 70 53).2
            have g36 : (h31.2.1 70 53).toInt = u22.toInt := by rw [← (show u22 = h31.2.1 70 53 from (show u22 = h31.2.1 70 53 from by rw [hv31e]; exact (g_iI rfl u22w.symm).symm))] <;> exact (ti_rfl u22)
            exact gi_iret (pc := 90) (ti_c (v := 1) (a := 1) (by decide)) ⟨_, rfl, (by rw [show (1 : Int32).toInt = 1 from (ti_c (v := 1) (a := 1) (by decide))]; omega), (by rw [show (1 : Int32).toInt = 1 from (ti_c (v := 1) (a := 1) (by decide))]; omega), hv31, (by omega), (by rw [show (1 : Int32).toInt = 1 from (ti_c (v := 1) (a := 1) (by decide))]; exact k32.symm.trans kf), fx31⟩ hv31 dX8_procedure_90
        ·
          have k37 := if_f k1 (Int.not_le.mpr q2)
          refine go_aload_n (pc := 10) rfl dX8_procedure_10 ?_
          refine gi_getF (pc := 11) (q := 114) hvx fL_X8_142 rfl (Nat.le_of_ble_eq_true rfl) rfl (hvx.rf (by decide)) dX8_procedure_11 ?_
          refine go_bipush (pc := 14) (v := 6) (by decide) dX8_procedure_14 ?_
          refine go_iload_n (pc := 16) rfl dX8_procedure_16 ?_
          refine gf_imul (pc := 17) (ti_c (v := 6) (a := 6) (by decide)) (ti_rfl l2) (by omega) (by omega) dX8_procedure_17 (fun v38 e39 => ?_)
          refine go_iload (pc := 18) rfl dX8_procedure_18 ?_
          refine gf_iadd (pc := 20) e39 (ti_rfl l5) (by omega) (by omega) dX8_procedure_20 (fun v40 e41 => ?_)
          refine go_iload (pc := 21) rfl dX8_procedure_21 ?_
          refine gf_if_ne (pc := 23) (tgt := 30) (ti_rfl l5) (by decide) dX8_procedure_23 (fun q42 => ?_) (fun q42 => ?_)
          ·
            have k43 := if_t k37 q42
            refine go_iload (pc := 30) rfl dX8_procedure_30 ?_
            refine go_iconst (pc := 32) (v := 1) (by decide) dX8_procedure_32 ?_
            refine gf_icmp_ne (pc := 33) (tgt := 41) (ti_rfl l5) (ti_c (v := 1) (a := 1) (by decide)) (by decide) dX8_procedure_33 (fun q44 => ?_) (fun q44 => ?_)
            ·
              have k45 := if_t k43 q44
              refine go_iconst (pc := 41) (v := 0) (by decide) dX8_procedure_41 ?_
              refine gi_iast (pc := 42) (lo := -2147483648) (hi := 2147483647) (len := 192) hvx e41 (ti_c (v := 0) (a := 0) (by decide)) rfl (by omega) (by omega) (fun _ => rfl) (ti_ge (ti_c (v := 0) (a := 0) (by decide))) (ti_le2 (ti_c (v := 0) (a := 0) (by decide))) (by decide) dX8_procedure_42 (fun h46 hv46 hv46e => ?_)
              have fx46 : FX KAq h h46 := FX.pI fxx hv46e (by unfold KAq; omega)
              have k47 := bd_e k45 (st_I hv46e (ti_c (v := 0) (a := 0) (by decide)))
              refine gf_iinc (pc := 43) (Nat.le_of_ble_eq_true rfl) rfl (ti_rfl l5) (ti_c (by decide)) (by omega) (by omega) dX8_procedure_43 (fun v48 e49 => ?_)
              refine go_lv (lv2 := [(0, .ref 70), (1, .int l1), (2, .int l2), (3, .int l3), (4, .int l4), (5, .int v48)]) rfl ?_
              refine go_goto (pc := 46) (tgt := 3) (by decide) dX8_procedure_46 ?_
              have z50 : (v48 : Int32).toInt = (l5.toInt + 1) := e49
              have g51 : (0 : Int) ≤ (h46.2.1 70 53).toInt := (hv46.2.1 70 53).1
              have g52 : (h46.2.1 70 53).toInt ≤ 3000 := (hv46.2.1 70 53).2
              have g53 : (h46.2.1 70 53).toInt = u70_53.toInt := by rw [← (show u70_53 = h46.2.1 70 53 from (show u70_53 = h46.2.1 70 53 from by rw [hv46e]; exact (g_iI rfl u70_53w.symm).symm))] <;> exact (ti_rfl u70_53)
              exact go_lv rfl (ih l1 l2 l3 l4 v48 h46 hv46 (by omega) (by omega) (by omega) (by omega) (by omega) (by omega) (by omega) (by omega) (by omega) (by omega) (by omega) fx46 (by rw [show (v48 : Int32).toInt = (l5.toInt + 1) from e49]; exact k47) (by omega))
            ·
              have k54 := if_f k43 (fun z => z q44)
              refine go_iload (pc := 36) rfl dX8_procedure_36 ?_
              refine go_goto (pc := 38) (tgt := 42) (by decide) dX8_procedure_38 ?_
              refine gi_iast (pc := 42) (lo := -2147483648) (hi := 2147483647) (len := 192) hvx e41 (ti_rfl l4) rfl (by omega) (by omega) (fun _ => rfl) (ti_ge (ti_rfl l4)) (ti_le2 (ti_rfl l4)) (by decide) dX8_procedure_42 (fun h55 hv55 hv55e => ?_)
              have fx55 : FX KAq h h55 := FX.pI fxx hv55e (by unfold KAq; omega)
              have k56 := bd_e k54 (st_I hv55e (ti_rfl l4))
              refine gf_iinc (pc := 43) (Nat.le_of_ble_eq_true rfl) rfl (ti_rfl l5) (ti_c (by decide)) (by omega) (by omega) dX8_procedure_43 (fun v57 e58 => ?_)
              refine go_lv (lv2 := [(0, .ref 70), (1, .int l1), (2, .int l2), (3, .int l3), (4, .int l4), (5, .int v57)]) rfl ?_
              refine go_goto (pc := 46) (tgt := 3) (by decide) dX8_procedure_46 ?_
              have z59 : (v57 : Int32).toInt = (l5.toInt + 1) := e58
              have g60 : (0 : Int) ≤ (h55.2.1 70 53).toInt := (hv55.2.1 70 53).1
              have g61 : (h55.2.1 70 53).toInt ≤ 3000 := (hv55.2.1 70 53).2
              have g62 : (h55.2.1 70 53).toInt = u70_53.toInt := by rw [← (show u70_53 = h55.2.1 70 53 from (show u70_53 = h55.2.1 70 53 from by rw [hv55e]; exact (g_iI rfl u70_53w.symm).symm))] <;> exact (ti_rfl u70_53)
              exact go_lv rfl (ih l1 l2 l3 l4 v57 h55 hv55 (by omega) (by omega) (by omega) (by omega) (by omega) (by omega) (by omega) (by omega) (by omega) (by omega) (by omega) fx55 (by rw [show (v57 : Int32).toInt = (l5.toInt + 1) from e58]; exact k56) (by omega))
          ·
            have k63 := if_f k37 (fun z => z q42)
            refine go_iload_n (pc := 26) rfl dX8_procedure_26 ?_
            refine go_goto (pc := 27) (tgt := 42) (by decide) dX8_procedure_27 ?_
            refine gi_iast (pc := 42) (lo := -2147483648) (hi := 2147483647) (len := 192) hvx e41 (ti_rfl l3) rfl (by omega) (by omega) (fun _ => rfl) (ti_ge (ti_rfl l3)) (ti_le2 (ti_rfl l3)) (by decide) dX8_procedure_42 (fun h64 hv64 hv64e => ?_)
            have fx64 : FX KAq h h64 := FX.pI fxx hv64e (by unfold KAq; omega)
            have k65 := bd_e k63 (st_I hv64e (ti_rfl l3))
            refine gf_iinc (pc := 43) (Nat.le_of_ble_eq_true rfl) rfl (ti_rfl l5) (ti_c (by decide)) (by omega) (by omega) dX8_procedure_43 (fun v66 e67 => ?_)
            refine go_lv (lv2 := [(0, .ref 70), (1, .int l1), (2, .int l2), (3, .int l3), (4, .int l4), (5, .int v66)]) rfl ?_
            refine go_goto (pc := 46) (tgt := 3) (by decide) dX8_procedure_46 ?_
            have z68 : (v66 : Int32).toInt = (l5.toInt + 1) := e67
            have g69 : (0 : Int) ≤ (h64.2.1 70 53).toInt := (hv64.2.1 70 53).1
            have g70 : (h64.2.1 70 53).toInt ≤ 3000 := (hv64.2.1 70 53).2
            have g71 : (h64.2.1 70 53).toInt = u70_53.toInt := by rw [← (show u70_53 = h64.2.1 70 53 from (show u70_53 = h64.2.1 70 53 from by rw [hv64e]; exact (g_iI rfl u70_53w.symm).symm))] <;> exact (ti_rfl u70_53)
            exact go_lv rfl (ih l1 l2 l3 l4 v66 h64 hv64 (by omega) (by omega) (by omega) (by omega) (by omega) (by omega) (by omega) (by omega) (by omega) (by omega) (by omega) fx64 (by rw [show (v66 : Int32).toInt = (l5.toInt + 1) from e67]; exact k65) (by omega))
  refine go_iconst (pc := 0) (v := 0) (by decide) dX8_procedure_0 ?_
  refine go_istore (pc := 1) (Nat.le_of_ble_eq_true rfl) dX8_procedure_1 (go_lv (lv2 := [(0, .ref 70), (1, .int a2), (2, .int a3), (3, .int a4), (4, .int a5), (5, .int 0)]) rfl ?_)
  have z72 : (0 : Int32).toInt = 0 := (ti_c (v := 0) (a := 0) (by decide))
  have g73 : (0 : Int) ≤ (h.2.1 70 53).toInt := (hv.2.1 70 53).1
  have g74 : (h.2.1 70 53).toInt ≤ 3000 := (hv.2.1 70 53).2
  exact go_lv rfl ((key 37) a2 a3 a4 a5 0 h hv (by omega) (by omega) (by omega) (by omega) (by omega) (by omega) (by omega) (by omega) (by omega) (by omega) (by omega) fx (by rw [show (0 : Int32).toInt = 0 from (ti_c (v := 0) (a := 0) (by decide))]; exact k0) (by omega))

