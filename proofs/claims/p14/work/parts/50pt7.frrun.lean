set_option maxHeartbeats 4000000 in
set_option maxRecDepth 100000 in
theorem s_X8_count2_f (l : Launch) (d : Nat) {P : PP} {h : HP} (hv : Iv P h) (a2 : Int32) : Mt l yX8_count cX8_count 2 (some .int) (d + 4) [.ref 70, .int a2] h 0 0 (fun r h' => ∃ v : Int32, r = some (.int v) ∧ -2147483648 ≤ v.toInt ∧ v.toInt ≤ 2147483647 ∧ Iv (gs P) h' ∧ (FX KAq h h')) := by
  refine Mt_iv hv (by decide) (Nat.le_of_ble_eq_true rfl) ?_
  show Go l RX8 cX8_count 2 (g_rm (d + 4) 0 0) "count" (some .int) 117 0 0 (fun _ _ => True) (fun r h' => ∃ v : Int32, r = some (.int v) ∧ -2147483648 ≤ v.toInt ∧ v.toInt ≤ 2147483647 ∧ Iv (gs P) h' ∧ (FX KAq h h')) 0 0 [(0, .ref 70), (1, .int a2)] [] h
  have fx : FX KAq h h := FX.rfl
  have key : ∀ n : Nat, (∀ (s0 : Int32) (hx : HP), Iv (gs P) hx → 0 ≤ s0.toInt → s0.toInt ≤ 40 → FX KAq h hx → (1 : Int) < n → Go l RX8 cX8_count 2 (g_rm (d + 4) 0 0) "count" (some .int) 117 0 0 (fun _ _ => True) (fun r h' => ∃ v : Int32, r = some (.int v) ∧ -2147483648 ≤ v.toInt ∧ v.toInt ≤ 2147483647 ∧ Iv (gs P) h' ∧ (FX KAq h h')) 0 68 [] [.int s0] hx) ∧ (∀ (s0 : Int32) (hx : HP), Iv (gs P) hx → 0 ≤ s0.toInt → s0.toInt ≤ 5 → FX KAq h hx → (2 : Int) < n → Go l RX8 cX8_count 2 (g_rm (d + 4) 0 0) "count" (some .int) 117 0 0 (fun _ _ => True) (fun r h' => ∃ v : Int32, r = some (.int v) ∧ -2147483648 ≤ v.toInt ∧ v.toInt ≤ 2147483647 ∧ Iv (gs P) h' ∧ (FX KAq h h')) 0 89 [] [.int s0] hx) ∧ (∀ (s0 : Int32) (hx : HP), Iv (gs P) hx → FX KAq h hx → (3 : Int) < n → Go l RX8 cX8_count 2 (g_rm (d + 4) 0 0) "count" (some .int) 117 0 0 (fun _ _ => True) (fun r h' => ∃ v : Int32, r = some (.int v) ∧ -2147483648 ≤ v.toInt ∧ v.toInt ≤ 2147483647 ∧ Iv (gs P) h' ∧ (FX KAq h h')) 0 105 [] [.int s0] hx) ∧ (∀ (s0 : Int32) (hx : HP), Iv (gs P) hx → FX KAq h hx → (4 : Int) < n → Go l RX8 cX8_count 2 (g_rm (d + 4) 0 0) "count" (some .int) 117 0 0 (fun _ _ => True) (fun r h' => ∃ v : Int32, r = some (.int v) ∧ -2147483648 ≤ v.toInt ∧ v.toInt ≤ 2147483647 ∧ Iv (gs P) h' ∧ (FX KAq h h')) 0 125 [] [.int s0] hx) ∧ (∀ (s0 : Int32) (hx : HP), Iv (gs P) hx → FX KAq h hx → (5 : Int) < n → Go l RX8 cX8_count 2 (g_rm (d + 4) 0 0) "count" (some .int) 117 0 0 (fun _ _ => True) (fun r h' => ∃ v : Int32, r = some (.int v) ∧ -2147483648 ≤ v.toInt ∧ v.toInt ≤ 2147483647 ∧ Iv (gs P) h' ∧ (FX KAq h h')) 0 145 [] [.int s0] hx) := by
    intro n
    induction n with
    | zero => exact ⟨(by intros; omega), (by intros; omega), (by intros; omega), (by intros; omega), (by intros; omega)⟩
    | succ n ih =>
      refine ⟨?_, ?_, ?_, ?_, ?_⟩
      ·
        intro s0 hx hvx s0l s0u fxx hm
        exact gi_iret (pc := 68) (ti_rfl s0) ⟨_, rfl, (ti_lo _), (ti_hi _), hvx, fxx⟩ hvx dX8_count_68
      ·
        intro s0 hx hvx s0l s0u fxx hm
        exact gi_iret (pc := 89) (ti_rfl s0) ⟨_, rfl, (ti_lo _), (ti_hi _), hvx, fxx⟩ hvx dX8_count_89
      ·
        intro s0 hx hvx fxx hm
        exact gi_iret (pc := 105) (ti_rfl s0) ⟨_, rfl, (ti_lo _), (ti_hi _), hvx, fxx⟩ hvx dX8_count_105
      ·
        intro s0 hx hvx fxx hm
        exact gi_iret (pc := 125) (ti_rfl s0) ⟨_, rfl, (ti_lo _), (ti_hi _), hvx, fxx⟩ hvx dX8_count_125
      ·
        intro s0 hx hvx fxx hm
        exact gi_iret (pc := 145) (ti_rfl s0) ⟨_, rfl, (ti_lo _), (ti_hi _), hvx, fxx⟩ hvx dX8_count_145
  refine go_aload_n (pc := 0) rfl dX8_count_0 ?_
  refine go_aload_n (pc := 1) rfl dX8_count_1 ?_
  refine gi_get (pc := 2) (lo := 0) (hi := 1) hv fL_X8_228 rfl (Nat.le_of_ble_eq_true rfl) rfl rfl dX8_count_2 (fun v1 v1l v1u v1w => ?_)
  refine gi_putS (pc := 5) hv v1w (fP_X8_187 _) dX8_count_5 (fun h2 hv2 hv2e => ?_)
  have fx2 : FX KAq h h2 := FX.pI fx hv2e (by unfold KAq; omega)
  refine go_iload_n (pc := 8) rfl dX8_count_8 ?_
  by_cases q3 : a2.toInt = 0
  ·
    refine go_tableIn (pc := 9) (tgt := 48) (off := 39) (by rw [show (a2 : Int32).toInt = a2.toInt from (ti_rfl a2)]; omega) (by rw [show (a2 : Int32).toInt = a2.toInt from (ti_rfl a2)]; omega) (by rw [show (a2 : Int32).toInt = a2.toInt from (ti_rfl a2), q3]; rfl) (by decide) dX8_count_9 ?_
    refine go_aload_n (pc := 48) rfl dX8_count_48 ?_
    refine gi_get (pc := 49) (lo := 0) (hi := 1) hv2 fL_X8_243 rfl (Nat.le_of_ble_eq_true rfl) rfl rfl dX8_count_49 (fun v4 v4l v4u v4w => ?_)
    refine gf_if_eq (pc := 52) (tgt := 67) (ti_rfl v4) (by decide) dX8_count_52 (fun q5 => ?_) (fun q5 => ?_)
    ·
      refine go_iconst (pc := 67) (v := 0) (by decide) dX8_count_67 ?_
      have z6 : (0 : Int32).toInt = 0 := (ti_c (v := 0) (a := 0) (by decide))
      exact go_lv rfl ((key 18).1 0 h2 hv2 (by omega) (by omega) fx2 (by omega))
    ·
      refine go_aload_n (pc := 55) rfl dX8_count_55 ?_
      refine gi_getF (pc := 56) (q := 75) hv2 fL_X8_23 rfl (Nat.le_of_ble_eq_true rfl) rfl (hv2.rf (by decide)) dX8_count_56 ?_
      refine go_aload_n (pc := 59) rfl dX8_count_59 ?_
      refine gi_get (pc := 60) (lo := 0) (hi := 1) hv2 fL_X8_228 rfl (Nat.le_of_ble_eq_true rfl) rfl rfl dX8_count_60 (fun v7 v7l v7u v7w => ?_)
      refine gi_iald (pc := 63) (lo := 0) (hi := 40) (len := 2) hv2 (ti_rfl v7) rfl (by omega) (by omega) (fun _ => rfl) dX8_count_63 (fun v8 v8l v8u v8w => ?_)
      refine go_goto (pc := 64) (tgt := 68) (by decide) dX8_count_64 ?_
      exact go_lv rfl ((key 18).1 v8 h2 hv2 (by omega) (by omega) fx2 (by omega))
  by_cases q9 : a2.toInt = 1
  ·
    refine go_tableIn (pc := 9) (tgt := 69) (off := 60) (by rw [show (a2 : Int32).toInt = a2.toInt from (ti_rfl a2)]; omega) (by rw [show (a2 : Int32).toInt = a2.toInt from (ti_rfl a2)]; omega) (by rw [show (a2 : Int32).toInt = a2.toInt from (ti_rfl a2), q9]; rfl) (by decide) dX8_count_9 ?_
    refine go_aload_n (pc := 69) rfl dX8_count_69 ?_
    refine gi_get (pc := 70) (lo := 0) (hi := 1) hv2 fL_X8_243 rfl (Nat.le_of_ble_eq_true rfl) rfl rfl dX8_count_70 (fun v10 v10l v10u v10w => ?_)
    refine gf_if_eq (pc := 73) (tgt := 88) (ti_rfl v10) (by decide) dX8_count_73 (fun q11 => ?_) (fun q11 => ?_)
    ·
      refine go_iconst (pc := 88) (v := 0) (by decide) dX8_count_88 ?_
      have z12 : (0 : Int32).toInt = 0 := (ti_c (v := 0) (a := 0) (by decide))
      exact go_lv rfl ((key 18).2.1 0 h2 hv2 (by omega) (by omega) fx2 (by omega))
    ·
      refine go_aload_n (pc := 76) rfl dX8_count_76 ?_
      refine gi_getF (pc := 77) (q := 76) hv2 fL_X8_26 rfl (Nat.le_of_ble_eq_true rfl) rfl (hv2.rf (by decide)) dX8_count_77 ?_
      refine go_aload_n (pc := 80) rfl dX8_count_80 ?_
      refine gi_get (pc := 81) (lo := 0) (hi := 1) hv2 fL_X8_228 rfl (Nat.le_of_ble_eq_true rfl) rfl rfl dX8_count_81 (fun v13 v13l v13u v13w => ?_)
      refine gi_iald (pc := 84) (lo := 0) (hi := 5) (len := 2) hv2 (ti_rfl v13) rfl (by omega) (by omega) (fun _ => rfl) dX8_count_84 (fun v14 v14l v14u v14w => ?_)
      refine go_goto (pc := 85) (tgt := 89) (by decide) dX8_count_85 ?_
      exact go_lv rfl ((key 18).2.1 v14 h2 hv2 (by omega) (by omega) fx2 (by omega))
  by_cases q15 : a2.toInt = 2
  ·
    refine go_tableIn (pc := 9) (tgt := 90) (off := 81) (by rw [show (a2 : Int32).toInt = a2.toInt from (ti_rfl a2)]; omega) (by rw [show (a2 : Int32).toInt = a2.toInt from (ti_rfl a2)]; omega) (by rw [show (a2 : Int32).toInt = a2.toInt from (ti_rfl a2), q15]; rfl) (by decide) dX8_count_9 ?_
    refine go_aload_n (pc := 90) rfl dX8_count_90 ?_
    refine gi_get (pc := 91) (lo := 0) (hi := 1) hv2 fL_X8_243 rfl (Nat.le_of_ble_eq_true rfl) rfl rfl dX8_count_91 (fun v16 v16l v16u v16w => ?_)
    refine gf_if_eq (pc := 94) (tgt := 104) (ti_rfl v16) (by decide) dX8_count_94 (fun q17 => ?_) (fun q17 => ?_)
    ·
      refine go_iconst (pc := 104) (v := 0) (by decide) dX8_count_104 ?_
      have z18 : (0 : Int32).toInt = 0 := (ti_c (v := 0) (a := 0) (by decide))
      exact go_lv rfl ((key 18).2.2.1 0 h2 hv2 fx2 (by omega))
    ·
      refine go_aload_n (pc := 97) rfl dX8_count_97 ?_
      refine go_invV (pc := 98) (sl := 0) (s_X8_calls l (d + 0) hv2 ) mL_X8_382 iM_X8_calls sM_X8_calls (hv2.sh rfl) rfl rfl rfl (Nat.le_of_ble_eq_true rfl) (show d + 0 + 3 + 1 ≤ d + 4 by omega) (show 8 + (3 + 11) + 40 * (d + 0 + 3) ≤ 40 * (d + 4) by omega) (g_c0 hv2.ln) (Nat.le_of_ble_eq_true rfl) dX8_count_98 ?_
      intro r h19 hq _
      obtain ⟨v20, rfl, v20l, v20u, rfl⟩ := hq
      refine go_goto (pc := 101) (tgt := 105) (by decide) dX8_count_101 ?_
      exact go_lv rfl ((key 18).2.2.1 v20 h2 hv2 fx2 (by omega))
  by_cases q21 : a2.toInt = 3
  ·
    refine go_tableIn (pc := 9) (tgt := 106) (off := 97) (by rw [show (a2 : Int32).toInt = a2.toInt from (ti_rfl a2)]; omega) (by rw [show (a2 : Int32).toInt = a2.toInt from (ti_rfl a2)]; omega) (by rw [show (a2 : Int32).toInt = a2.toInt from (ti_rfl a2), q21]; rfl) (by decide) dX8_count_9 ?_
    refine go_aload_n (pc := 106) rfl dX8_count_106 ?_
    refine gi_get (pc := 107) (lo := 0) (hi := 1) hv2 fL_X8_243 rfl (Nat.le_of_ble_eq_true rfl) rfl rfl dX8_count_107 (fun v22 v22l v22u v22w => ?_)
    refine gf_if_eq (pc := 110) (tgt := 124) (ti_rfl v22) (by decide) dX8_count_110 (fun q23 => ?_) (fun q23 => ?_)
    ·
      refine go_iconst (pc := 124) (v := 0) (by decide) dX8_count_124 ?_
      have z24 : (0 : Int32).toInt = 0 := (ti_c (v := 0) (a := 0) (by decide))
      exact go_lv rfl ((key 18).2.2.2.1 0 h2 hv2 fx2 (by omega))
    ·
      refine go_aload_n (pc := 113) rfl dX8_count_113 ?_
      refine go_aload_n (pc := 114) rfl dX8_count_114 ?_
      refine gi_getF (pc := 115) (q := 102) hv2 fL_X8_105 rfl (Nat.le_of_ble_eq_true rfl) rfl (hv2.rf (by decide)) dX8_count_115 ?_
      refine go_invV (pc := 118) (sl := 0) (s_X8_may l (d + 2) hv2 102 (by decide)) mL_X8_385 iM_X8_may sM_X8_may (hv2.sh rfl) rfl rfl rfl (Nat.le_of_ble_eq_true rfl) (show d + 2 + 1 + 1 ≤ d + 4 by omega) (show 8 + (4 + 11) + 40 * (d + 2 + 1) ≤ 40 * (d + 4) by omega) (g_c0 hv2.ln) (Nat.le_of_ble_eq_true rfl) dX8_count_118 ?_
      intro r h25 hq _
      obtain ⟨v26, rfl, v26l, v26u, rfl⟩ := hq
      refine go_goto (pc := 121) (tgt := 125) (by decide) dX8_count_121 ?_
      exact go_lv rfl ((key 18).2.2.2.1 v26 h2 hv2 fx2 (by omega))
  by_cases q27 : a2.toInt = 4
  ·
    refine go_tableIn (pc := 9) (tgt := 126) (off := 117) (by rw [show (a2 : Int32).toInt = a2.toInt from (ti_rfl a2)]; omega) (by rw [show (a2 : Int32).toInt = a2.toInt from (ti_rfl a2)]; omega) (by rw [show (a2 : Int32).toInt = a2.toInt from (ti_rfl a2), q27]; rfl) (by decide) dX8_count_9 ?_
    refine go_aload_n (pc := 126) rfl dX8_count_126 ?_
    refine gi_get (pc := 127) (lo := 0) (hi := 1) hv2 fL_X8_243 rfl (Nat.le_of_ble_eq_true rfl) rfl rfl dX8_count_127 (fun v28 v28l v28u v28w => ?_)
    refine gf_if_eq (pc := 130) (tgt := 144) (ti_rfl v28) (by decide) dX8_count_130 (fun q29 => ?_) (fun q29 => ?_)
    ·
      refine go_iconst (pc := 144) (v := 0) (by decide) dX8_count_144 ?_
      have z30 : (0 : Int32).toInt = 0 := (ti_c (v := 0) (a := 0) (by decide))
      exact go_lv rfl ((key 18).2.2.2.2 0 h2 hv2 fx2 (by omega))
    ·
      refine go_aload_n (pc := 133) rfl dX8_count_133 ?_
      refine go_aload_n (pc := 134) rfl dX8_count_134 ?_
      refine gi_getF (pc := 135) (q := 101) hv2 fL_X8_101 rfl (Nat.le_of_ble_eq_true rfl) rfl (hv2.rf (by decide)) dX8_count_135 ?_
      refine go_invV (pc := 138) (sl := 0) (s_X8_may l (d + 2) hv2 101 (by decide)) mL_X8_385 iM_X8_may sM_X8_may (hv2.sh rfl) rfl rfl rfl (Nat.le_of_ble_eq_true rfl) (show d + 2 + 1 + 1 ≤ d + 4 by omega) (show 8 + (4 + 11) + 40 * (d + 2 + 1) ≤ 40 * (d + 4) by omega) (g_c0 hv2.ln) (Nat.le_of_ble_eq_true rfl) dX8_count_138 ?_
      intro r h31 hq _
      obtain ⟨v32, rfl, v32l, v32u, rfl⟩ := hq
      refine go_goto (pc := 141) (tgt := 145) (by decide) dX8_count_141 ?_
      exact go_lv rfl ((key 18).2.2.2.2 v32 h2 hv2 fx2 (by omega))
  by_cases q33 : a2.toInt = 5
  ·
    refine go_tableIn (pc := 9) (tgt := 146) (off := 137) (by rw [show (a2 : Int32).toInt = a2.toInt from (ti_rfl a2)]; omega) (by rw [show (a2 : Int32).toInt = a2.toInt from (ti_rfl a2)]; omega) (by rw [show (a2 : Int32).toInt = a2.toInt from (ti_rfl a2), q33]; rfl) (by decide) dX8_count_9 ?_
    refine go_aload_n (pc := 146) rfl dX8_count_146 ?_
    refine gi_get (pc := 147) (lo := 0) (hi := 500) hv2 fL_X8_151 rfl (Nat.le_of_ble_eq_true rfl) rfl rfl dX8_count_147 (fun v34 v34l v34u v34w => ?_)
    have v34p : v34.toInt = P.2.1.toInt := by rw [v34w]; exact congrArg Int32.toInt hv2.t1
    exact gi_iret (pc := 150) (ti_rfl v34) ⟨_, rfl, (ti_lo _), (ti_hi _), hv2, fx2⟩ hv2 dX8_count_150
  refine go_tableOut (pc := 9) (tgt := 151) (by rw [show (a2 : Int32).toInt = a2.toInt from (ti_rfl a2)]; omega) (by decide) dX8_count_9 ?_
  refine go_iconst (pc := 151) (v := (-1)) (by decide) dX8_count_151 ?_
  exact gi_iret (pc := 152) (ti_c (v := (-1)) (a := (-1)) (by decide)) ⟨_, rfl, (ti_lo _), (ti_hi _), hv2, fx2⟩ hv2 dX8_count_152
set_option maxHeartbeats 4000000 in
set_option maxRecDepth 100000 in
theorem s_X8_sees_x_f (l : Launch) (d : Nat) {P : PP} {h : HP} (hv : Iv P h) (a2 : Int32) (a2l : 0 ≤ a2.toInt) (a2u : a2.toInt ≤ 259) (a3 : Int32) : Mt l yX8_sees cX8_sees 3 none (d + 1) [.ref 70, .int a2, .int a3] h 0 0 (fun r h' => r = none ∧ Iv P h' ∧ ((h'.2.1 70 53).toInt = (h.2.1 70 53).toInt) ∧ (FX KAq h h')) := by
  refine Mt_iv hv (by decide) (Nat.le_of_ble_eq_true rfl) ?_
  show Go l RX8 cX8_sees 3 (g_rm (d + 1) 0 0) "sees" none 117 0 0 (fun _ _ => True) (fun r h' => r = none ∧ Iv P h' ∧ ((h'.2.1 70 53).toInt = (h.2.1 70 53).toInt) ∧ (FX KAq h h')) 0 0 [(0, .ref 70), (1, .int a2), (2, .int a3)] [] h
  have fx : FX KAq h h := FX.rfl
  refine go_aload_n (pc := 0) rfl dX8_sees_0 ?_
  refine gi_get (pc := 1) (lo := 0) (hi := 500) hv fL_X8_418 rfl (Nat.le_of_ble_eq_true rfl) rfl rfl dX8_sees_1 (fun v1 v1l v1u v1w => ?_)
  refine go_sipush (pc := 4) (v := 500) (by decide) dX8_sees_4 ?_
  refine gf_icmp_ne (pc := 7) (tgt := 11) (ti_rfl v1) (ti_c (v := 500) (a := 500) (by decide)) (by decide) dX8_sees_7 (fun q2 => ?_) (fun q2 => ?_)
  ·
    refine go_aload_n (pc := 11) rfl dX8_sees_11 ?_
    refine gi_getF (pc := 12) (q := 115) hv fL_X8_145 rfl (Nat.le_of_ble_eq_true rfl) rfl (hv.rf (by decide)) dX8_sees_12 ?_
    refine go_aload_n (pc := 15) rfl dX8_sees_15 ?_
    refine gi_get (pc := 16) (lo := 0) (hi := 500) hv fL_X8_418 rfl (Nat.le_of_ble_eq_true rfl) rfl rfl dX8_sees_16 (fun v3 v3l v3u v3w => ?_)
    have v3r : v1 = h.2.1 70 54 := v1w
    have v3q : TI v3 v1.toInt := by rw [v3w.trans v3r.symm]; exact (ti_rfl v1)
    refine go_aload_n (pc := 19) rfl dX8_sees_19 ?_
    refine gi_getF (pc := 20) (q := 78) hv fL_X8_32 rfl (Nat.le_of_ble_eq_true rfl) rfl (hv.rf (by decide)) dX8_sees_20 ?_
    refine go_iload_n (pc := 23) rfl dX8_sees_23 ?_
    refine gi_iald (pc := 24) (lo := -1) (hi := 39) (len := 260) hv (ti_rfl a2) rfl (by omega) (by omega) (fun _ => rfl) dX8_sees_24 (fun v4 v4l v4u v4w => ?_)
    refine gi_iast (pc := 25) (lo := -2147483648) (hi := 2147483647) (len := 500) hv v3q (ti_rfl v4) rfl (by omega) (by omega) (fun _ => rfl) (ti_ge (ti_rfl v4)) (ti_le2 (ti_rfl v4)) (by decide) dX8_sees_25 (fun h5 hv5 hv5e => ?_)
    have fx5 : FX KAq h h5 := FX.pI fx hv5e (by unfold KAq; omega)
    refine go_aload_n (pc := 26) rfl dX8_sees_26 ?_
    refine gi_getF (pc := 27) (q := 116) hv5 fL_X8_148 rfl (Nat.le_of_ble_eq_true rfl) rfl (hv5.rf (by decide)) dX8_sees_27 ?_
    refine go_aload_n (pc := 30) rfl dX8_sees_30 ?_
    refine gi_get (pc := 31) (lo := 0) (hi := 500) hv5 fL_X8_418 rfl (Nat.le_of_ble_eq_true rfl) rfl rfl dX8_sees_31 (fun v6 v6l v6u v6w => ?_)
    have v6r : v1 = h5.2.1 70 54 := (show v1 = h5.2.1 70 54 from by rw [hv5e]; exact (g_iI rfl v1w.symm).symm)
    have v6q : TI v6 v1.toInt := by rw [v6w.trans v6r.symm]; exact (ti_rfl v1)
    refine go_iload_n (pc := 34) rfl dX8_sees_34 ?_
    refine gi_iast (pc := 35) (lo := -2147483648) (hi := 2147483647) (len := 500) hv5 v6q (ti_rfl a3) rfl (by omega) (by omega) (fun _ => rfl) (ti_ge (ti_rfl a3)) (ti_le2 (ti_rfl a3)) (by decide) dX8_sees_35 (fun h7 hv7 hv7e => ?_)
    have fx7 : FX KAq h h7 := FX.pI fx5 hv7e (by unfold KAq; omega)
    refine go_aload_n (pc := 36) rfl dX8_sees_36 ?_
    refine go_dup (pc := 37) rfl dX8_sees_37 ?_
    refine gi_get (pc := 38) (lo := 0) (hi := 500) hv7 fL_X8_418 rfl (Nat.le_of_ble_eq_true rfl) rfl rfl dX8_sees_38 (fun v8 v8l v8u v8w => ?_)
    have v8r : v1 = h7.2.1 70 54 := (show v1 = h7.2.1 70 54 from by rw [hv7e]; exact (g_iI rfl (show v1 = h5.2.1 70 54 from by rw [hv5e]; exact (g_iI rfl v1w.symm).symm).symm).symm)
    have v8q : TI v8 v1.toInt := by rw [v8w.trans v8r.symm]; exact (ti_rfl v1)
    refine go_iconst (pc := 41) (v := 1) (by decide) dX8_sees_41 ?_
    refine gf_iadd (pc := 42) v8q (ti_c (v := 1) (a := 1) (by decide)) (by omega) (by omega) dX8_sees_42 (fun v9 e10 => ?_)
    refine gi_put (pc := 43) (lo := 0) (hi := 500) hv7 e10 (fP_X8_418 _) rfl (Nat.le_of_ble_eq_true rfl) rfl rfl (by omega) (by omega) rfl rfl (by decide) (by decide) (by decide) (by decide) dX8_sees_43 (fun h11 hv11 hv11e => ?_)
    have fx11 : FX KAq h h11 := FX.pI fx7 hv11e (by unfold KAq; omega)
    exact gi_vret (pc := 46) ⟨rfl, hv11, (by rw [hv11e, hv7e, hv5e]; rfl), fx11⟩ hv11 dX8_sees_46
  ·
    exact gi_vret (pc := 10) ⟨rfl, hv, rfl, fx⟩ hv dX8_sees_10
set_option maxHeartbeats 4000000 in
set_option maxRecDepth 100000 in
theorem s_X8_tellsName_x_f (l : Launch) (d : Nat) {P : PP} {h : HP} (hv : Iv P h) (a2 : Int32) (a2l : 0 ≤ a2.toInt) (a2u : a2.toInt ≤ 30) (a3 : Int32) (a3l : 0 ≤ a3.toInt) (a3u : a3.toInt ≤ 9) (a4 : Int32) : Mt l yX8_tellsName cX8_tellsName 4 none (d + 1) [.ref 70, .int a2, .int a3, .int a4] h 0 0 (fun r h' => r = none ∧ Iv P h' ∧ ((h'.2.1 70 53).toInt = (h.2.1 70 53).toInt) ∧ (FX KAq h h')) := by
  refine Mt_iv hv (by decide) (Nat.le_of_ble_eq_true rfl) ?_
  show Go l RX8 cX8_tellsName 4 (g_rm (d + 1) 0 0) "tellsName" none 117 0 0 (fun _ _ => True) (fun r h' => r = none ∧ Iv P h' ∧ ((h'.2.1 70 53).toInt = (h.2.1 70 53).toInt) ∧ (FX KAq h h')) 0 0 [(0, .ref 70), (1, .int a2), (2, .int a3), (3, .int a4)] [] h
  have fx : FX KAq h h := FX.rfl
  refine go_iload_n (pc := 0) rfl dX8_tellsName_0 ?_
  refine go_bipush (pc := 1) (v := 6) (by decide) dX8_tellsName_1 ?_
  refine gf_icmp_ge (pc := 3) (tgt := 21) (ti_rfl a3) (ti_c (v := 6) (a := 6) (by decide)) (by decide) dX8_tellsName_3 (fun q1 => ?_) (fun q1 => ?_)
  ·
    refine go_aload_n (pc := 21) rfl dX8_tellsName_21 ?_
    refine gi_getF (pc := 22) (q := 113) hv fL_X8_139 rfl (Nat.le_of_ble_eq_true rfl) rfl (hv.rf (by decide)) dX8_tellsName_22 ?_
    refine go_iload_n (pc := 25) rfl dX8_tellsName_25 ?_
    refine go_bipush (pc := 26) (v := 6) (by decide) dX8_tellsName_26 ?_
    refine gf_isub (pc := 28) (ti_rfl a3) (ti_c (v := 6) (a := 6) (by decide)) (by omega) (by omega) dX8_tellsName_28 (fun v2 e3 => ?_)
    refine go_iload_n (pc := 29) rfl dX8_tellsName_29 ?_
    refine gi_iast (pc := 30) (lo := -2147483648) (hi := 2147483647) (len := 4) hv e3 (ti_rfl a4) rfl (by omega) (by omega) (fun _ => rfl) (ti_ge (ti_rfl a4)) (ti_le2 (ti_rfl a4)) (by decide) dX8_tellsName_30 (fun h4 hv4 hv4e => ?_)
    have fx4 : FX KAq h h4 := FX.pI fx hv4e (by unfold KAq; omega)
    exact gi_vret (pc := 31) ⟨rfl, hv4, (by rw [hv4e]; rfl), fx4⟩ hv4 dX8_tellsName_31
  ·
    refine go_aload_n (pc := 6) rfl dX8_tellsName_6 ?_
    refine gi_getF (pc := 7) (q := 114) hv fL_X8_142 rfl (Nat.le_of_ble_eq_true rfl) rfl (hv.rf (by decide)) dX8_tellsName_7 ?_
    refine go_bipush (pc := 10) (v := 6) (by decide) dX8_tellsName_10 ?_
    refine go_iload_n (pc := 12) rfl dX8_tellsName_12 ?_
    refine gf_imul (pc := 13) (ti_c (v := 6) (a := 6) (by decide)) (ti_rfl a2) (by omega) (by omega) dX8_tellsName_13 (fun v5 e6 => ?_)
    refine go_iload_n (pc := 14) rfl dX8_tellsName_14 ?_
    refine gf_iadd (pc := 15) e6 (ti_rfl a3) (by omega) (by omega) dX8_tellsName_15 (fun v7 e8 => ?_)
    refine go_iload_n (pc := 16) rfl dX8_tellsName_16 ?_
    refine gi_iast (pc := 17) (lo := -2147483648) (hi := 2147483647) (len := 192) hv e8 (ti_rfl a4) rfl (by omega) (by omega) (fun _ => rfl) (ti_ge (ti_rfl a4)) (ti_le2 (ti_rfl a4)) (by decide) dX8_tellsName_17 (fun h9 hv9 hv9e => ?_)
    have fx9 : FX KAq h h9 := FX.pI fx hv9e (by unfold KAq; omega)
    refine go_goto (pc := 18) (tgt := 31) (by decide) dX8_tellsName_18 ?_
    exact gi_vret (pc := 31) ⟨rfl, hv9, (by rw [hv9e]; rfl), fx9⟩ hv9 dX8_tellsName_31
set_option maxHeartbeats 4000000 in
set_option maxRecDepth 100000 in
theorem s_X8_goesBlock_b_f (l : Launch) (d : Nat) {nn : Nat} (ihD : ∀ {P : PP} {h : HP} (_ : Iv P h) (a2 : Int32) (a2l : 0 ≤ a2.toInt) (a2u : a2.toInt ≤ 259) (a3 : Int32) (a3l : 0 ≤ a3.toInt) (a3u : a3.toInt ≤ 30) (hr : RD h.2.1 (h.2.1 70 6).toInt ∧ TD h.2.1 (h.2.1 70 6).toInt) (hl : (h.2.1 70 29).toInt = (h.2.1 70 6).toInt) (ckf : CKF h.2.1) (hi : II h.2.1 (h.2.1 70 6).toInt a2.toInt) (hk : ¬ V h.2.1 77 a2.toInt = 6) (hg : 30 * (30 - a3.toInt) + 3 * (7 - V h.2.1 80 a2.toInt) + 2 ≤ (nn : Int)), Mt l yX8_does cX8_does 6 (some .int) (d + 1) [.ref 70, .int a2, .int a3] h 0 0 (fun r h' => ∃ v : Int32, r = some (.int v) ∧ 0 ≤ v.toInt ∧ v.toInt ≤ 3 ∧ Iv P h' ∧ ((h.2.1 70 53).toInt ≤ (h'.2.1 70 53).toInt) ∧ (FX KAq h h'))) (ihY : ∀ {P : PP} {h : HP} (_ : Iv P h) (a2 : Int32) (a2l : 0 ≤ a2.toInt) (a2u : a2.toInt ≤ 259) (a3 : Int32) (a3l : 0 ≤ a3.toInt) (a3u : a3.toInt ≤ 30) (hr : RD h.2.1 (h.2.1 70 6).toInt ∧ TD h.2.1 (h.2.1 70 6).toInt) (hl : (h.2.1 70 29).toInt = (h.2.1 70 6).toInt) (ckf : CKF h.2.1) (hi : II h.2.1 (h.2.1 70 6).toInt a2.toInt) (hk : V h.2.1 77 a2.toInt = 6) (hg : 30 * (30 - a3.toInt) + 3 * (7 - V h.2.1 80 a2.toInt) + 2 ≤ (nn : Int)), Mt l yX8_tries cX8_tries 4 (some .int) (d + 1) [.ref 70, .int a2, .int a3] h 0 0 (fun r h' => ∃ v : Int32, r = some (.int v) ∧ 0 ≤ v.toInt ∧ v.toInt ≤ 3 ∧ Iv P h' ∧ ((h.2.1 70 53).toInt ≤ (h'.2.1 70 53).toInt) ∧ (FX KAq h h'))) {P : PP} {h : HP} (hv : Iv P h) (a2 : Int32) (a2l : 0 ≤ a2.toInt) (a2u : a2.toInt ≤ 559) (a3 : Int32) (a3l : 0 ≤ a3.toInt) (a3u : a3.toInt ≤ 30) (hr : RD h.2.1 (h.2.1 70 6).toInt ∧ TD h.2.1 (h.2.1 70 6).toInt) (hl : (h.2.1 70 29).toInt = (h.2.1 70 6).toInt) (ckf : CKF h.2.1) (hb : BB h.2.1 (h.2.1 70 6).toInt a2.toInt) (hg : (V h.2.1 92 a2.toInt = -1 → 30 * (30 - a3.toInt) + 24 ≤ ((nn + 1 : Nat) : Int)) ∧ (0 ≤ V h.2.1 92 a2.toInt → 30 * (30 - a3.toInt) + 3 * (6 - V h.2.1 80 (V h.2.1 92 a2.toInt)) + 3 ≤ ((nn + 1 : Nat) : Int))) : Mt l yX8_goesBlock cX8_goesBlock 5 (some .int) (d + 2) [.ref 70, .int a2, .int a3] h 0 0 (fun r h' => ∃ v : Int32, r = some (.int v) ∧ 0 ≤ v.toInt ∧ v.toInt ≤ 3 ∧ Iv P h' ∧ ((h.2.1 70 53).toInt ≤ (h'.2.1 70 53).toInt) ∧ (FX KAq h h')) := by
  refine Mt_iv hv (by decide) (Nat.le_of_ble_eq_true rfl) ?_
  show Go l RX8 cX8_goesBlock 5 (g_rm (d + 2) 0 0) "goesBlock" (some .int) 117 0 0 (fun _ _ => True) (fun r h' => ∃ v : Int32, r = some (.int v) ∧ 0 ≤ v.toInt ∧ v.toInt ≤ 3 ∧ Iv P h' ∧ ((h.2.1 70 53).toInt ≤ (h'.2.1 70 53).toInt) ∧ (FX KAq h h')) 0 0 [(0, .ref 70), (1, .int a2), (2, .int a3)] [] h
  obtain ⟨S, hS⟩ : ∃ S : Int, S = (h.2.1 70 6).toInt := ⟨_, rfl⟩
  have S0 : 0 ≤ S := by rw [hS]; exact (hv.2.1 70 6).1
  have S1 : S ≤ 1 := by rw [hS]; exact (hv.2.1 70 6).2
  rw [← hS] at hr
  rw [← hS] at hl
  rw [← hS] at hb
  have fx : FX KAq h h := FX.rfl
  have key : ∀ n : Nat, (∀ (l2 : Int32) (l3 : Int32) (hx : HP), Iv P hx → 0 ≤ l2.toInt → l2.toInt ≤ 30 → -1 ≤ l3.toInt → l3.toInt ≤ 259 → (l3.toInt = -1 ∨ (II h.2.1 S l3.toInt ∧ V h.2.1 88 l3.toInt = a2.toInt)) → (l2.toInt = a3.toInt) → ((h.2.1 70 53).toInt ≤ (hx.2.1 70 53).toInt) → (0 ≤ gmi l3.toInt) → (0 : Int) ≤ (hx.2.1 70 53).toInt → (hx.2.1 70 53).toInt ≤ 3000 → FX KAq h hx → (gmi l3.toInt : Int) < n → Go l RX8 cX8_goesBlock 5 (g_rm (d + 2) 0 0) "goesBlock" (some .int) 117 0 0 (fun _ _ => True) (fun r h' => ∃ v : Int32, r = some (.int v) ∧ 0 ≤ v.toInt ∧ v.toInt ≤ 3 ∧ Iv P h' ∧ ((h.2.1 70 53).toInt ≤ (h'.2.1 70 53).toInt) ∧ (FX KAq h h')) 0 7 [(0, .ref 70), (2, .int l2), (3, .int l3)] [] hx) := by
    intro n
    induction n with
    | zero => exact (by intros; omega)
    | succ n ih =>
      refine ?_
      ·
        intro l2 l3 hx hvx l2l l2u l3l l3u x0 x1 x2 x3 y0l y0u fxx hm
        refine go_iload_n (pc := 7) rfl dX8_goesBlock_7 ?_
        refine go_iconst (pc := 8) (v := (-1)) (by decide) dX8_goesBlock_8 ?_
        refine gf_icmp_eq (pc := 9) (tgt := 78) (ti_rfl l3) (ti_c (v := (-1)) (a := (-1)) (by decide)) (by decide) dX8_goesBlock_9 (fun q1 => ?_) (fun q1 => ?_)
        ·
          refine go_iconst (pc := 78) (v := 0) (by decide) dX8_goesBlock_78 ?_
          have g2 : (0 : Int) ≤ (hx.2.1 70 53).toInt := (hvx.2.1 70 53).1
          have g3 : (hx.2.1 70 53).toInt ≤ 3000 := (hvx.2.1 70 53).2
          exact gi_iret (pc := 79) (ti_c (v := 0) (a := 0) (by decide)) ⟨_, rfl, (by rw [show (0 : Int32).toInt = 0 from (ti_c (v := 0) (a := 0) (by decide))]; omega), (by rw [show (0 : Int32).toInt = 0 from (ti_c (v := 0) (a := 0) (by decide))]; omega), hvx, (by omega), fxx⟩ hvx dX8_goesBlock_79
        ·
          have gml := gmi_s l3.toInt
          have iq : II h.2.1 S l3.toInt ∧ V h.2.1 88 l3.toInt = a2.toInt := by rcases x0 with z | z; (omega); (exact z)
          have t2 := (hr.1.1.2.2.1 l3.toInt iq.1).2
          rw [iq.2] at t2
          have dm : 30 * (30 - l2.toInt) + 3 * (7 - V h.2.1 80 l3.toInt) + 2 ≤ nn := by rcases t2 with z | z; (have q := hg.1 z.1; omega); (have q := hg.2 (by omega); omega)
          refine go_aload_n (pc := 12) rfl dX8_goesBlock_12 ?_
          refine gi_getF (pc := 13) (q := 77) hvx fL_X8_29 rfl (Nat.le_of_ble_eq_true rfl) rfl (hvx.rf (by decide)) dX8_goesBlock_13 ?_
          refine go_iload_n (pc := 16) rfl dX8_goesBlock_16 ?_
          refine gi_iald (pc := 17) (lo := 0) (hi := 6) (len := 260) hvx (ti_rfl l3) rfl (by omega) (by omega) (fun _ => rfl) dX8_goesBlock_17 (fun v4 v4l v4u v4w => ?_)
          have v4V : v4.toInt = V h.2.1 77 l3.toInt := by rw [v4w, hvx.fz (c := 77) (by omega) (by omega), ← hv.fz (c := 77) (by omega) (by omega)]; rfl
          refine go_bipush (pc := 18) (v := 6) (by decide) dX8_goesBlock_18 ?_
          refine gf_icmp_ne (pc := 20) (tgt := 32) (ti_rfl v4) (ti_c (v := 6) (a := 6) (by decide)) (by decide) dX8_goesBlock_20 (fun q5 => ?_) (fun q5 => ?_)
          ·
            refine go_aload_n (pc := 32) rfl dX8_goesBlock_32 ?_
            refine gi_getL (pc := 33) hvx fL_X8_424 rfl (Nat.le_of_ble_eq_true rfl) rfl dX8_goesBlock_33 (fun v6 => ?_)
            refine go_aload_n (pc := 36) rfl dX8_goesBlock_36 ?_
            refine gi_getF (pc := 37) (q := 78) hvx fL_X8_32 rfl (Nat.le_of_ble_eq_true rfl) rfl (hvx.rf (by decide)) dX8_goesBlock_37 ?_
            refine go_iload_n (pc := 40) rfl dX8_goesBlock_40 ?_
            refine gi_iald (pc := 41) (lo := -1) (hi := 39) (len := 260) hvx (ti_rfl l3) rfl (by omega) (by omega) (fun _ => rfl) dX8_goesBlock_41 (fun v7 v7l v7u v7w => ?_)
            have v7V : v7.toInt = V h.2.1 78 l3.toInt := by rw [v7w, hvx.fz (c := 78) (by omega) (by omega), ← hv.fz (c := 78) (by omega) (by omega)]; rfl
            refine go_invS (pc := 42) (sl := 0) (s_X8_has l (d + 0) hvx v6 v7) mL_X8_280 iM_X8_has rfl rfl (Nat.le_of_ble_eq_true rfl) (show d + 0 + 1 + 1 ≤ d + 2 by omega) (show 8 + (3 + 11) + 40 * (d + 0 + 1) ≤ 40 * (d + 2) by omega) (g_c0 hvx.ln) (Nat.le_of_ble_eq_true rfl) dX8_goesBlock_42 ?_
            intro r h8 hq _
            obtain ⟨v9, rfl, v9l, v9u, rfl⟩ := hq
            refine gf_if_eq (pc := 45) (tgt := 57) (ti_rfl v9) (by decide) dX8_goesBlock_45 (fun q10 => ?_) (fun q10 => ?_)
            ·
              refine go_iconst (pc := 57) (v := 0) (by decide) dX8_goesBlock_57 ?_
              refine go_istore (pc := 58) (Nat.le_of_ble_eq_true rfl) dX8_goesBlock_58 (go_lv (lv2 := [(0, .ref 70), (2, .int l2), (3, .int l3), (4, .int 0)]) rfl ?_)
              refine go_iload (pc := 60) rfl dX8_goesBlock_60 ?_
              refine gf_if_eq (pc := 62) (tgt := 68) (ti_c (v := 0) (a := 0) (by decide)) (by decide) dX8_goesBlock_62 (fun q11 => ?_) (fun q11 => False.elim (by omega))
              refine go_aload_n (pc := 68) rfl dX8_goesBlock_68 ?_
              refine gi_getF (pc := 69) (q := 87) hvx fL_X8_59 rfl (Nat.le_of_ble_eq_true rfl) rfl (hvx.rf (by decide)) dX8_goesBlock_69 ?_
              refine go_iload_n (pc := 72) rfl dX8_goesBlock_72 ?_
              refine gi_iald (pc := 73) (lo := -1) (hi := 259) (len := 260) hvx (ti_rfl l3) rfl (by omega) (by omega) (fun _ => rfl) dX8_goesBlock_73 (fun v12 v12l v12u v12w => ?_)
              have v12V : v12.toInt = V h.2.1 87 l3.toInt := by rw [v12w, hvx.fz (c := 87) (by omega) (by omega), ← hv.fz (c := 87) (by omega) (by omega)]; rfl
              have t1 := hr.1.1.2.1 l3.toInt iq.1
              unfold T1 at t1
              rw [← v12V] at t1
              have gmn := gmi_s v12.toInt
              have t1m : v12.toInt = -1 ∨ l3.toInt < v12.toInt := by rcases t1 with z | z; (exact Or.inl z); (exact Or.inr z.1)
              refine go_istore_n (pc := 74) (Nat.le_of_ble_eq_true rfl) dX8_goesBlock_74 (go_lv (lv2 := [(0, .ref 70), (2, .int l2), (3, .int v12), (4, .int 0)]) rfl ?_)
              refine go_goto (pc := 75) (tgt := 7) (by decide) dX8_goesBlock_75 ?_
              have g13 : (0 : Int) ≤ (hx.2.1 70 53).toInt := (hvx.2.1 70 53).1
              have g14 : (hx.2.1 70 53).toInt ≤ 3000 := (hvx.2.1 70 53).2
              exact go_lv rfl (ih l2 v12 hx hvx (by omega) (by omega) (by omega) (by omega) (by rcases t1 with z | z; (exact Or.inl z); (exact Or.inr ⟨⟨by have q := iq.1.1; omega, z.2.1⟩, z.2.2.trans iq.2⟩)) (by omega) (by omega) (gmi_lo (by omega)) (by omega) (by omega) fxx (by omega))
            ·
              refine go_aload_n (pc := 48) rfl dX8_goesBlock_48 ?_
              refine go_iload_n (pc := 49) rfl dX8_goesBlock_49 ?_
              refine go_iload_n (pc := 50) rfl dX8_goesBlock_50 ?_
              have sM15 : (hx.2.1 70 6).toInt = S := by rw [hvx.fy (j := 6) (by omega), ← hv.fy (j := 6) (by omega)]; exact hS.symm
              have g16 : (0 : Int) ≤ (hx.2.1 70 53).toInt := (hvx.2.1 70 53).1
              have g17 : (hx.2.1 70 53).toInt ≤ 3000 := (hvx.2.1 70 53).2
              refine go_invV (pc := 51) (sl := 0) (ihD hvx l3 (by rw [show (l3 : Int32).toInt = l3.toInt from (ti_rfl l3)]; omega) (by rw [show (l3 : Int32).toInt = l3.toInt from (ti_rfl l3)]; omega) l2 (by rw [show (l2 : Int32).toInt = l2.toInt from (ti_rfl l2)]; omega) (by rw [show (l2 : Int32).toInt = l2.toInt from (ti_rfl l2)]; omega) (by rw [sM15]; exact (RT2.ve (VE.of hv hvx) hr)) (by rw [sM15]; exact (by rw [hvx.fy (j := 29) (by omega), ← hv.fy (j := 29) (by omega)]; exact hl)) (CKF.ve (VE.of hv hvx) ckf) (by rw [sM15]; exact ((II.ve (VE.of hv hvx)).mpr iq.1)) (by rw [VE.v (VE.of hv hvx) (c := 77) (by omega) (by omega)]; omega) (by rw [VE.v (VE.of hv hvx) (c := 80) (by omega) (by omega)]; omega)) mL_X8_428 iM_X8_does sM_X8_does (hvx.sh rfl) rfl rfl rfl (Nat.le_of_ble_eq_true rfl) (show d + 1 + 1 ≤ d + 2 by omega) (show 8 + (6 + 11) + 40 * (d + 1) ≤ 40 * (d + 2) by omega) (g_c0 hvx.ln) (Nat.le_of_ble_eq_true rfl) dX8_goesBlock_51 ?_
              intro r h18 hq _
              obtain ⟨v21, rfl, v21l, v21u, hv18, f19, f20⟩ := hq
              have fx18 : FX KAq h h18 := FX.tr fxx f20
              obtain ⟨u22, u22w⟩ : ∃ v : Int32, v = h18.2.1 70 53 := ⟨_, rfl⟩
              have u22e : (h18.2.1 70 53).toInt = u22.toInt := by rw [u22w]
              have u22l : 0 ≤ u22.toInt := by rw [u22w]; exact (hv18.2.1 70 53).1
              have u22u : u22.toInt ≤ 3000 := by rw [u22w]; exact (hv18.2.1 70 53).2
              refine go_goto (pc := 54) (tgt := 58) (by decide) dX8_goesBlock_54 ?_
              refine go_istore (pc := 58) (Nat.le_of_ble_eq_true rfl) dX8_goesBlock_58 (go_lv (lv2 := [(0, .ref 70), (2, .int l2), (3, .int l3), (4, .int v21)]) rfl ?_)
              refine go_iload (pc := 60) rfl dX8_goesBlock_60 ?_
              refine gf_if_eq (pc := 62) (tgt := 68) (ti_rfl v21) (by decide) dX8_goesBlock_62 (fun q23 => ?_) (fun q23 => ?_)
              ·
                refine go_aload_n (pc := 68) rfl dX8_goesBlock_68 ?_
                refine gi_getF (pc := 69) (q := 87) hv18 fL_X8_59 rfl (Nat.le_of_ble_eq_true rfl) rfl (hv18.rf (by decide)) dX8_goesBlock_69 ?_
                refine go_iload_n (pc := 72) rfl dX8_goesBlock_72 ?_
                refine gi_iald (pc := 73) (lo := -1) (hi := 259) (len := 260) hv18 (ti_rfl l3) rfl (by omega) (by omega) (fun _ => rfl) dX8_goesBlock_73 (fun v24 v24l v24u v24w => ?_)
                have v24V : v24.toInt = V h.2.1 87 l3.toInt := by rw [v24w, hv18.fz (c := 87) (by omega) (by omega), ← hv.fz (c := 87) (by omega) (by omega)]; rfl
                have t1 := hr.1.1.2.1 l3.toInt iq.1
                unfold T1 at t1
                rw [← v24V] at t1
                have gmn := gmi_s v24.toInt
                have t1m : v24.toInt = -1 ∨ l3.toInt < v24.toInt := by rcases t1 with z | z; (exact Or.inl z); (exact Or.inr z.1)
                refine go_istore_n (pc := 74) (Nat.le_of_ble_eq_true rfl) dX8_goesBlock_74 (go_lv (lv2 := [(0, .ref 70), (2, .int l2), (3, .int v24), (4, .int v21)]) rfl ?_)
                refine go_goto (pc := 75) (tgt := 7) (by decide) dX8_goesBlock_75 ?_
                have g25 : (0 : Int) ≤ (h18.2.1 70 53).toInt := (hv18.2.1 70 53).1
                have g26 : (h18.2.1 70 53).toInt ≤ 3000 := (hv18.2.1 70 53).2
                have g27 : (h18.2.1 70 53).toInt = u22.toInt := by rw [← (show u22 = h18.2.1 70 53 from u22w)] <;> exact (ti_rfl u22)
                exact go_lv rfl (ih l2 v24 h18 hv18 (by omega) (by omega) (by omega) (by omega) (by rcases t1 with z | z; (exact Or.inl z); (exact Or.inr ⟨⟨by have q := iq.1.1; omega, z.2.1⟩, z.2.2.trans iq.2⟩)) (by omega) (by omega) (gmi_lo (by omega)) (by omega) (by omega) fx18 (by omega))
              ·
                refine go_iload (pc := 65) rfl dX8_goesBlock_65 ?_
                have g28 : (0 : Int) ≤ (h18.2.1 70 53).toInt := (hv18.2.1 70 53).1
                have g29 : (h18.2.1 70 53).toInt ≤ 3000 := (hv18.2.1 70 53).2
                have g30 : (h18.2.1 70 53).toInt = u22.toInt := by rw [← (show u22 = h18.2.1 70 53 from u22w)] <;> exact (ti_rfl u22)
                exact gi_iret (pc := 67) (ti_rfl v21) ⟨_, rfl, (by rw [show (v21 : Int32).toInt = v21.toInt from (ti_rfl v21)]; omega), (by rw [show (v21 : Int32).toInt = v21.toInt from (ti_rfl v21)]; omega), hv18, (by omega), fx18⟩ hv18 dX8_goesBlock_67
          ·
            refine go_aload_n (pc := 23) rfl dX8_goesBlock_23 ?_
            refine go_iload_n (pc := 24) rfl dX8_goesBlock_24 ?_
            refine go_iload_n (pc := 25) rfl dX8_goesBlock_25 ?_
            have sM31 : (hx.2.1 70 6).toInt = S := by rw [hvx.fy (j := 6) (by omega), ← hv.fy (j := 6) (by omega)]; exact hS.symm
            have g32 : (0 : Int) ≤ (hx.2.1 70 53).toInt := (hvx.2.1 70 53).1
            have g33 : (hx.2.1 70 53).toInt ≤ 3000 := (hvx.2.1 70 53).2
            refine go_invV (pc := 26) (sl := 0) (ihY hvx l3 (by rw [show (l3 : Int32).toInt = l3.toInt from (ti_rfl l3)]; omega) (by rw [show (l3 : Int32).toInt = l3.toInt from (ti_rfl l3)]; omega) l2 (by rw [show (l2 : Int32).toInt = l2.toInt from (ti_rfl l2)]; omega) (by rw [show (l2 : Int32).toInt = l2.toInt from (ti_rfl l2)]; omega) (by rw [sM31]; exact (RT2.ve (VE.of hv hvx) hr)) (by rw [sM31]; exact (by rw [hvx.fy (j := 29) (by omega), ← hv.fy (j := 29) (by omega)]; exact hl)) (CKF.ve (VE.of hv hvx) ckf) (by rw [sM31]; exact ((II.ve (VE.of hv hvx)).mpr iq.1)) (by rw [VE.v (VE.of hv hvx) (c := 77) (by omega) (by omega)]; omega) (by rw [VE.v (VE.of hv hvx) (c := 80) (by omega) (by omega)]; omega)) mL_X8_421 iM_X8_tries sM_X8_tries (hvx.sh rfl) rfl rfl rfl (Nat.le_of_ble_eq_true rfl) (show d + 1 + 1 ≤ d + 2 by omega) (show 8 + (4 + 11) + 40 * (d + 1) ≤ 40 * (d + 2) by omega) (g_c0 hvx.ln) (Nat.le_of_ble_eq_true rfl) dX8_goesBlock_26 ?_
            intro r h34 hq _
            obtain ⟨v37, rfl, v37l, v37u, hv34, f35, f36⟩ := hq
            have fx34 : FX KAq h h34 := FX.tr fxx f36
            obtain ⟨u38, u38w⟩ : ∃ v : Int32, v = h34.2.1 70 53 := ⟨_, rfl⟩
            have u38e : (h34.2.1 70 53).toInt = u38.toInt := by rw [u38w]
            have u38l : 0 ≤ u38.toInt := by rw [u38w]; exact (hv34.2.1 70 53).1
            have u38u : u38.toInt ≤ 3000 := by rw [u38w]; exact (hv34.2.1 70 53).2
            refine go_goto (pc := 29) (tgt := 58) (by decide) dX8_goesBlock_29 ?_
            refine go_istore (pc := 58) (Nat.le_of_ble_eq_true rfl) dX8_goesBlock_58 (go_lv (lv2 := [(0, .ref 70), (2, .int l2), (3, .int l3), (4, .int v37)]) rfl ?_)
            refine go_iload (pc := 60) rfl dX8_goesBlock_60 ?_
            refine gf_if_eq (pc := 62) (tgt := 68) (ti_rfl v37) (by decide) dX8_goesBlock_62 (fun q39 => ?_) (fun q39 => ?_)
            ·
              refine go_aload_n (pc := 68) rfl dX8_goesBlock_68 ?_
              refine gi_getF (pc := 69) (q := 87) hv34 fL_X8_59 rfl (Nat.le_of_ble_eq_true rfl) rfl (hv34.rf (by decide)) dX8_goesBlock_69 ?_
              refine go_iload_n (pc := 72) rfl dX8_goesBlock_72 ?_
              refine gi_iald (pc := 73) (lo := -1) (hi := 259) (len := 260) hv34 (ti_rfl l3) rfl (by omega) (by omega) (fun _ => rfl) dX8_goesBlock_73 (fun v40 v40l v40u v40w => ?_)
              have v40V : v40.toInt = V h.2.1 87 l3.toInt := by rw [v40w, hv34.fz (c := 87) (by omega) (by omega), ← hv.fz (c := 87) (by omega) (by omega)]; rfl
              have t1 := hr.1.1.2.1 l3.toInt iq.1
              unfold T1 at t1
              rw [← v40V] at t1
              have gmn := gmi_s v40.toInt
              have t1m : v40.toInt = -1 ∨ l3.toInt < v40.toInt := by rcases t1 with z | z; (exact Or.inl z); (exact Or.inr z.1)
              refine go_istore_n (pc := 74) (Nat.le_of_ble_eq_true rfl) dX8_goesBlock_74 (go_lv (lv2 := [(0, .ref 70), (2, .int l2), (3, .int v40), (4, .int v37)]) rfl ?_)
              refine go_goto (pc := 75) (tgt := 7) (by decide) dX8_goesBlock_75 ?_
              have g41 : (0 : Int) ≤ (h34.2.1 70 53).toInt := (hv34.2.1 70 53).1
              have g42 : (h34.2.1 70 53).toInt ≤ 3000 := (hv34.2.1 70 53).2
              have g43 : (h34.2.1 70 53).toInt = u38.toInt := by rw [← (show u38 = h34.2.1 70 53 from u38w)] <;> exact (ti_rfl u38)
              exact go_lv rfl (ih l2 v40 h34 hv34 (by omega) (by omega) (by omega) (by omega) (by rcases t1 with z | z; (exact Or.inl z); (exact Or.inr ⟨⟨by have q := iq.1.1; omega, z.2.1⟩, z.2.2.trans iq.2⟩)) (by omega) (by omega) (gmi_lo (by omega)) (by omega) (by omega) fx34 (by omega))
            ·
              refine go_iload (pc := 65) rfl dX8_goesBlock_65 ?_
              have g44 : (0 : Int) ≤ (h34.2.1 70 53).toInt := (hv34.2.1 70 53).1
              have g45 : (h34.2.1 70 53).toInt ≤ 3000 := (hv34.2.1 70 53).2
              have g46 : (h34.2.1 70 53).toInt = u38.toInt := by rw [← (show u38 = h34.2.1 70 53 from u38w)] <;> exact (ti_rfl u38)
              exact gi_iret (pc := 67) (ti_rfl v37) ⟨_, rfl, (by rw [show (v37 : Int32).toInt = v37.toInt from (ti_rfl v37)]; omega), (by rw [show (v37 : Int32).toInt = v37.toInt from (ti_rfl v37)]; omega), hv34, (by omega), fx34⟩ hv34 dX8_goesBlock_67
  refine go_aload_n (pc := 0) rfl dX8_goesBlock_0 ?_
  refine gi_getF (pc := 1) (q := 90) hv fL_X8_68 rfl (Nat.le_of_ble_eq_true rfl) rfl (hv.rf (by decide)) dX8_goesBlock_1 ?_
  refine go_iload_n (pc := 4) rfl dX8_goesBlock_4 ?_
  refine gi_iald (pc := 5) (lo := -1) (hi := 259) (len := 560) hv (ti_rfl a2) rfl (by omega) (by omega) (fun _ => rfl) dX8_goesBlock_5 (fun v47 v47l v47u v47w => ?_)
  have v47V : v47.toInt = V h.2.1 90 a2.toInt := by rw [v47w]; rfl
  have gma := gmi_s v47.toInt
  refine go_istore_n (pc := 6) (Nat.le_of_ble_eq_true rfl) dX8_goesBlock_6 (go_lv (lv2 := [(0, .ref 70), (1, .int a2), (2, .int a3), (3, .int v47)]) rfl ?_)
  have g48 : (0 : Int) ≤ (h.2.1 70 53).toInt := (hv.2.1 70 53).1
  have g49 : (h.2.1 70 53).toInt ≤ 3000 := (hv.2.1 70 53).2
  exact go_lv rfl ((key 1001) a3 v47 h hv (by omega) (by omega) (by omega) (by omega) (by rw [v47V]; exact (hr.1.1.2.2.2.2.2.1 a2.toInt hb).1) (by omega) (by omega) (gmi_lo (by omega)) (by omega) (by omega) fx (by omega))
set_option maxHeartbeats 4000000 in
set_option maxRecDepth 100000 in
theorem s_X8_tries_b_f (l : Launch) (d : Nat) {nn : Nat} (ihG : ∀ {P : PP} {h : HP} (_ : Iv P h) (a2 : Int32) (a2l : 0 ≤ a2.toInt) (a2u : a2.toInt ≤ 559) (a3 : Int32) (a3l : 0 ≤ a3.toInt) (a3u : a3.toInt ≤ 30) (hr : RD h.2.1 (h.2.1 70 6).toInt ∧ TD h.2.1 (h.2.1 70 6).toInt) (hl : (h.2.1 70 29).toInt = (h.2.1 70 6).toInt) (ckf : CKF h.2.1) (hb : BB h.2.1 (h.2.1 70 6).toInt a2.toInt) (hg : (V h.2.1 92 a2.toInt = -1 → 30 * (30 - a3.toInt) + 24 ≤ (nn : Int)) ∧ (0 ≤ V h.2.1 92 a2.toInt → 30 * (30 - a3.toInt) + 3 * (6 - V h.2.1 80 (V h.2.1 92 a2.toInt)) + 3 ≤ (nn : Int))), Mt l yX8_goesBlock cX8_goesBlock 5 (some .int) (d + 0) [.ref 70, .int a2, .int a3] h 0 0 (fun r h' => ∃ v : Int32, r = some (.int v) ∧ 0 ≤ v.toInt ∧ v.toInt ≤ 3 ∧ Iv P h' ∧ ((h.2.1 70 53).toInt ≤ (h'.2.1 70 53).toInt) ∧ (FX KAq h h'))) {P : PP} {h : HP} (hv : Iv P h) (a2 : Int32) (a2l : 0 ≤ a2.toInt) (a2u : a2.toInt ≤ 259) (a3 : Int32) (a3l : 0 ≤ a3.toInt) (a3u : a3.toInt ≤ 30) (hr : RD h.2.1 (h.2.1 70 6).toInt ∧ TD h.2.1 (h.2.1 70 6).toInt) (hl : (h.2.1 70 29).toInt = (h.2.1 70 6).toInt) (ckf : CKF h.2.1) (hi : II h.2.1 (h.2.1 70 6).toInt a2.toInt) (hk : V h.2.1 77 a2.toInt = 6) (hg : 30 * (30 - a3.toInt) + 3 * (7 - V h.2.1 80 a2.toInt) + 2 ≤ ((nn + 1 : Nat) : Int)) : Mt l yX8_tries cX8_tries 4 (some .int) (d + 1) [.ref 70, .int a2, .int a3] h 0 0 (fun r h' => ∃ v : Int32, r = some (.int v) ∧ 0 ≤ v.toInt ∧ v.toInt ≤ 3 ∧ Iv P h' ∧ ((h.2.1 70 53).toInt ≤ (h'.2.1 70 53).toInt) ∧ (FX KAq h h')) := by
  refine Mt_iv hv (by decide) (Nat.le_of_ble_eq_true rfl) ?_
  show Go l RX8 cX8_tries 4 (g_rm (d + 1) 0 0) "tries" (some .int) 117 0 0 (fun _ _ => True) (fun r h' => ∃ v : Int32, r = some (.int v) ∧ 0 ≤ v.toInt ∧ v.toInt ≤ 3 ∧ Iv P h' ∧ ((h.2.1 70 53).toInt ≤ (h'.2.1 70 53).toInt) ∧ (FX KAq h h')) 0 0 [(0, .ref 70), (1, .int a2), (2, .int a3)] [] h
  obtain ⟨S, hS⟩ : ∃ S : Int, S = (h.2.1 70 6).toInt := ⟨_, rfl⟩
  have S0 : 0 ≤ S := by rw [hS]; exact (hv.2.1 70 6).1
  have S1 : S ≤ 1 := by rw [hS]; exact (hv.2.1 70 6).2
  rw [← hS] at hr
  rw [← hS] at hl
  rw [← hS] at hi
  have fx : FX KAq h h := FX.rfl
  have cc := (hr.1.2.1 a2.toInt hi.1 hi.2).2
  have cd := (hr.1.2.1 a2.toInt hi.1 hi.2).1
  have t3 := hr.1.1.2.2.2.1 a2.toInt hi
  have r8 : V h.2.1 80 a2.toInt ≤ 6 := (hv.2.1 80 _).2
  have c6 := cc.1 hk
  refine go_aload_n (pc := 0) rfl dX8_tries_0 ?_
  refine go_aload_n (pc := 1) rfl dX8_tries_1 ?_
  refine gi_getF (pc := 2) (q := 85) hv fL_X8_53 rfl (Nat.le_of_ble_eq_true rfl) rfl (hv.rf (by decide)) dX8_tries_2 ?_
  refine go_iload_n (pc := 5) rfl dX8_tries_5 ?_
  refine gi_iald (pc := 6) (lo := -1) (hi := 559) (len := 260) hv (ti_rfl a2) rfl (by omega) (by omega) (fun _ => rfl) dX8_tries_6 (fun v1 v1l v1u v1w => ?_)
  have v1V : v1.toInt = V h.2.1 85 a2.toInt := by rw [v1w]; rfl
  refine go_iload_n (pc := 7) rfl dX8_tries_7 ?_
  rcases (hr.1.1.2.2.2.2.1 a2.toInt hi).1 with t42 | t42
  · exact False.elim (by omega)
  have sM3 : (h.2.1 70 6).toInt = S := by rw [hv.fy (j := 6) (by omega), ← hv.fy (j := 6) (by omega)]; exact hS.symm
  have g4 : (0 : Int) ≤ (h.2.1 70 53).toInt := (hv.2.1 70 53).1
  have g5 : (h.2.1 70 53).toInt ≤ 3000 := (hv.2.1 70 53).2
  refine go_invV (pc := 8) (sl := 0) (ihG hv v1 (by rw [show (v1 : Int32).toInt = v1.toInt from (ti_rfl v1)]; omega) (by rw [show (v1 : Int32).toInt = v1.toInt from (ti_rfl v1)]; omega) a3 (by rw [show (a3 : Int32).toInt = a3.toInt from (ti_rfl a3)]; omega) (by rw [show (a3 : Int32).toInt = a3.toInt from (ti_rfl a3)]; omega) (by rw [sM3]; exact (RT2.ve (VE.of hv hv) hr)) (by rw [sM3]; exact (by rw [hv.fy (j := 29) (by omega), ← hv.fy (j := 29) (by omega)]; exact hl)) (CKF.ve (VE.of hv hv) ckf) (by rw [sM3]; exact (by rw [v1V]; exact (BB.ve (VE.of hv hv)).mpr t42.1)) (by rw [v1V, VE.v (VE.of hv hv) (c := 92) (by omega) (by omega), t42.2]; exact ⟨fun q => by omega, fun q => by rw [VE.v (VE.of hv hv) (c := 80) (by omega) (by omega)]; omega⟩)) mL_X8_431 iM_X8_goesBlock sM_X8_goesBlock (hv.sh rfl) rfl rfl rfl (Nat.le_of_ble_eq_true rfl) (show d + 0 + 1 ≤ d + 1 by omega) (show 8 + (5 + 11) + 40 * (d + 0) ≤ 40 * (d + 1) by omega) (g_c0 hv.ln) (Nat.le_of_ble_eq_true rfl) dX8_tries_8 ?_
  intro r h6 hq _
  obtain ⟨v9, rfl, v9l, v9u, hv6, f7, f8⟩ := hq
  have fx6 : FX KAq h h6 := FX.tr fx f8
  obtain ⟨u10, u10w⟩ : ∃ v : Int32, v = h6.2.1 70 53 := ⟨_, rfl⟩
  have u10e : (h6.2.1 70 53).toInt = u10.toInt := by rw [u10w]
  have u10l : 0 ≤ u10.toInt := by rw [u10w]; exact (hv6.2.1 70 53).1
  have u10u : u10.toInt ≤ 3000 := by rw [u10w]; exact (hv6.2.1 70 53).2
  refine go_istore_n (pc := 11) (Nat.le_of_ble_eq_true rfl) dX8_tries_11 (go_lv (lv2 := [(0, .ref 70), (1, .int a2), (2, .int a3), (3, .int v9)]) rfl ?_)
  refine go_iload_n (pc := 12) rfl dX8_tries_12 ?_
  refine go_iconst (pc := 13) (v := 2) (by decide) dX8_tries_13 ?_
  refine gf_icmp_eq (pc := 14) (tgt := 19) (ti_rfl v9) (ti_c (v := 2) (a := 2) (by decide)) (by decide) dX8_tries_14 (fun q11 => ?_) (fun q11 => ?_)
  ·
    refine go_aload_n (pc := 19) rfl dX8_tries_19 ?_
    refine gi_getF (pc := 20) (q := 114) hv6 fL_X8_142 rfl (Nat.le_of_ble_eq_true rfl) rfl (hv6.rf (by decide)) dX8_tries_20 ?_
    refine go_bipush (pc := 23) (v := 6) (by decide) dX8_tries_23 ?_
    refine go_iload_n (pc := 25) rfl dX8_tries_25 ?_
    refine gf_imul (pc := 26) (ti_c (v := 6) (a := 6) (by decide)) (ti_rfl a3) (by omega) (by omega) dX8_tries_26 (fun v12 e13 => ?_)
    refine go_aload_n (pc := 27) rfl dX8_tries_27 ?_
    refine gi_getF (pc := 28) (q := 82) hv6 fL_X8_44 rfl (Nat.le_of_ble_eq_true rfl) rfl (hv6.rf (by decide)) dX8_tries_28 ?_
    refine go_iload_n (pc := 31) rfl dX8_tries_31 ?_
    refine gi_iald (pc := 32) (lo := -1) (hi := 9) (len := 260) hv6 (ti_rfl a2) rfl (by omega) (by omega) (fun _ => rfl) dX8_tries_32 (fun v14 v14l v14u v14w => ?_)
    have v14V : v14.toInt = V h.2.1 82 a2.toInt := by rw [v14w, hv6.fz (c := 82) (by omega) (by omega), ← hv.fz (c := 82) (by omega) (by omega)]; rfl
    have k5 : 0 ≤ v14.toInt ∧ v14.toInt ≤ 5 := by omega
    refine gf_iadd (pc := 33) e13 (ti_rfl v14) (by omega) (by omega) dX8_tries_33 (fun v15 e16 => ?_)
    refine go_aload_n (pc := 34) rfl dX8_tries_34 ?_
    refine gi_get (pc := 35) (lo := -2147483648) (hi := 2147483647) hv6 fL_X8_434 rfl (Nat.le_of_ble_eq_true rfl) rfl rfl dX8_tries_35 (fun v17 v17l v17u v17w => ?_)
    refine gi_iast (pc := 38) (lo := -2147483648) (hi := 2147483647) (len := 192) hv6 e16 (ti_rfl v17) rfl (by omega) (by omega) (fun _ => rfl) (ti_ge (ti_rfl v17)) (ti_le2 (ti_rfl v17)) (by decide) dX8_tries_38 (fun h18 hv18 hv18e => ?_)
    have fx18 : FX KAq h h18 := FX.pI fx6 hv18e (by unfold KAq; omega)
    refine go_aload_n (pc := 39) rfl dX8_tries_39 ?_
    refine go_aload_n (pc := 40) rfl dX8_tries_40 ?_
    refine gi_getF (pc := 41) (q := 86) hv18 fL_X8_56 rfl (Nat.le_of_ble_eq_true rfl) rfl (hv18.rf (by decide)) dX8_tries_41 ?_
    refine go_iload_n (pc := 44) rfl dX8_tries_44 ?_
    refine gi_iald (pc := 45) (lo := -1) (hi := 559) (len := 260) hv18 (ti_rfl a2) rfl (by omega) (by omega) (fun _ => rfl) dX8_tries_45 (fun v19 v19l v19u v19w => ?_)
    have v19V : v19.toInt = V h.2.1 86 a2.toInt := by rw [v19w, hv18.fz (c := 86) (by omega) (by omega), ← hv.fz (c := 86) (by omega) (by omega)]; rfl
    refine go_iload_n (pc := 46) rfl dX8_tries_46 ?_
    rcases (hr.1.1.2.2.2.2.1 a2.toInt hi).2 with t420 | t420
    · exact False.elim (by omega)
    have sM21 : (h18.2.1 70 6).toInt = S := by rw [hv18.fy (j := 6) (by omega), ← hv.fy (j := 6) (by omega)]; exact hS.symm
    have g22 : (0 : Int) ≤ (h18.2.1 70 53).toInt := (hv18.2.1 70 53).1
    have g23 : (h18.2.1 70 53).toInt ≤ 3000 := (hv18.2.1 70 53).2
    have g24 : (h18.2.1 70 53).toInt = u10.toInt := by rw [← (show u10 = h18.2.1 70 53 from (show u10 = h18.2.1 70 53 from by rw [hv18e]; exact (g_iI rfl u10w.symm).symm))] <;> exact (ti_rfl u10)
    refine go_invV (pc := 47) (sl := 0) (ihG hv18 v19 (by rw [show (v19 : Int32).toInt = v19.toInt from (ti_rfl v19)]; omega) (by rw [show (v19 : Int32).toInt = v19.toInt from (ti_rfl v19)]; omega) a3 (by rw [show (a3 : Int32).toInt = a3.toInt from (ti_rfl a3)]; omega) (by rw [show (a3 : Int32).toInt = a3.toInt from (ti_rfl a3)]; omega) (by rw [sM21]; exact (RT2.ve (VE.of hv hv18) hr)) (by rw [sM21]; exact (by rw [hv18.fy (j := 29) (by omega), ← hv.fy (j := 29) (by omega)]; exact hl)) (CKF.ve (VE.of hv hv18) ckf) (by rw [sM21]; exact (by rw [v19V]; exact (BB.ve (VE.of hv hv18)).mpr t420.1)) (by rw [v19V, VE.v (VE.of hv hv18) (c := 92) (by omega) (by omega), t420.2]; exact ⟨fun q => by omega, fun q => by rw [VE.v (VE.of hv hv18) (c := 80) (by omega) (by omega)]; omega⟩)) mL_X8_431 iM_X8_goesBlock sM_X8_goesBlock (hv18.sh rfl) rfl rfl rfl (Nat.le_of_ble_eq_true rfl) (show d + 0 + 1 ≤ d + 1 by omega) (show 8 + (5 + 11) + 40 * (d + 0) ≤ 40 * (d + 1) by omega) (g_c0 hv18.ln) (Nat.le_of_ble_eq_true rfl) dX8_tries_47 ?_
    intro r h25 hq _
    obtain ⟨v28, rfl, v28l, v28u, hv25, f26, f27⟩ := hq
    have fx25 : FX KAq h h25 := FX.tr fx18 f27
    obtain ⟨u29, u29w⟩ : ∃ v : Int32, v = h25.2.1 70 53 := ⟨_, rfl⟩
    have u29e : (h25.2.1 70 53).toInt = u29.toInt := by rw [u29w]
    have u29l : 0 ≤ u29.toInt := by rw [u29w]; exact (hv25.2.1 70 53).1
    have u29u : u29.toInt ≤ 3000 := by rw [u29w]; exact (hv25.2.1 70 53).2
    have g30 : (0 : Int) ≤ (h25.2.1 70 53).toInt := (hv25.2.1 70 53).1
    have g31 : (h25.2.1 70 53).toInt ≤ 3000 := (hv25.2.1 70 53).2
    have g32 : (h25.2.1 70 53).toInt = u29.toInt := by rw [← (show u29 = h25.2.1 70 53 from u29w)] <;> exact (ti_rfl u29)
    exact gi_iret (pc := 50) (ti_rfl v28) ⟨_, rfl, (by rw [show (v28 : Int32).toInt = v28.toInt from (ti_rfl v28)]; omega), (by rw [show (v28 : Int32).toInt = v28.toInt from (ti_rfl v28)]; omega), hv25, (by omega), fx25⟩ hv25 dX8_tries_50
  ·
    refine go_iload_n (pc := 17) rfl dX8_tries_17 ?_
    have g33 : (0 : Int) ≤ (h6.2.1 70 53).toInt := (hv6.2.1 70 53).1
    have g34 : (h6.2.1 70 53).toInt ≤ 3000 := (hv6.2.1 70 53).2
    have g35 : (h6.2.1 70 53).toInt = u10.toInt := by rw [← (show u10 = h6.2.1 70 53 from u10w)] <;> exact (ti_rfl u10)
    exact gi_iret (pc := 18) (ti_rfl v9) ⟨_, rfl, (by rw [show (v9 : Int32).toInt = v9.toInt from (ti_rfl v9)]; omega), (by rw [show (v9 : Int32).toInt = v9.toInt from (ti_rfl v9)]; omega), hv6, (by omega), fx6⟩ hv6 dX8_tries_18
set_option maxHeartbeats 4000000 in
set_option maxRecDepth 100000 in
theorem s_X8_does_b_f (l : Launch) (d : Nat) {nn : Nat} (ihC : ∀ {P : PP} {h : HP} (_ : Iv P h) (a2 : Int32) (a2l : 0 ≤ a2.toInt) (a2u : a2.toInt ≤ 259) (a3 : Int32) (a3l : 0 ≤ a3.toInt) (a3u : a3.toInt ≤ 30) (a4 : Int32) (a5 : Int32) (hr : RD h.2.1 (h.2.1 70 6).toInt ∧ TD h.2.1 (h.2.1 70 6).toInt) (hl : (h.2.1 70 29).toInt = (h.2.1 70 6).toInt) (ckf : CKF h.2.1) (hi : II h.2.1 (h.2.1 70 6).toInt a2.toInt) (hk : V h.2.1 77 a2.toInt = 1) (hg : 30 * (30 - a3.toInt) + 1 ≤ (nn : Int)), Mt l yX8_calls_ cX8_calls_ 6 (some .int) (d + 2) [.ref 70, .int a2, .int a3, .int a4, .int a5] h 0 0 (fun r h' => ∃ v : Int32, r = some (.int v) ∧ 0 ≤ v.toInt ∧ v.toInt ≤ 3 ∧ Iv P h' ∧ ((h.2.1 70 53).toInt ≤ (h'.2.1 70 53).toInt) ∧ (FX KAq h h'))) (ihG : ∀ {P : PP} {h : HP} (_ : Iv P h) (a2 : Int32) (a2l : 0 ≤ a2.toInt) (a2u : a2.toInt ≤ 559) (a3 : Int32) (a3l : 0 ≤ a3.toInt) (a3u : a3.toInt ≤ 30) (hr : RD h.2.1 (h.2.1 70 6).toInt ∧ TD h.2.1 (h.2.1 70 6).toInt) (hl : (h.2.1 70 29).toInt = (h.2.1 70 6).toInt) (ckf : CKF h.2.1) (hb : BB h.2.1 (h.2.1 70 6).toInt a2.toInt) (hg : (V h.2.1 92 a2.toInt = -1 → 30 * (30 - a3.toInt) + 24 ≤ (nn : Int)) ∧ (0 ≤ V h.2.1 92 a2.toInt → 30 * (30 - a3.toInt) + 3 * (6 - V h.2.1 80 (V h.2.1 92 a2.toInt)) + 3 ≤ (nn : Int))), Mt l yX8_goesBlock cX8_goesBlock 5 (some .int) (d + 2) [.ref 70, .int a2, .int a3] h 0 0 (fun r h' => ∃ v : Int32, r = some (.int v) ∧ 0 ≤ v.toInt ∧ v.toInt ≤ 3 ∧ Iv P h' ∧ ((h.2.1 70 53).toInt ≤ (h'.2.1 70 53).toInt) ∧ (FX KAq h h'))) (ihL : ∀ {P : PP} {h : HP} (_ : Iv P h) (a2 : Int32) (a2l : 0 ≤ a2.toInt) (a2u : a2.toInt ≤ 259) (a3 : Int32) (a3l : 0 ≤ a3.toInt) (a3u : a3.toInt ≤ 30) (hr : RD h.2.1 (h.2.1 70 6).toInt ∧ TD h.2.1 (h.2.1 70 6).toInt) (hl : (h.2.1 70 29).toInt = (h.2.1 70 6).toInt) (ckf : CKF h.2.1) (hi : II h.2.1 (h.2.1 70 6).toInt a2.toInt) (hk : V h.2.1 77 a2.toInt = 3) (hg : 30 * (30 - a3.toInt) + 3 * (7 - V h.2.1 80 a2.toInt) + 1 ≤ (nn : Int)), Mt l yX8_loops cX8_loops 5 (some .int) (d + 2) [.ref 70, .int a2, .int a3] h 0 0 (fun r h' => ∃ v : Int32, r = some (.int v) ∧ 0 ≤ v.toInt ∧ v.toInt ≤ 3 ∧ Iv P h' ∧ ((h.2.1 70 53).toInt ≤ (h'.2.1 70 53).toInt) ∧ (FX KAq h h'))) {P : PP} {h : HP} (hv : Iv P h) (a2 : Int32) (a2l : 0 ≤ a2.toInt) (a2u : a2.toInt ≤ 259) (a3 : Int32) (a3l : 0 ≤ a3.toInt) (a3u : a3.toInt ≤ 30) (hr : RD h.2.1 (h.2.1 70 6).toInt ∧ TD h.2.1 (h.2.1 70 6).toInt) (hl : (h.2.1 70 29).toInt = (h.2.1 70 6).toInt) (ckf : CKF h.2.1) (hi : II h.2.1 (h.2.1 70 6).toInt a2.toInt) (hk : ¬ V h.2.1 77 a2.toInt = 6) (hg : 30 * (30 - a3.toInt) + 3 * (7 - V h.2.1 80 a2.toInt) + 2 ≤ ((nn + 1 : Nat) : Int)) : Mt l yX8_does cX8_does 6 (some .int) (d + 3) [.ref 70, .int a2, .int a3] h 0 0 (fun r h' => ∃ v : Int32, r = some (.int v) ∧ 0 ≤ v.toInt ∧ v.toInt ≤ 3 ∧ Iv P h' ∧ ((h.2.1 70 53).toInt ≤ (h'.2.1 70 53).toInt) ∧ (FX KAq h h')) := by
  refine Mt_iv hv (by decide) (Nat.le_of_ble_eq_true rfl) ?_
  show Go l RX8 cX8_does 6 (g_rm (d + 3) 0 0) "does" (some .int) 117 0 0 (fun _ _ => True) (fun r h' => ∃ v : Int32, r = some (.int v) ∧ 0 ≤ v.toInt ∧ v.toInt ≤ 3 ∧ Iv P h' ∧ ((h.2.1 70 53).toInt ≤ (h'.2.1 70 53).toInt) ∧ (FX KAq h h')) 0 0 [(0, .ref 70), (1, .int a2), (2, .int a3)] [] h
  obtain ⟨S, hS⟩ : ∃ S : Int, S = (h.2.1 70 6).toInt := ⟨_, rfl⟩
  have S0 : 0 ≤ S := by rw [hS]; exact (hv.2.1 70 6).1
  have S1 : S ≤ 1 := by rw [hS]; exact (hv.2.1 70 6).2
  rw [← hS] at hr
  rw [← hS] at hl
  rw [← hS] at hi
  have fx : FX KAq h h := FX.rfl
  have cc := (hr.1.2.1 a2.toInt hi.1 hi.2).2
  have cd := (hr.1.2.1 a2.toInt hi.1 hi.2).1
  have t3 := hr.1.1.2.2.2.1 a2.toInt hi
  have r8 : V h.2.1 80 a2.toInt ≤ 6 := (hv.2.1 80 _).2
  refine go_aload_n (pc := 0) rfl dX8_does_0 ?_
  refine gi_get (pc := 1) (lo := 0) (hi := 3000) hv fL_X8_437 rfl (Nat.le_of_ble_eq_true rfl) rfl rfl dX8_does_1 (fun v1 v1l v1u v1w => ?_)
  have g2 : (h.2.1 70 53).toInt = v1.toInt := by rw [v1w]
  refine go_sipush (pc := 4) (v := 3000) (by decide) dX8_does_4 ?_
  refine gf_icmp_ne (pc := 7) (tgt := 12) (ti_rfl v1) (ti_c (v := 3000) (a := 3000) (by decide)) (by decide) dX8_does_7 (fun q3 => ?_) (fun q3 => ?_)
  ·
    refine go_aload_n (pc := 12) rfl dX8_does_12 ?_
    refine go_dup (pc := 13) rfl dX8_does_13 ?_
    refine gi_get (pc := 14) (lo := 0) (hi := 3000) hv fL_X8_437 rfl (Nat.le_of_ble_eq_true rfl) rfl rfl dX8_does_14 (fun v4 v4l v4u v4w => ?_)
    have v4r : v1 = h.2.1 70 53 := v1w
    have v4q : TI v4 v1.toInt := by rw [v4w.trans v4r.symm]; exact (ti_rfl v1)
    refine go_iconst (pc := 17) (v := 1) (by decide) dX8_does_17 ?_
    refine gf_iadd (pc := 18) v4q (ti_c (v := 1) (a := 1) (by decide)) (by omega) (by omega) dX8_does_18 (fun v5 e6 => ?_)
    refine gi_put (pc := 19) (lo := 0) (hi := 3000) hv e6 (fP_X8_437 _) rfl (Nat.le_of_ble_eq_true rfl) rfl rfl (by omega) (by omega) rfl rfl (by decide) (by decide) (by decide) (by decide) dX8_does_19 (fun h7 hv7 hv7e => ?_)
    have fx7 : FX KAq h h7 := FX.pI fx hv7e (by unfold KAq; omega)
    refine go_aload_n (pc := 22) rfl dX8_does_22 ?_
    refine go_iload_n (pc := 23) rfl dX8_does_23 ?_
    refine go_iload_n (pc := 24) rfl dX8_does_24 ?_
    refine go_iconst (pc := 25) (v := 0) (by decide) dX8_does_25 ?_
    refine go_invV (pc := 26) (sl := 0) (s_X8_number_ l (d + 0) hv7 a3 (by rw [show (a3 : Int32).toInt = a3.toInt from (ti_rfl a3)]; omega) (by rw [show (a3 : Int32).toInt = a3.toInt from (ti_rfl a3)]; omega) a2 (by rw [show (a2 : Int32).toInt = a2.toInt from (ti_rfl a2)]; omega) (by rw [show (a2 : Int32).toInt = a2.toInt from (ti_rfl a2)]; omega) 0 (by rw [show (0 : Int32).toInt = 0 from (ti_c (v := 0) (a := 0) (by decide))]; omega) (by rw [show (0 : Int32).toInt = 0 from (ti_c (v := 0) (a := 0) (by decide))]; omega) (show V h7.2.1 89 (2 * a2.toInt + (0 : Int32).toInt) ≤ 1009 from by rw [VE.v (VE.of hv hv7) (c := 89) (by omega) (by omega)]; exact (by rw [show ((0 : Int32).toInt) = 0 by decide, Int.add_zero]; exact t3.2.2.2.1))) mL_X8_440 iM_X8_number_ sM_X8_number_ (hv7.sh rfl) rfl rfl rfl (Nat.le_of_ble_eq_true rfl) (show d + 0 + 2 + 1 ≤ d + 3 by omega) (show 8 + (4 + 11) + 40 * (d + 0 + 2) ≤ 40 * (d + 3) by omega) (g_c0 hv7.ln) (Nat.le_of_ble_eq_true rfl) dX8_does_26 ?_
    intro r h8 hq _
    obtain ⟨v9, rfl, v9l, v9u, rfl⟩ := hq
    refine go_istore_n (pc := 29) (Nat.le_of_ble_eq_true rfl) dX8_does_29 (go_lv (lv2 := [(0, .ref 70), (1, .int a2), (2, .int a3), (3, .int v9)]) rfl ?_)
    refine go_aload_n (pc := 30) rfl dX8_does_30 ?_
    refine go_iload_n (pc := 31) rfl dX8_does_31 ?_
    refine go_iload_n (pc := 32) rfl dX8_does_32 ?_
    refine go_iconst (pc := 33) (v := 1) (by decide) dX8_does_33 ?_
    refine go_invV (pc := 34) (sl := 0) (s_X8_number_ l (d + 0) hv7 a3 (by rw [show (a3 : Int32).toInt = a3.toInt from (ti_rfl a3)]; omega) (by rw [show (a3 : Int32).toInt = a3.toInt from (ti_rfl a3)]; omega) a2 (by rw [show (a2 : Int32).toInt = a2.toInt from (ti_rfl a2)]; omega) (by rw [show (a2 : Int32).toInt = a2.toInt from (ti_rfl a2)]; omega) 1 (by rw [show (1 : Int32).toInt = 1 from (ti_c (v := 1) (a := 1) (by decide))]; omega) (by rw [show (1 : Int32).toInt = 1 from (ti_c (v := 1) (a := 1) (by decide))]; omega) (show V h7.2.1 89 (2 * a2.toInt + (1 : Int32).toInt) ≤ 1009 from by rw [VE.v (VE.of hv hv7) (c := 89) (by omega) (by omega)]; exact (by rw [show ((1 : Int32).toInt) = 1 by decide]; exact t3.2.2.2.2))) mL_X8_440 iM_X8_number_ sM_X8_number_ (hv7.sh rfl) rfl rfl rfl (Nat.le_of_ble_eq_true rfl) (show d + 0 + 2 + 1 ≤ d + 3 by omega) (show 8 + (4 + 11) + 40 * (d + 0 + 2) ≤ 40 * (d + 3) by omega) (g_c0 hv7.ln) (Nat.le_of_ble_eq_true rfl) dX8_does_34 ?_
    intro r h10 hq _
    obtain ⟨v11, rfl, v11l, v11u, rfl⟩ := hq
    refine go_istore (pc := 37) (Nat.le_of_ble_eq_true rfl) dX8_does_37 (go_lv (lv2 := [(0, .ref 70), (1, .int a2), (2, .int a3), (3, .int v9), (4, .int v11)]) rfl ?_)
    refine go_aload_n (pc := 39) rfl dX8_does_39 ?_
    refine gi_getF (pc := 40) (q := 77) hv7 fL_X8_29 rfl (Nat.le_of_ble_eq_true rfl) rfl (hv7.rf (by decide)) dX8_does_40 ?_
    refine go_iload_n (pc := 43) rfl dX8_does_43 ?_
    refine gi_iald (pc := 44) (lo := 0) (hi := 6) (len := 260) hv7 (ti_rfl a2) rfl (by omega) (by omega) (fun _ => rfl) dX8_does_44 (fun v12 v12l v12u v12w => ?_)
    have v12V : v12.toInt = V h.2.1 77 a2.toInt := by rw [v12w, hv7.fz (c := 77) (by omega) (by omega), ← hv.fz (c := 77) (by omega) (by omega)]; rfl
    by_cases q13 : v12.toInt = 0
    ·
      refine go_tableIn (pc := 45) (tgt := 76) (off := 31) (by rw [show (v12 : Int32).toInt = v12.toInt from (ti_rfl v12)]; omega) (by rw [show (v12 : Int32).toInt = v12.toInt from (ti_rfl v12)]; omega) (by rw [show (v12 : Int32).toInt = v12.toInt from (ti_rfl v12), q13]; rfl) (by decide) dX8_does_45 ?_
      refine go_aload_n (pc := 76) rfl dX8_does_76 ?_
      refine gi_getF (pc := 77) (q := 83) hv7 fL_X8_47 rfl (Nat.le_of_ble_eq_true rfl) rfl (hv7.rf (by decide)) dX8_does_77 ?_
      refine go_iload_n (pc := 80) rfl dX8_does_80 ?_
      refine gi_iald (pc := 81) (lo := -2147483648) (hi := 2147483647) (len := 260) hv7 (ti_rfl a2) rfl (by omega) (by omega) (fun _ => rfl) dX8_does_81 (fun v14 v14l v14u v14w => ?_)
      have v14V : v14.toInt = V h.2.1 83 a2.toInt := by rw [v14w, hv7.fz (c := 83) (by omega) (by omega), ← hv.fz (c := 83) (by omega) (by omega)]; rfl
      refine gf_if_ne (pc := 82) (tgt := 89) (ti_rfl v14) (by decide) dX8_does_82 (fun q15 => ?_) (fun q15 => ?_)
      ·
        refine go_aload_n (pc := 89) rfl dX8_does_89 ?_
        refine gi_getF (pc := 90) (q := 83) hv7 fL_X8_47 rfl (Nat.le_of_ble_eq_true rfl) rfl (hv7.rf (by decide)) dX8_does_90 ?_
        refine go_iload_n (pc := 93) rfl dX8_does_93 ?_
        refine gi_iald (pc := 94) (lo := -2147483648) (hi := 2147483647) (len := 260) hv7 (ti_rfl a2) rfl (by omega) (by omega) (fun _ => rfl) dX8_does_94 (fun v16 v16l v16u v16w => ?_)
        have v16V : v16.toInt = V h.2.1 83 a2.toInt := by rw [v16w, hv7.fz (c := 83) (by omega) (by omega), ← hv.fz (c := 83) (by omega) (by omega)]; rfl
        refine go_iload_n (pc := 95) rfl dX8_does_95 ?_
        refine go_iload (pc := 96) rfl dX8_does_96 ?_
        refine go_invS (pc := 98) (sl := 0) (s_X8_worked l (d + 1) hv7 v16 v9 v11) mL_X8_442 iM_X8_worked rfl rfl (Nat.le_of_ble_eq_true rfl) (show d + 1 + 1 + 1 ≤ d + 3 by omega) (show 8 + (3 + 11) + 40 * (d + 1 + 1) ≤ 40 * (d + 3) by omega) (g_c0 hv7.ln) (Nat.le_of_ble_eq_true rfl) dX8_does_98 ?_
        intro r h17 hq _
        obtain ⟨v18, rfl, v18l, v18u, rfl⟩ := hq
        refine go_istore (pc := 101) (Nat.le_of_ble_eq_true rfl) dX8_does_101 (go_lv (lv2 := [(0, .ref 70), (1, .int a2), (2, .int a3), (3, .int v9), (4, .int v11), (5, .int v18)]) rfl ?_)
        refine go_aload_n (pc := 103) rfl dX8_does_103 ?_
        refine go_iload_n (pc := 104) rfl dX8_does_104 ?_
        refine go_aload_n (pc := 105) rfl dX8_does_105 ?_
        refine gi_getF (pc := 106) (q := 82) hv7 fL_X8_44 rfl (Nat.le_of_ble_eq_true rfl) rfl (hv7.rf (by decide)) dX8_does_106 ?_
        refine go_iload_n (pc := 109) rfl dX8_does_109 ?_
        refine gi_iald (pc := 110) (lo := -1) (hi := 9) (len := 260) hv7 (ti_rfl a2) rfl (by omega) (by omega) (fun _ => rfl) dX8_does_110 (fun v19 v19l v19u v19w => ?_)
        have v19V : v19.toInt = V h.2.1 82 a2.toInt := by rw [v19w, hv7.fz (c := 82) (by omega) (by omega), ← hv.fz (c := 82) (by omega) (by omega)]; rfl
        refine go_iload (pc := 111) rfl dX8_does_111 ?_
        have k9 : 0 ≤ v19.toInt := by have q := t3.2.1 (by omega); omega
        have g20 : (0 : Int) ≤ (h7.2.1 70 53).toInt := (hv7.2.1 70 53).1
        have g21 : (h7.2.1 70 53).toInt ≤ 3000 := (hv7.2.1 70 53).2
        have g22 : (h7.2.1 70 53).toInt = (v1.toInt + 1) := by rw [← (show v5 = h7.2.1 70 53 from (show v5 = h7.2.1 70 53 from by rw [hv7e]; exact g_iS.symm))] <;> exact e6
        refine go_invV (pc := 113) (sl := 0) (s_X8_tellsName_x_f l (d + 1) hv7 a3 (by rw [show (a3 : Int32).toInt = a3.toInt from (ti_rfl a3)]; omega) (by rw [show (a3 : Int32).toInt = a3.toInt from (ti_rfl a3)]; omega) v19 (by rw [show (v19 : Int32).toInt = v19.toInt from (ti_rfl v19)]; omega) (by rw [show (v19 : Int32).toInt = v19.toInt from (ti_rfl v19)]; omega) v18) mL_X8_445 iM_X8_tellsName sM_X8_tellsName (hv7.sh rfl) rfl rfl rfl (Nat.le_of_ble_eq_true rfl) (show d + 1 + 1 + 1 ≤ d + 3 by omega) (show 8 + (4 + 11) + 40 * (d + 1 + 1) ≤ 40 * (d + 3) by omega) (g_c0 hv7.ln) (Nat.le_of_ble_eq_true rfl) dX8_does_113 ?_
        intro r h23 hq _
        obtain ⟨rfl, hv23, f24, f25⟩ := hq
        have fx23 : FX KAq h h23 := FX.tr fx7 f25
        obtain ⟨u26, u26w⟩ : ∃ v : Int32, v = h23.2.1 70 53 := ⟨_, rfl⟩
        have u26e : (h23.2.1 70 53).toInt = u26.toInt := by rw [u26w]
        have u26l : 0 ≤ u26.toInt := by rw [u26w]; exact (hv23.2.1 70 53).1
        have u26u : u26.toInt ≤ 3000 := by rw [u26w]; exact (hv23.2.1 70 53).2
        refine go_aload_n (pc := 116) rfl dX8_does_116 ?_
        refine go_iload_n (pc := 117) rfl dX8_does_117 ?_
        refine go_iload (pc := 118) rfl dX8_does_118 ?_
        have g27 : (0 : Int) ≤ (h23.2.1 70 53).toInt := (hv23.2.1 70 53).1
        have g28 : (h23.2.1 70 53).toInt ≤ 3000 := (hv23.2.1 70 53).2
        have g29 : (h23.2.1 70 53).toInt = u26.toInt := by rw [← (show u26 = h23.2.1 70 53 from u26w)] <;> exact (ti_rfl u26)
        refine go_invV (pc := 120) (sl := 0) (s_X8_sees_x_f l (d + 1) hv23 a2 (by rw [show (a2 : Int32).toInt = a2.toInt from (ti_rfl a2)]; omega) (by rw [show (a2 : Int32).toInt = a2.toInt from (ti_rfl a2)]; omega) v18) mL_X8_448 iM_X8_sees sM_X8_sees (hv23.sh rfl) rfl rfl rfl (Nat.le_of_ble_eq_true rfl) (show d + 1 + 1 + 1 ≤ d + 3 by omega) (show 8 + (3 + 11) + 40 * (d + 1 + 1) ≤ 40 * (d + 3) by omega) (g_c0 hv23.ln) (Nat.le_of_ble_eq_true rfl) dX8_does_120 ?_
        intro r h30 hq _
        obtain ⟨rfl, hv30, f31, f32⟩ := hq
        have fx30 : FX KAq h h30 := FX.tr fx23 f32
        obtain ⟨u33, u33w⟩ : ∃ v : Int32, v = h30.2.1 70 53 := ⟨_, rfl⟩
        have u33e : (h30.2.1 70 53).toInt = u33.toInt := by rw [u33w]
        have u33l : 0 ≤ u33.toInt := by rw [u33w]; exact (hv30.2.1 70 53).1
        have u33u : u33.toInt ≤ 3000 := by rw [u33w]; exact (hv30.2.1 70 53).2
        refine go_iconst (pc := 123) (v := 0) (by decide) dX8_does_123 ?_
        have g34 : (0 : Int) ≤ (h30.2.1 70 53).toInt := (hv30.2.1 70 53).1
        have g35 : (h30.2.1 70 53).toInt ≤ 3000 := (hv30.2.1 70 53).2
        have g36 : (h30.2.1 70 53).toInt = u33.toInt := by rw [← (show u33 = h30.2.1 70 53 from u33w)] <;> exact (ti_rfl u33)
        exact gi_iret (pc := 124) (ti_c (v := 0) (a := 0) (by decide)) ⟨_, rfl, (by rw [show (0 : Int32).toInt = 0 from (ti_c (v := 0) (a := 0) (by decide))]; omega), (by rw [show (0 : Int32).toInt = 0 from (ti_c (v := 0) (a := 0) (by decide))]; omega), hv30, (by omega), fx30⟩ hv30 dX8_does_124
      ·
        refine go_iload_n (pc := 85) rfl dX8_does_85 ?_
        refine go_goto (pc := 86) (tgt := 101) (by decide) dX8_does_86 ?_
        refine go_istore (pc := 101) (Nat.le_of_ble_eq_true rfl) dX8_does_101 (go_lv (lv2 := [(0, .ref 70), (1, .int a2), (2, .int a3), (3, .int v9), (4, .int v11), (5, .int v9)]) rfl ?_)
        refine go_aload_n (pc := 103) rfl dX8_does_103 ?_
        refine go_iload_n (pc := 104) rfl dX8_does_104 ?_
        refine go_aload_n (pc := 105) rfl dX8_does_105 ?_
        refine gi_getF (pc := 106) (q := 82) hv7 fL_X8_44 rfl (Nat.le_of_ble_eq_true rfl) rfl (hv7.rf (by decide)) dX8_does_106 ?_
        refine go_iload_n (pc := 109) rfl dX8_does_109 ?_
        refine gi_iald (pc := 110) (lo := -1) (hi := 9) (len := 260) hv7 (ti_rfl a2) rfl (by omega) (by omega) (fun _ => rfl) dX8_does_110 (fun v37 v37l v37u v37w => ?_)
        have v37V : v37.toInt = V h.2.1 82 a2.toInt := by rw [v37w, hv7.fz (c := 82) (by omega) (by omega), ← hv.fz (c := 82) (by omega) (by omega)]; rfl
        refine go_iload (pc := 111) rfl dX8_does_111 ?_
        have k9 : 0 ≤ v37.toInt := by have q := t3.2.1 (by omega); omega
        have g38 : (0 : Int) ≤ (h7.2.1 70 53).toInt := (hv7.2.1 70 53).1
        have g39 : (h7.2.1 70 53).toInt ≤ 3000 := (hv7.2.1 70 53).2
        have g40 : (h7.2.1 70 53).toInt = (v1.toInt + 1) := by rw [← (show v5 = h7.2.1 70 53 from (show v5 = h7.2.1 70 53 from by rw [hv7e]; exact g_iS.symm))] <;> exact e6
        refine go_invV (pc := 113) (sl := 0) (s_X8_tellsName_x_f l (d + 1) hv7 a3 (by rw [show (a3 : Int32).toInt = a3.toInt from (ti_rfl a3)]; omega) (by rw [show (a3 : Int32).toInt = a3.toInt from (ti_rfl a3)]; omega) v37 (by rw [show (v37 : Int32).toInt = v37.toInt from (ti_rfl v37)]; omega) (by rw [show (v37 : Int32).toInt = v37.toInt from (ti_rfl v37)]; omega) v9) mL_X8_445 iM_X8_tellsName sM_X8_tellsName (hv7.sh rfl) rfl rfl rfl (Nat.le_of_ble_eq_true rfl) (show d + 1 + 1 + 1 ≤ d + 3 by omega) (show 8 + (4 + 11) + 40 * (d + 1 + 1) ≤ 40 * (d + 3) by omega) (g_c0 hv7.ln) (Nat.le_of_ble_eq_true rfl) dX8_does_113 ?_
        intro r h41 hq _
        obtain ⟨rfl, hv41, f42, f43⟩ := hq
        have fx41 : FX KAq h h41 := FX.tr fx7 f43
        obtain ⟨u44, u44w⟩ : ∃ v : Int32, v = h41.2.1 70 53 := ⟨_, rfl⟩
        have u44e : (h41.2.1 70 53).toInt = u44.toInt := by rw [u44w]
        have u44l : 0 ≤ u44.toInt := by rw [u44w]; exact (hv41.2.1 70 53).1
        have u44u : u44.toInt ≤ 3000 := by rw [u44w]; exact (hv41.2.1 70 53).2
        refine go_aload_n (pc := 116) rfl dX8_does_116 ?_
        refine go_iload_n (pc := 117) rfl dX8_does_117 ?_
        refine go_iload (pc := 118) rfl dX8_does_118 ?_
        have g45 : (0 : Int) ≤ (h41.2.1 70 53).toInt := (hv41.2.1 70 53).1
        have g46 : (h41.2.1 70 53).toInt ≤ 3000 := (hv41.2.1 70 53).2
        have g47 : (h41.2.1 70 53).toInt = u44.toInt := by rw [← (show u44 = h41.2.1 70 53 from u44w)] <;> exact (ti_rfl u44)
        refine go_invV (pc := 120) (sl := 0) (s_X8_sees_x_f l (d + 1) hv41 a2 (by rw [show (a2 : Int32).toInt = a2.toInt from (ti_rfl a2)]; omega) (by rw [show (a2 : Int32).toInt = a2.toInt from (ti_rfl a2)]; omega) v9) mL_X8_448 iM_X8_sees sM_X8_sees (hv41.sh rfl) rfl rfl rfl (Nat.le_of_ble_eq_true rfl) (show d + 1 + 1 + 1 ≤ d + 3 by omega) (show 8 + (3 + 11) + 40 * (d + 1 + 1) ≤ 40 * (d + 3) by omega) (g_c0 hv41.ln) (Nat.le_of_ble_eq_true rfl) dX8_does_120 ?_
        intro r h48 hq _
        obtain ⟨rfl, hv48, f49, f50⟩ := hq
        have fx48 : FX KAq h h48 := FX.tr fx41 f50
        obtain ⟨u51, u51w⟩ : ∃ v : Int32, v = h48.2.1 70 53 := ⟨_, rfl⟩
        have u51e : (h48.2.1 70 53).toInt = u51.toInt := by rw [u51w]
        have u51l : 0 ≤ u51.toInt := by rw [u51w]; exact (hv48.2.1 70 53).1
        have u51u : u51.toInt ≤ 3000 := by rw [u51w]; exact (hv48.2.1 70 53).2
        refine go_iconst (pc := 123) (v := 0) (by decide) dX8_does_123 ?_
        have g52 : (0 : Int) ≤ (h48.2.1 70 53).toInt := (hv48.2.1 70 53).1
        have g53 : (h48.2.1 70 53).toInt ≤ 3000 := (hv48.2.1 70 53).2
        have g54 : (h48.2.1 70 53).toInt = u51.toInt := by rw [← (show u51 = h48.2.1 70 53 from u51w)] <;> exact (ti_rfl u51)
        exact gi_iret (pc := 124) (ti_c (v := 0) (a := 0) (by decide)) ⟨_, rfl, (by rw [show (0 : Int32).toInt = 0 from (ti_c (v := 0) (a := 0) (by decide))]; omega), (by rw [show (0 : Int32).toInt = 0 from (ti_c (v := 0) (a := 0) (by decide))]; omega), hv48, (by omega), fx48⟩ hv48 dX8_does_124
    by_cases q55 : v12.toInt = 1
    ·
      refine go_tableIn (pc := 45) (tgt := 125) (off := 80) (by rw [show (v12 : Int32).toInt = v12.toInt from (ti_rfl v12)]; omega) (by rw [show (v12 : Int32).toInt = v12.toInt from (ti_rfl v12)]; omega) (by rw [show (v12 : Int32).toInt = v12.toInt from (ti_rfl v12), q55]; rfl) (by decide) dX8_does_45 ?_
      refine go_aload_n (pc := 125) rfl dX8_does_125 ?_
      refine go_iload_n (pc := 126) rfl dX8_does_126 ?_
      refine go_iload_n (pc := 127) rfl dX8_does_127 ?_
      refine go_iload_n (pc := 128) rfl dX8_does_128 ?_
      refine go_iload (pc := 129) rfl dX8_does_129 ?_
      have sM56 : (h7.2.1 70 6).toInt = S := by rw [hv7.fy (j := 6) (by omega), ← hv.fy (j := 6) (by omega)]; exact hS.symm
      have g57 : (0 : Int) ≤ (h7.2.1 70 53).toInt := (hv7.2.1 70 53).1
      have g58 : (h7.2.1 70 53).toInt ≤ 3000 := (hv7.2.1 70 53).2
      have g59 : (h7.2.1 70 53).toInt = (v1.toInt + 1) := by rw [← (show v5 = h7.2.1 70 53 from (show v5 = h7.2.1 70 53 from by rw [hv7e]; exact g_iS.symm))] <;> exact e6
      refine go_invV (pc := 131) (sl := 0) (ihC hv7 a2 (by rw [show (a2 : Int32).toInt = a2.toInt from (ti_rfl a2)]; omega) (by rw [show (a2 : Int32).toInt = a2.toInt from (ti_rfl a2)]; omega) a3 (by rw [show (a3 : Int32).toInt = a3.toInt from (ti_rfl a3)]; omega) (by rw [show (a3 : Int32).toInt = a3.toInt from (ti_rfl a3)]; omega) v9 v11 (by rw [sM56]; exact (RT2.ve (VE.of hv hv7) hr)) (by rw [sM56]; exact (by rw [hv7.fy (j := 29) (by omega), ← hv.fy (j := 29) (by omega)]; exact hl)) (CKF.ve (VE.of hv hv7) ckf) (by rw [sM56]; exact ((II.ve (VE.of hv hv7)).mpr hi)) (by rw [VE.v (VE.of hv hv7) (c := 77) (by omega) (by omega)]; omega) (by omega)) mL_X8_451 iM_X8_calls_ sM_X8_calls_ (hv7.sh rfl) rfl rfl rfl (Nat.le_of_ble_eq_true rfl) (show d + 2 + 1 ≤ d + 3 by omega) (show 8 + (6 + 11) + 40 * (d + 2) ≤ 40 * (d + 3) by omega) (g_c0 hv7.ln) (Nat.le_of_ble_eq_true rfl) dX8_does_131 ?_
      intro r h60 hq _
      obtain ⟨v63, rfl, v63l, v63u, hv60, f61, f62⟩ := hq
      have fx60 : FX KAq h h60 := FX.tr fx7 f62
      obtain ⟨u64, u64w⟩ : ∃ v : Int32, v = h60.2.1 70 53 := ⟨_, rfl⟩
      have u64e : (h60.2.1 70 53).toInt = u64.toInt := by rw [u64w]
      have u64l : 0 ≤ u64.toInt := by rw [u64w]; exact (hv60.2.1 70 53).1
      have u64u : u64.toInt ≤ 3000 := by rw [u64w]; exact (hv60.2.1 70 53).2
      have g65 : (0 : Int) ≤ (h60.2.1 70 53).toInt := (hv60.2.1 70 53).1
      have g66 : (h60.2.1 70 53).toInt ≤ 3000 := (hv60.2.1 70 53).2
      have g67 : (h60.2.1 70 53).toInt = u64.toInt := by rw [← (show u64 = h60.2.1 70 53 from u64w)] <;> exact (ti_rfl u64)
      exact gi_iret (pc := 134) (ti_rfl v63) ⟨_, rfl, (by rw [show (v63 : Int32).toInt = v63.toInt from (ti_rfl v63)]; omega), (by rw [show (v63 : Int32).toInt = v63.toInt from (ti_rfl v63)]; omega), hv60, (by omega), fx60⟩ hv60 dX8_does_134
    by_cases q68 : v12.toInt = 2
    ·
      refine go_tableIn (pc := 45) (tgt := 135) (off := 90) (by rw [show (v12 : Int32).toInt = v12.toInt from (ti_rfl v12)]; omega) (by rw [show (v12 : Int32).toInt = v12.toInt from (ti_rfl v12)]; omega) (by rw [show (v12 : Int32).toInt = v12.toInt from (ti_rfl v12), q68]; rfl) (by decide) dX8_does_45 ?_
      refine go_aload_n (pc := 135) rfl dX8_does_135 ?_
      refine go_iload_n (pc := 136) rfl dX8_does_136 ?_
      refine go_iload_n (pc := 137) rfl dX8_does_137 ?_
      refine go_iload (pc := 138) rfl dX8_does_138 ?_
      refine gf_icmp_ge (pc := 140) (tgt := 147) (ti_rfl v9) (ti_rfl v11) (by decide) dX8_does_140 (fun q69 => ?_) (fun q69 => ?_)
      ·
        refine go_iconst (pc := 147) (v := 0) (by decide) dX8_does_147 ?_
        have g70 : (0 : Int) ≤ (h7.2.1 70 53).toInt := (hv7.2.1 70 53).1
        have g71 : (h7.2.1 70 53).toInt ≤ 3000 := (hv7.2.1 70 53).2
        have g72 : (h7.2.1 70 53).toInt = (v1.toInt + 1) := by rw [← (show v5 = h7.2.1 70 53 from (show v5 = h7.2.1 70 53 from by rw [hv7e]; exact g_iS.symm))] <;> exact e6
        refine go_invV (pc := 148) (sl := 0) (s_X8_sees_x_f l (d + 1) hv7 a2 (by rw [show (a2 : Int32).toInt = a2.toInt from (ti_rfl a2)]; omega) (by rw [show (a2 : Int32).toInt = a2.toInt from (ti_rfl a2)]; omega) 0) mL_X8_448 iM_X8_sees sM_X8_sees (hv7.sh rfl) rfl rfl rfl (Nat.le_of_ble_eq_true rfl) (show d + 1 + 1 + 1 ≤ d + 3 by omega) (show 8 + (3 + 11) + 40 * (d + 1 + 1) ≤ 40 * (d + 3) by omega) (g_c0 hv7.ln) (Nat.le_of_ble_eq_true rfl) dX8_does_148 ?_
        intro r h73 hq _
        obtain ⟨rfl, hv73, f74, f75⟩ := hq
        try rw [show (0 : Int32).toInt = 0 from (ti_c (v := 0) (a := 0) (by decide))] at f74
        try rw [show (0 : Int32).toInt = 0 from (ti_c (v := 0) (a := 0) (by decide))] at f75
        have fx73 : FX KAq h h73 := FX.tr fx7 f75
        obtain ⟨u76, u76w⟩ : ∃ v : Int32, v = h73.2.1 70 53 := ⟨_, rfl⟩
        have u76e : (h73.2.1 70 53).toInt = u76.toInt := by rw [u76w]
        have u76l : 0 ≤ u76.toInt := by rw [u76w]; exact (hv73.2.1 70 53).1
        have u76u : u76.toInt ≤ 3000 := by rw [u76w]; exact (hv73.2.1 70 53).2
        refine go_iload_n (pc := 151) rfl dX8_does_151 ?_
        refine go_iload (pc := 152) rfl dX8_does_152 ?_
        refine gf_icmp_ge (pc := 154) (tgt := 171) (ti_rfl v9) (ti_rfl v11) (by decide) dX8_does_154 (fun q77 => ?_) (fun q77 => ?_)
        ·
          refine go_aload_n (pc := 171) rfl dX8_does_171 ?_
          refine gi_getF (pc := 172) (q := 86) hv73 fL_X8_56 rfl (Nat.le_of_ble_eq_true rfl) rfl (hv73.rf (by decide)) dX8_does_172 ?_
          refine go_iload_n (pc := 175) rfl dX8_does_175 ?_
          refine gi_iald (pc := 176) (lo := -1) (hi := 559) (len := 260) hv73 (ti_rfl a2) rfl (by omega) (by omega) (fun _ => rfl) dX8_does_176 (fun v78 v78l v78u v78w => ?_)
          have v78V : v78.toInt = V h.2.1 86 a2.toInt := by rw [v78w, hv73.fz (c := 86) (by omega) (by omega), ← hv.fz (c := 86) (by omega) (by omega)]; rfl
          refine go_iconst (pc := 177) (v := (-1)) (by decide) dX8_does_177 ?_
          refine gf_icmp_ne (pc := 178) (tgt := 185) (ti_rfl v78) (ti_c (v := (-1)) (a := (-1)) (by decide)) (by decide) dX8_does_178 (fun q79 => ?_) (fun q79 => ?_)
          ·
            refine go_aload_n (pc := 185) rfl dX8_does_185 ?_
            refine go_aload_n (pc := 186) rfl dX8_does_186 ?_
            refine gi_getF (pc := 187) (q := 86) hv73 fL_X8_56 rfl (Nat.le_of_ble_eq_true rfl) rfl (hv73.rf (by decide)) dX8_does_187 ?_
            refine go_iload_n (pc := 190) rfl dX8_does_190 ?_
            refine gi_iald (pc := 191) (lo := -1) (hi := 559) (len := 260) hv73 (ti_rfl a2) rfl (by omega) (by omega) (fun _ => rfl) dX8_does_191 (fun v80 v80l v80u v80w => ?_)
            have v80V : v80.toInt = V h.2.1 86 a2.toInt := by rw [v80w, hv73.fz (c := 86) (by omega) (by omega), ← hv.fz (c := 86) (by omega) (by omega)]; rfl
            refine go_iload_n (pc := 192) rfl dX8_does_192 ?_
            rcases (hr.1.1.2.2.2.2.1 a2.toInt hi).2 with t481 | t481
            · exact False.elim (by omega)
            have sM82 : (h73.2.1 70 6).toInt = S := by rw [hv73.fy (j := 6) (by omega), ← hv.fy (j := 6) (by omega)]; exact hS.symm
            have g83 : (0 : Int) ≤ (h73.2.1 70 53).toInt := (hv73.2.1 70 53).1
            have g84 : (h73.2.1 70 53).toInt ≤ 3000 := (hv73.2.1 70 53).2
            have g85 : (h73.2.1 70 53).toInt = u76.toInt := by rw [← (show u76 = h73.2.1 70 53 from u76w)] <;> exact (ti_rfl u76)
            refine go_invV (pc := 193) (sl := 0) (ihG hv73 v80 (by rw [show (v80 : Int32).toInt = v80.toInt from (ti_rfl v80)]; omega) (by rw [show (v80 : Int32).toInt = v80.toInt from (ti_rfl v80)]; omega) a3 (by rw [show (a3 : Int32).toInt = a3.toInt from (ti_rfl a3)]; omega) (by rw [show (a3 : Int32).toInt = a3.toInt from (ti_rfl a3)]; omega) (by rw [sM82]; exact (RT2.ve (VE.of hv hv73) hr)) (by rw [sM82]; exact (by rw [hv73.fy (j := 29) (by omega), ← hv.fy (j := 29) (by omega)]; exact hl)) (CKF.ve (VE.of hv hv73) ckf) (by rw [sM82]; exact (by rw [v80V]; exact (BB.ve (VE.of hv hv73)).mpr t481.1)) (by rw [v80V, VE.v (VE.of hv hv73) (c := 92) (by omega) (by omega), t481.2]; exact ⟨fun q => by omega, fun q => by rw [VE.v (VE.of hv hv73) (c := 80) (by omega) (by omega)]; omega⟩)) mL_X8_431 iM_X8_goesBlock sM_X8_goesBlock (hv73.sh rfl) rfl rfl rfl (Nat.le_of_ble_eq_true rfl) (show d + 2 + 1 ≤ d + 3 by omega) (show 8 + (5 + 11) + 40 * (d + 2) ≤ 40 * (d + 3) by omega) (g_c0 hv73.ln) (Nat.le_of_ble_eq_true rfl) dX8_does_193 ?_
            intro r h86 hq _
            obtain ⟨v89, rfl, v89l, v89u, hv86, f87, f88⟩ := hq
            have fx86 : FX KAq h h86 := FX.tr fx73 f88
            obtain ⟨u90, u90w⟩ : ∃ v : Int32, v = h86.2.1 70 53 := ⟨_, rfl⟩
            have u90e : (h86.2.1 70 53).toInt = u90.toInt := by rw [u90w]
            have u90l : 0 ≤ u90.toInt := by rw [u90w]; exact (hv86.2.1 70 53).1
            have u90u : u90.toInt ≤ 3000 := by rw [u90w]; exact (hv86.2.1 70 53).2
            have g91 : (0 : Int) ≤ (h86.2.1 70 53).toInt := (hv86.2.1 70 53).1
            have g92 : (h86.2.1 70 53).toInt ≤ 3000 := (hv86.2.1 70 53).2
            have g93 : (h86.2.1 70 53).toInt = u90.toInt := by rw [← (show u90 = h86.2.1 70 53 from u90w)] <;> exact (ti_rfl u90)
            exact gi_iret (pc := 196) (ti_rfl v89) ⟨_, rfl, (by rw [show (v89 : Int32).toInt = v89.toInt from (ti_rfl v89)]; omega), (by rw [show (v89 : Int32).toInt = v89.toInt from (ti_rfl v89)]; omega), hv86, (by omega), fx86⟩ hv86 dX8_does_196
          ·
            refine go_iconst (pc := 181) (v := 0) (by decide) dX8_does_181 ?_
            refine go_goto (pc := 182) (tgt := 196) (by decide) dX8_does_182 ?_
            have g94 : (0 : Int) ≤ (h73.2.1 70 53).toInt := (hv73.2.1 70 53).1
            have g95 : (h73.2.1 70 53).toInt ≤ 3000 := (hv73.2.1 70 53).2
            have g96 : (h73.2.1 70 53).toInt = u76.toInt := by rw [← (show u76 = h73.2.1 70 53 from u76w)] <;> exact (ti_rfl u76)
            exact gi_iret (pc := 196) (ti_c (v := 0) (a := 0) (by decide)) ⟨_, rfl, (by rw [show (0 : Int32).toInt = 0 from (ti_c (v := 0) (a := 0) (by decide))]; omega), (by rw [show (0 : Int32).toInt = 0 from (ti_c (v := 0) (a := 0) (by decide))]; omega), hv73, (by omega), fx73⟩ hv73 dX8_does_196
        ·
          refine go_aload_n (pc := 157) rfl dX8_does_157 ?_
          refine go_aload_n (pc := 158) rfl dX8_does_158 ?_
          refine gi_getF (pc := 159) (q := 85) hv73 fL_X8_53 rfl (Nat.le_of_ble_eq_true rfl) rfl (hv73.rf (by decide)) dX8_does_159 ?_
          refine go_iload_n (pc := 162) rfl dX8_does_162 ?_
          refine gi_iald (pc := 163) (lo := -1) (hi := 559) (len := 260) hv73 (ti_rfl a2) rfl (by omega) (by omega) (fun _ => rfl) dX8_does_163 (fun v97 v97l v97u v97w => ?_)
          have v97V : v97.toInt = V h.2.1 85 a2.toInt := by rw [v97w, hv73.fz (c := 85) (by omega) (by omega), ← hv.fz (c := 85) (by omega) (by omega)]; rfl
          refine go_iload_n (pc := 164) rfl dX8_does_164 ?_
          have c23 := cc.2 (by omega)
          rcases (hr.1.1.2.2.2.2.1 a2.toInt hi).1 with t498 | t498
          · exact False.elim (by omega)
          have sM99 : (h73.2.1 70 6).toInt = S := by rw [hv73.fy (j := 6) (by omega), ← hv.fy (j := 6) (by omega)]; exact hS.symm
          have g100 : (0 : Int) ≤ (h73.2.1 70 53).toInt := (hv73.2.1 70 53).1
          have g101 : (h73.2.1 70 53).toInt ≤ 3000 := (hv73.2.1 70 53).2
          have g102 : (h73.2.1 70 53).toInt = u76.toInt := by rw [← (show u76 = h73.2.1 70 53 from u76w)] <;> exact (ti_rfl u76)
          refine go_invV (pc := 165) (sl := 0) (ihG hv73 v97 (by rw [show (v97 : Int32).toInt = v97.toInt from (ti_rfl v97)]; omega) (by rw [show (v97 : Int32).toInt = v97.toInt from (ti_rfl v97)]; omega) a3 (by rw [show (a3 : Int32).toInt = a3.toInt from (ti_rfl a3)]; omega) (by rw [show (a3 : Int32).toInt = a3.toInt from (ti_rfl a3)]; omega) (by rw [sM99]; exact (RT2.ve (VE.of hv hv73) hr)) (by rw [sM99]; exact (by rw [hv73.fy (j := 29) (by omega), ← hv.fy (j := 29) (by omega)]; exact hl)) (CKF.ve (VE.of hv hv73) ckf) (by rw [sM99]; exact (by rw [v97V]; exact (BB.ve (VE.of hv hv73)).mpr t498.1)) (by rw [v97V, VE.v (VE.of hv hv73) (c := 92) (by omega) (by omega), t498.2]; exact ⟨fun q => by omega, fun q => by rw [VE.v (VE.of hv hv73) (c := 80) (by omega) (by omega)]; omega⟩)) mL_X8_431 iM_X8_goesBlock sM_X8_goesBlock (hv73.sh rfl) rfl rfl rfl (Nat.le_of_ble_eq_true rfl) (show d + 2 + 1 ≤ d + 3 by omega) (show 8 + (5 + 11) + 40 * (d + 2) ≤ 40 * (d + 3) by omega) (g_c0 hv73.ln) (Nat.le_of_ble_eq_true rfl) dX8_does_165 ?_
          intro r h103 hq _
          obtain ⟨v106, rfl, v106l, v106u, hv103, f104, f105⟩ := hq
          have fx103 : FX KAq h h103 := FX.tr fx73 f105
          obtain ⟨u107, u107w⟩ : ∃ v : Int32, v = h103.2.1 70 53 := ⟨_, rfl⟩
          have u107e : (h103.2.1 70 53).toInt = u107.toInt := by rw [u107w]
          have u107l : 0 ≤ u107.toInt := by rw [u107w]; exact (hv103.2.1 70 53).1
          have u107u : u107.toInt ≤ 3000 := by rw [u107w]; exact (hv103.2.1 70 53).2
          refine go_goto (pc := 168) (tgt := 196) (by decide) dX8_does_168 ?_
          have g108 : (0 : Int) ≤ (h103.2.1 70 53).toInt := (hv103.2.1 70 53).1
          have g109 : (h103.2.1 70 53).toInt ≤ 3000 := (hv103.2.1 70 53).2
          have g110 : (h103.2.1 70 53).toInt = u107.toInt := by rw [← (show u107 = h103.2.1 70 53 from u107w)] <;> exact (ti_rfl u107)
          exact gi_iret (pc := 196) (ti_rfl v106) ⟨_, rfl, (by rw [show (v106 : Int32).toInt = v106.toInt from (ti_rfl v106)]; omega), (by rw [show (v106 : Int32).toInt = v106.toInt from (ti_rfl v106)]; omega), hv103, (by omega), fx103⟩ hv103 dX8_does_196
      ·
        refine go_iconst (pc := 143) (v := 1) (by decide) dX8_does_143 ?_
        refine go_goto (pc := 144) (tgt := 148) (by decide) dX8_does_144 ?_
        have g111 : (0 : Int) ≤ (h7.2.1 70 53).toInt := (hv7.2.1 70 53).1
        have g112 : (h7.2.1 70 53).toInt ≤ 3000 := (hv7.2.1 70 53).2
        have g113 : (h7.2.1 70 53).toInt = (v1.toInt + 1) := by rw [← (show v5 = h7.2.1 70 53 from (show v5 = h7.2.1 70 53 from by rw [hv7e]; exact g_iS.symm))] <;> exact e6
        refine go_invV (pc := 148) (sl := 0) (s_X8_sees_x_f l (d + 1) hv7 a2 (by rw [show (a2 : Int32).toInt = a2.toInt from (ti_rfl a2)]; omega) (by rw [show (a2 : Int32).toInt = a2.toInt from (ti_rfl a2)]; omega) 1) mL_X8_448 iM_X8_sees sM_X8_sees (hv7.sh rfl) rfl rfl rfl (Nat.le_of_ble_eq_true rfl) (show d + 1 + 1 + 1 ≤ d + 3 by omega) (show 8 + (3 + 11) + 40 * (d + 1 + 1) ≤ 40 * (d + 3) by omega) (g_c0 hv7.ln) (Nat.le_of_ble_eq_true rfl) dX8_does_148 ?_
        intro r h114 hq _
        obtain ⟨rfl, hv114, f115, f116⟩ := hq
        try rw [show (1 : Int32).toInt = 1 from (ti_c (v := 1) (a := 1) (by decide))] at f115
        try rw [show (1 : Int32).toInt = 1 from (ti_c (v := 1) (a := 1) (by decide))] at f116
        have fx114 : FX KAq h h114 := FX.tr fx7 f116
        obtain ⟨u117, u117w⟩ : ∃ v : Int32, v = h114.2.1 70 53 := ⟨_, rfl⟩
        have u117e : (h114.2.1 70 53).toInt = u117.toInt := by rw [u117w]
        have u117l : 0 ≤ u117.toInt := by rw [u117w]; exact (hv114.2.1 70 53).1
        have u117u : u117.toInt ≤ 3000 := by rw [u117w]; exact (hv114.2.1 70 53).2
        refine go_iload_n (pc := 151) rfl dX8_does_151 ?_
        refine go_iload (pc := 152) rfl dX8_does_152 ?_
        refine gf_icmp_ge (pc := 154) (tgt := 171) (ti_rfl v9) (ti_rfl v11) (by decide) dX8_does_154 (fun q118 => ?_) (fun q118 => ?_)
        ·
          refine go_aload_n (pc := 171) rfl dX8_does_171 ?_
          refine gi_getF (pc := 172) (q := 86) hv114 fL_X8_56 rfl (Nat.le_of_ble_eq_true rfl) rfl (hv114.rf (by decide)) dX8_does_172 ?_
          refine go_iload_n (pc := 175) rfl dX8_does_175 ?_
          refine gi_iald (pc := 176) (lo := -1) (hi := 559) (len := 260) hv114 (ti_rfl a2) rfl (by omega) (by omega) (fun _ => rfl) dX8_does_176 (fun v119 v119l v119u v119w => ?_)
          have v119V : v119.toInt = V h.2.1 86 a2.toInt := by rw [v119w, hv114.fz (c := 86) (by omega) (by omega), ← hv.fz (c := 86) (by omega) (by omega)]; rfl
          refine go_iconst (pc := 177) (v := (-1)) (by decide) dX8_does_177 ?_
          refine gf_icmp_ne (pc := 178) (tgt := 185) (ti_rfl v119) (ti_c (v := (-1)) (a := (-1)) (by decide)) (by decide) dX8_does_178 (fun q120 => ?_) (fun q120 => ?_)
          ·
            refine go_aload_n (pc := 185) rfl dX8_does_185 ?_
            refine go_aload_n (pc := 186) rfl dX8_does_186 ?_
            refine gi_getF (pc := 187) (q := 86) hv114 fL_X8_56 rfl (Nat.le_of_ble_eq_true rfl) rfl (hv114.rf (by decide)) dX8_does_187 ?_
            refine go_iload_n (pc := 190) rfl dX8_does_190 ?_
            refine gi_iald (pc := 191) (lo := -1) (hi := 559) (len := 260) hv114 (ti_rfl a2) rfl (by omega) (by omega) (fun _ => rfl) dX8_does_191 (fun v121 v121l v121u v121w => ?_)
            have v121V : v121.toInt = V h.2.1 86 a2.toInt := by rw [v121w, hv114.fz (c := 86) (by omega) (by omega), ← hv.fz (c := 86) (by omega) (by omega)]; rfl
            refine go_iload_n (pc := 192) rfl dX8_does_192 ?_
            rcases (hr.1.1.2.2.2.2.1 a2.toInt hi).2 with t4122 | t4122
            · exact False.elim (by omega)
            have sM123 : (h114.2.1 70 6).toInt = S := by rw [hv114.fy (j := 6) (by omega), ← hv.fy (j := 6) (by omega)]; exact hS.symm
            have g124 : (0 : Int) ≤ (h114.2.1 70 53).toInt := (hv114.2.1 70 53).1
            have g125 : (h114.2.1 70 53).toInt ≤ 3000 := (hv114.2.1 70 53).2
            have g126 : (h114.2.1 70 53).toInt = u117.toInt := by rw [← (show u117 = h114.2.1 70 53 from u117w)] <;> exact (ti_rfl u117)
            refine go_invV (pc := 193) (sl := 0) (ihG hv114 v121 (by rw [show (v121 : Int32).toInt = v121.toInt from (ti_rfl v121)]; omega) (by rw [show (v121 : Int32).toInt = v121.toInt from (ti_rfl v121)]; omega) a3 (by rw [show (a3 : Int32).toInt = a3.toInt from (ti_rfl a3)]; omega) (by rw [show (a3 : Int32).toInt = a3.toInt from (ti_rfl a3)]; omega) (by rw [sM123]; exact (RT2.ve (VE.of hv hv114) hr)) (by rw [sM123]; exact (by rw [hv114.fy (j := 29) (by omega), ← hv.fy (j := 29) (by omega)]; exact hl)) (CKF.ve (VE.of hv hv114) ckf) (by rw [sM123]; exact (by rw [v121V]; exact (BB.ve (VE.of hv hv114)).mpr t4122.1)) (by rw [v121V, VE.v (VE.of hv hv114) (c := 92) (by omega) (by omega), t4122.2]; exact ⟨fun q => by omega, fun q => by rw [VE.v (VE.of hv hv114) (c := 80) (by omega) (by omega)]; omega⟩)) mL_X8_431 iM_X8_goesBlock sM_X8_goesBlock (hv114.sh rfl) rfl rfl rfl (Nat.le_of_ble_eq_true rfl) (show d + 2 + 1 ≤ d + 3 by omega) (show 8 + (5 + 11) + 40 * (d + 2) ≤ 40 * (d + 3) by omega) (g_c0 hv114.ln) (Nat.le_of_ble_eq_true rfl) dX8_does_193 ?_
            intro r h127 hq _
            obtain ⟨v130, rfl, v130l, v130u, hv127, f128, f129⟩ := hq
            have fx127 : FX KAq h h127 := FX.tr fx114 f129
            obtain ⟨u131, u131w⟩ : ∃ v : Int32, v = h127.2.1 70 53 := ⟨_, rfl⟩
            have u131e : (h127.2.1 70 53).toInt = u131.toInt := by rw [u131w]
            have u131l : 0 ≤ u131.toInt := by rw [u131w]; exact (hv127.2.1 70 53).1
            have u131u : u131.toInt ≤ 3000 := by rw [u131w]; exact (hv127.2.1 70 53).2
            have g132 : (0 : Int) ≤ (h127.2.1 70 53).toInt := (hv127.2.1 70 53).1
            have g133 : (h127.2.1 70 53).toInt ≤ 3000 := (hv127.2.1 70 53).2
            have g134 : (h127.2.1 70 53).toInt = u131.toInt := by rw [← (show u131 = h127.2.1 70 53 from u131w)] <;> exact (ti_rfl u131)
            exact gi_iret (pc := 196) (ti_rfl v130) ⟨_, rfl, (by rw [show (v130 : Int32).toInt = v130.toInt from (ti_rfl v130)]; omega), (by rw [show (v130 : Int32).toInt = v130.toInt from (ti_rfl v130)]; omega), hv127, (by omega), fx127⟩ hv127 dX8_does_196
          ·
            refine go_iconst (pc := 181) (v := 0) (by decide) dX8_does_181 ?_
            refine go_goto (pc := 182) (tgt := 196) (by decide) dX8_does_182 ?_
            have g135 : (0 : Int) ≤ (h114.2.1 70 53).toInt := (hv114.2.1 70 53).1
            have g136 : (h114.2.1 70 53).toInt ≤ 3000 := (hv114.2.1 70 53).2
            have g137 : (h114.2.1 70 53).toInt = u117.toInt := by rw [← (show u117 = h114.2.1 70 53 from u117w)] <;> exact (ti_rfl u117)
            exact gi_iret (pc := 196) (ti_c (v := 0) (a := 0) (by decide)) ⟨_, rfl, (by rw [show (0 : Int32).toInt = 0 from (ti_c (v := 0) (a := 0) (by decide))]; omega), (by rw [show (0 : Int32).toInt = 0 from (ti_c (v := 0) (a := 0) (by decide))]; omega), hv114, (by omega), fx114⟩ hv114 dX8_does_196
        ·
          refine go_aload_n (pc := 157) rfl dX8_does_157 ?_
          refine go_aload_n (pc := 158) rfl dX8_does_158 ?_
          refine gi_getF (pc := 159) (q := 85) hv114 fL_X8_53 rfl (Nat.le_of_ble_eq_true rfl) rfl (hv114.rf (by decide)) dX8_does_159 ?_
          refine go_iload_n (pc := 162) rfl dX8_does_162 ?_
          refine gi_iald (pc := 163) (lo := -1) (hi := 559) (len := 260) hv114 (ti_rfl a2) rfl (by omega) (by omega) (fun _ => rfl) dX8_does_163 (fun v138 v138l v138u v138w => ?_)
          have v138V : v138.toInt = V h.2.1 85 a2.toInt := by rw [v138w, hv114.fz (c := 85) (by omega) (by omega), ← hv.fz (c := 85) (by omega) (by omega)]; rfl
          refine go_iload_n (pc := 164) rfl dX8_does_164 ?_
          have c23 := cc.2 (by omega)
          rcases (hr.1.1.2.2.2.2.1 a2.toInt hi).1 with t4139 | t4139
          · exact False.elim (by omega)
          have sM140 : (h114.2.1 70 6).toInt = S := by rw [hv114.fy (j := 6) (by omega), ← hv.fy (j := 6) (by omega)]; exact hS.symm
          have g141 : (0 : Int) ≤ (h114.2.1 70 53).toInt := (hv114.2.1 70 53).1
          have g142 : (h114.2.1 70 53).toInt ≤ 3000 := (hv114.2.1 70 53).2
          have g143 : (h114.2.1 70 53).toInt = u117.toInt := by rw [← (show u117 = h114.2.1 70 53 from u117w)] <;> exact (ti_rfl u117)
          refine go_invV (pc := 165) (sl := 0) (ihG hv114 v138 (by rw [show (v138 : Int32).toInt = v138.toInt from (ti_rfl v138)]; omega) (by rw [show (v138 : Int32).toInt = v138.toInt from (ti_rfl v138)]; omega) a3 (by rw [show (a3 : Int32).toInt = a3.toInt from (ti_rfl a3)]; omega) (by rw [show (a3 : Int32).toInt = a3.toInt from (ti_rfl a3)]; omega) (by rw [sM140]; exact (RT2.ve (VE.of hv hv114) hr)) (by rw [sM140]; exact (by rw [hv114.fy (j := 29) (by omega), ← hv.fy (j := 29) (by omega)]; exact hl)) (CKF.ve (VE.of hv hv114) ckf) (by rw [sM140]; exact (by rw [v138V]; exact (BB.ve (VE.of hv hv114)).mpr t4139.1)) (by rw [v138V, VE.v (VE.of hv hv114) (c := 92) (by omega) (by omega), t4139.2]; exact ⟨fun q => by omega, fun q => by rw [VE.v (VE.of hv hv114) (c := 80) (by omega) (by omega)]; omega⟩)) mL_X8_431 iM_X8_goesBlock sM_X8_goesBlock (hv114.sh rfl) rfl rfl rfl (Nat.le_of_ble_eq_true rfl) (show d + 2 + 1 ≤ d + 3 by omega) (show 8 + (5 + 11) + 40 * (d + 2) ≤ 40 * (d + 3) by omega) (g_c0 hv114.ln) (Nat.le_of_ble_eq_true rfl) dX8_does_165 ?_
          intro r h144 hq _
          obtain ⟨v147, rfl, v147l, v147u, hv144, f145, f146⟩ := hq
          have fx144 : FX KAq h h144 := FX.tr fx114 f146
          obtain ⟨u148, u148w⟩ : ∃ v : Int32, v = h144.2.1 70 53 := ⟨_, rfl⟩
          have u148e : (h144.2.1 70 53).toInt = u148.toInt := by rw [u148w]
          have u148l : 0 ≤ u148.toInt := by rw [u148w]; exact (hv144.2.1 70 53).1
          have u148u : u148.toInt ≤ 3000 := by rw [u148w]; exact (hv144.2.1 70 53).2
          refine go_goto (pc := 168) (tgt := 196) (by decide) dX8_does_168 ?_
          have g149 : (0 : Int) ≤ (h144.2.1 70 53).toInt := (hv144.2.1 70 53).1
          have g150 : (h144.2.1 70 53).toInt ≤ 3000 := (hv144.2.1 70 53).2
          have g151 : (h144.2.1 70 53).toInt = u148.toInt := by rw [← (show u148 = h144.2.1 70 53 from u148w)] <;> exact (ti_rfl u148)
          exact gi_iret (pc := 196) (ti_rfl v147) ⟨_, rfl, (by rw [show (v147 : Int32).toInt = v147.toInt from (ti_rfl v147)]; omega), (by rw [show (v147 : Int32).toInt = v147.toInt from (ti_rfl v147)]; omega), hv144, (by omega), fx144⟩ hv144 dX8_does_196
    by_cases q152 : v12.toInt = 3
    ·
      refine go_tableIn (pc := 45) (tgt := 197) (off := 152) (by rw [show (v12 : Int32).toInt = v12.toInt from (ti_rfl v12)]; omega) (by rw [show (v12 : Int32).toInt = v12.toInt from (ti_rfl v12)]; omega) (by rw [show (v12 : Int32).toInt = v12.toInt from (ti_rfl v12), q152]; rfl) (by decide) dX8_does_45 ?_
      refine go_aload_n (pc := 197) rfl dX8_does_197 ?_
      refine go_iload_n (pc := 198) rfl dX8_does_198 ?_
      refine go_iload_n (pc := 199) rfl dX8_does_199 ?_
      have sM153 : (h7.2.1 70 6).toInt = S := by rw [hv7.fy (j := 6) (by omega), ← hv.fy (j := 6) (by omega)]; exact hS.symm
      have g154 : (0 : Int) ≤ (h7.2.1 70 53).toInt := (hv7.2.1 70 53).1
      have g155 : (h7.2.1 70 53).toInt ≤ 3000 := (hv7.2.1 70 53).2
      have g156 : (h7.2.1 70 53).toInt = (v1.toInt + 1) := by rw [← (show v5 = h7.2.1 70 53 from (show v5 = h7.2.1 70 53 from by rw [hv7e]; exact g_iS.symm))] <;> exact e6
      refine go_invV (pc := 200) (sl := 0) (ihL hv7 a2 (by rw [show (a2 : Int32).toInt = a2.toInt from (ti_rfl a2)]; omega) (by rw [show (a2 : Int32).toInt = a2.toInt from (ti_rfl a2)]; omega) a3 (by rw [show (a3 : Int32).toInt = a3.toInt from (ti_rfl a3)]; omega) (by rw [show (a3 : Int32).toInt = a3.toInt from (ti_rfl a3)]; omega) (by rw [sM153]; exact (RT2.ve (VE.of hv hv7) hr)) (by rw [sM153]; exact (by rw [hv7.fy (j := 29) (by omega), ← hv.fy (j := 29) (by omega)]; exact hl)) (CKF.ve (VE.of hv hv7) ckf) (by rw [sM153]; exact ((II.ve (VE.of hv hv7)).mpr hi)) (by rw [VE.v (VE.of hv hv7) (c := 77) (by omega) (by omega)]; omega) (by rw [VE.v (VE.of hv hv7) (c := 80) (by omega) (by omega)]; omega)) mL_X8_454 iM_X8_loops sM_X8_loops (hv7.sh rfl) rfl rfl rfl (Nat.le_of_ble_eq_true rfl) (show d + 2 + 1 ≤ d + 3 by omega) (show 8 + (5 + 11) + 40 * (d + 2) ≤ 40 * (d + 3) by omega) (g_c0 hv7.ln) (Nat.le_of_ble_eq_true rfl) dX8_does_200 ?_
      intro r h157 hq _
      obtain ⟨v160, rfl, v160l, v160u, hv157, f158, f159⟩ := hq
      have fx157 : FX KAq h h157 := FX.tr fx7 f159
      obtain ⟨u161, u161w⟩ : ∃ v : Int32, v = h157.2.1 70 53 := ⟨_, rfl⟩
      have u161e : (h157.2.1 70 53).toInt = u161.toInt := by rw [u161w]
      have u161l : 0 ≤ u161.toInt := by rw [u161w]; exact (hv157.2.1 70 53).1
      have u161u : u161.toInt ≤ 3000 := by rw [u161w]; exact (hv157.2.1 70 53).2
      have g162 : (0 : Int) ≤ (h157.2.1 70 53).toInt := (hv157.2.1 70 53).1
      have g163 : (h157.2.1 70 53).toInt ≤ 3000 := (hv157.2.1 70 53).2
      have g164 : (h157.2.1 70 53).toInt = u161.toInt := by rw [← (show u161 = h157.2.1 70 53 from u161w)] <;> exact (ti_rfl u161)
      exact gi_iret (pc := 203) (ti_rfl v160) ⟨_, rfl, (by rw [show (v160 : Int32).toInt = v160.toInt from (ti_rfl v160)]; omega), (by rw [show (v160 : Int32).toInt = v160.toInt from (ti_rfl v160)]; omega), hv157, (by omega), fx157⟩ hv157 dX8_does_203
    refine go_tableOut (pc := 45) (tgt := 204) (by rw [show (v12 : Int32).toInt = v12.toInt from (ti_rfl v12)]; omega) (by decide) dX8_does_45 ?_
    refine go_aload_n (pc := 204) rfl dX8_does_204 ?_
    refine go_iload_n (pc := 205) rfl dX8_does_205 ?_
    refine go_iload_n (pc := 206) rfl dX8_does_206 ?_
    have g165 : (0 : Int) ≤ (h7.2.1 70 53).toInt := (hv7.2.1 70 53).1
    have g166 : (h7.2.1 70 53).toInt ≤ 3000 := (hv7.2.1 70 53).2
    have g167 : (h7.2.1 70 53).toInt = (v1.toInt + 1) := by rw [← (show v5 = h7.2.1 70 53 from (show v5 = h7.2.1 70 53 from by rw [hv7e]; exact g_iS.symm))] <;> exact e6
    refine go_invV (pc := 207) (sl := 0) (s_X8_sees_x_f l (d + 1) hv7 a2 (by rw [show (a2 : Int32).toInt = a2.toInt from (ti_rfl a2)]; omega) (by rw [show (a2 : Int32).toInt = a2.toInt from (ti_rfl a2)]; omega) v9) mL_X8_448 iM_X8_sees sM_X8_sees (hv7.sh rfl) rfl rfl rfl (Nat.le_of_ble_eq_true rfl) (show d + 1 + 1 + 1 ≤ d + 3 by omega) (show 8 + (3 + 11) + 40 * (d + 1 + 1) ≤ 40 * (d + 3) by omega) (g_c0 hv7.ln) (Nat.le_of_ble_eq_true rfl) dX8_does_207 ?_
    intro r h168 hq _
    obtain ⟨rfl, hv168, f169, f170⟩ := hq
    have fx168 : FX KAq h h168 := FX.tr fx7 f170
    obtain ⟨u171, u171w⟩ : ∃ v : Int32, v = h168.2.1 70 53 := ⟨_, rfl⟩
    have u171e : (h168.2.1 70 53).toInt = u171.toInt := by rw [u171w]
    have u171l : 0 ≤ u171.toInt := by rw [u171w]; exact (hv168.2.1 70 53).1
    have u171u : u171.toInt ≤ 3000 := by rw [u171w]; exact (hv168.2.1 70 53).2
    refine go_aload_n (pc := 210) rfl dX8_does_210 ?_
    refine go_iload_n (pc := 211) rfl dX8_does_211 ?_
    refine gi_put (pc := 212) (lo := -2147483648) (hi := 2147483647) hv168 (ti_rfl v9) (fP_X8_434 _) rfl (Nat.le_of_ble_eq_true rfl) rfl rfl (ti_ge (ti_rfl v9)) (ti_le2 (ti_rfl v9)) rfl rfl (by decide) (by decide) (by decide) (by decide) dX8_does_212 (fun h172 hv172 hv172e => ?_)
    have fx172 : FX KAq h h172 := FX.pI fx168 hv172e (by unfold KAq; omega)
    refine go_aload_n (pc := 215) rfl dX8_does_215 ?_
    refine gi_getF (pc := 216) (q := 77) hv172 fL_X8_29 rfl (Nat.le_of_ble_eq_true rfl) rfl (hv172.rf (by decide)) dX8_does_216 ?_
    refine go_iload_n (pc := 219) rfl dX8_does_219 ?_
    refine gi_iald (pc := 220) (lo := 0) (hi := 6) (len := 260) hv172 (ti_rfl a2) rfl (by omega) (by omega) (fun _ => rfl) dX8_does_220 (fun v173 v173l v173u v173w => ?_)
    have v173V : v173.toInt = V h.2.1 77 a2.toInt := by rw [v173w, hv172.fz (c := 77) (by omega) (by omega), ← hv.fz (c := 77) (by omega) (by omega)]; rfl
    refine go_iconst (pc := 221) (v := 4) (by decide) dX8_does_221 ?_
    refine gf_icmp_ne (pc := 222) (tgt := 229) (ti_rfl v173) (ti_c (v := 4) (a := 4) (by decide)) (by decide) dX8_does_222 (fun q174 => ?_) (fun q174 => ?_)
    ·
      refine go_iconst (pc := 229) (v := 1) (by decide) dX8_does_229 ?_
      have g175 : (0 : Int) ≤ (h172.2.1 70 53).toInt := (hv172.2.1 70 53).1
      have g176 : (h172.2.1 70 53).toInt ≤ 3000 := (hv172.2.1 70 53).2
      have g177 : (h172.2.1 70 53).toInt = u171.toInt := by rw [← (show u171 = h172.2.1 70 53 from (show u171 = h172.2.1 70 53 from by rw [hv172e]; exact (g_iI rfl u171w.symm).symm))] <;> exact (ti_rfl u171)
      exact gi_iret (pc := 230) (ti_c (v := 1) (a := 1) (by decide)) ⟨_, rfl, (by rw [show (1 : Int32).toInt = 1 from (ti_c (v := 1) (a := 1) (by decide))]; omega), (by rw [show (1 : Int32).toInt = 1 from (ti_c (v := 1) (a := 1) (by decide))]; omega), hv172, (by omega), fx172⟩ hv172 dX8_does_230
    ·
      refine go_iconst (pc := 225) (v := 2) (by decide) dX8_does_225 ?_
      refine go_goto (pc := 226) (tgt := 230) (by decide) dX8_does_226 ?_
      have g178 : (0 : Int) ≤ (h172.2.1 70 53).toInt := (hv172.2.1 70 53).1
      have g179 : (h172.2.1 70 53).toInt ≤ 3000 := (hv172.2.1 70 53).2
      have g180 : (h172.2.1 70 53).toInt = u171.toInt := by rw [← (show u171 = h172.2.1 70 53 from (show u171 = h172.2.1 70 53 from by rw [hv172e]; exact (g_iI rfl u171w.symm).symm))] <;> exact (ti_rfl u171)
      exact gi_iret (pc := 230) (ti_c (v := 2) (a := 2) (by decide)) ⟨_, rfl, (by rw [show (2 : Int32).toInt = 2 from (ti_c (v := 2) (a := 2) (by decide))]; omega), (by rw [show (2 : Int32).toInt = 2 from (ti_c (v := 2) (a := 2) (by decide))]; omega), hv172, (by omega), fx172⟩ hv172 dX8_does_230
  ·
    refine go_iconst (pc := 10) (v := 3) (by decide) dX8_does_10 ?_
    have g181 : (0 : Int) ≤ (h.2.1 70 53).toInt := (hv.2.1 70 53).1
    have g182 : (h.2.1 70 53).toInt ≤ 3000 := (hv.2.1 70 53).2
    have g183 : (h.2.1 70 53).toInt = v1.toInt := by rw [← (show v1 = h.2.1 70 53 from v1w)] <;> exact (ti_rfl v1)
    exact gi_iret (pc := 11) (ti_c (v := 3) (a := 3) (by decide)) ⟨_, rfl, (by rw [show (3 : Int32).toInt = 3 from (ti_c (v := 3) (a := 3) (by decide))]; omega), (by rw [show (3 : Int32).toInt = 3 from (ti_c (v := 3) (a := 3) (by decide))]; omega), hv, (by omega), fx⟩ hv dX8_does_11
set_option maxHeartbeats 4000000 in
set_option maxRecDepth 100000 in
theorem s_X8_loops_b_f (l : Launch) (d : Nat) {nn : Nat} (ihG : ∀ {P : PP} {h : HP} (_ : Iv P h) (a2 : Int32) (a2l : 0 ≤ a2.toInt) (a2u : a2.toInt ≤ 559) (a3 : Int32) (a3l : 0 ≤ a3.toInt) (a3u : a3.toInt ≤ 30) (hr : RD h.2.1 (h.2.1 70 6).toInt ∧ TD h.2.1 (h.2.1 70 6).toInt) (hl : (h.2.1 70 29).toInt = (h.2.1 70 6).toInt) (ckf : CKF h.2.1) (hb : BB h.2.1 (h.2.1 70 6).toInt a2.toInt) (hg : (V h.2.1 92 a2.toInt = -1 → 30 * (30 - a3.toInt) + 24 ≤ (nn : Int)) ∧ (0 ≤ V h.2.1 92 a2.toInt → 30 * (30 - a3.toInt) + 3 * (6 - V h.2.1 80 (V h.2.1 92 a2.toInt)) + 3 ≤ (nn : Int))), Mt l yX8_goesBlock cX8_goesBlock 5 (some .int) (d + 2) [.ref 70, .int a2, .int a3] h 0 0 (fun r h' => ∃ v : Int32, r = some (.int v) ∧ 0 ≤ v.toInt ∧ v.toInt ≤ 3 ∧ Iv P h' ∧ ((h.2.1 70 53).toInt ≤ (h'.2.1 70 53).toInt) ∧ (FX KAq h h'))) {P : PP} {h : HP} (hv : Iv P h) (a2 : Int32) (a2l : 0 ≤ a2.toInt) (a2u : a2.toInt ≤ 259) (a3 : Int32) (a3l : 0 ≤ a3.toInt) (a3u : a3.toInt ≤ 30) (hr : RD h.2.1 (h.2.1 70 6).toInt ∧ TD h.2.1 (h.2.1 70 6).toInt) (hl : (h.2.1 70 29).toInt = (h.2.1 70 6).toInt) (ckf : CKF h.2.1) (hi : II h.2.1 (h.2.1 70 6).toInt a2.toInt) (hk : V h.2.1 77 a2.toInt = 3) (hg : 30 * (30 - a3.toInt) + 3 * (7 - V h.2.1 80 a2.toInt) + 1 ≤ ((nn + 1 : Nat) : Int)) : Mt l yX8_loops cX8_loops 5 (some .int) (d + 3) [.ref 70, .int a2, .int a3] h 0 0 (fun r h' => ∃ v : Int32, r = some (.int v) ∧ 0 ≤ v.toInt ∧ v.toInt ≤ 3 ∧ Iv P h' ∧ ((h.2.1 70 53).toInt ≤ (h'.2.1 70 53).toInt) ∧ (FX KAq h h')) := by
  refine Mt_iv hv (by decide) (Nat.le_of_ble_eq_true rfl) ?_
  show Go l RX8 cX8_loops 5 (g_rm (d + 3) 0 0) "loops" (some .int) 117 0 0 (fun _ _ => True) (fun r h' => ∃ v : Int32, r = some (.int v) ∧ 0 ≤ v.toInt ∧ v.toInt ≤ 3 ∧ Iv P h' ∧ ((h.2.1 70 53).toInt ≤ (h'.2.1 70 53).toInt) ∧ (FX KAq h h')) 0 0 [(0, .ref 70), (1, .int a2), (2, .int a3)] [] h
  obtain ⟨S, hS⟩ : ∃ S : Int, S = (h.2.1 70 6).toInt := ⟨_, rfl⟩
  have S0 : 0 ≤ S := by rw [hS]; exact (hv.2.1 70 6).1
  have S1 : S ≤ 1 := by rw [hS]; exact (hv.2.1 70 6).2
  rw [← hS] at hr
  rw [← hS] at hl
  rw [← hS] at hi
  have cc := (hr.1.2.1 a2.toInt hi.1 hi.2).2
  have cd := (hr.1.2.1 a2.toInt hi.1 hi.2).1
  have t3 := hr.1.1.2.2.2.1 a2.toInt hi
  have r8 : V h.2.1 80 a2.toInt ≤ 6 := (hv.2.1 80 _).2
  have fx : FX KAq h h := FX.rfl
  have key : ∀ n : Nat, (∀ (l1 : Int32) (l2 : Int32) (l3 : Int32) (hx : HP), Iv P hx → 0 ≤ l1.toInt → l1.toInt ≤ 259 → 0 ≤ l2.toInt → l2.toInt ≤ 30 → 0 ≤ l3.toInt → l3.toInt ≤ 1 → (l2.toInt = a3.toInt) → (l1.toInt = a2.toInt) → ((h.2.1 70 53).toInt ≤ (hx.2.1 70 53).toInt) → (0 : Int) ≤ (hx.2.1 70 53).toInt → (hx.2.1 70 53).toInt ≤ 3000 → FX KAq h hx → (3010 - (hx.2.1 70 53).toInt : Int) < n → Go l RX8 cX8_loops 5 (g_rm (d + 3) 0 0) "loops" (some .int) 117 0 0 (fun _ _ => True) (fun r h' => ∃ v : Int32, r = some (.int v) ∧ 0 ≤ v.toInt ∧ v.toInt ≤ 3 ∧ Iv P h' ∧ ((h.2.1 70 53).toInt ≤ (h'.2.1 70 53).toInt) ∧ (FX KAq h h')) 0 37 [(0, .ref 70), (1, .int l1), (2, .int l2), (3, .int l3)] [] hx) := by
    intro n
    induction n with
    | zero => exact (by intros; omega)
    | succ n ih =>
      refine ?_
      ·
        intro l1 l2 l3 hx hvx l1l l1u l2l l2u l3l l3u x0 x1 x2 y0l y0u fxx hm
        refine go_iload_n (pc := 37) rfl dX8_loops_37 ?_
        refine gf_if_eq (pc := 38) (tgt := 124) (ti_rfl l3) (by decide) dX8_loops_38 (fun q1 => ?_) (fun q1 => ?_)
        ·
          refine go_iconst (pc := 124) (v := 0) (by decide) dX8_loops_124 ?_
          have g2 : (0 : Int) ≤ (hx.2.1 70 53).toInt := (hvx.2.1 70 53).1
          have g3 : (hx.2.1 70 53).toInt ≤ 3000 := (hvx.2.1 70 53).2
          exact gi_iret (pc := 125) (ti_c (v := 0) (a := 0) (by decide)) ⟨_, rfl, (by rw [show (0 : Int32).toInt = 0 from (ti_c (v := 0) (a := 0) (by decide))]; omega), (by rw [show (0 : Int32).toInt = 0 from (ti_c (v := 0) (a := 0) (by decide))]; omega), hvx, (by omega), fxx⟩ hvx dX8_loops_125
        ·
          refine go_aload_n (pc := 41) rfl dX8_loops_41 ?_
          refine go_aload_n (pc := 42) rfl dX8_loops_42 ?_
          refine gi_getF (pc := 43) (q := 85) hvx fL_X8_53 rfl (Nat.le_of_ble_eq_true rfl) rfl (hvx.rf (by decide)) dX8_loops_43 ?_
          refine go_iload_n (pc := 46) rfl dX8_loops_46 ?_
          refine gi_iald (pc := 47) (lo := -1) (hi := 559) (len := 260) hvx (ti_rfl l1) rfl (by omega) (by omega) (fun _ => rfl) dX8_loops_47 (fun v4 v4l v4u v4w => ?_)
          have v4V : v4.toInt = V h.2.1 85 l1.toInt := by rw [v4w, hvx.fz (c := 85) (by omega) (by omega), ← hv.fz (c := 85) (by omega) (by omega)]; rfl
          refine go_iload_n (pc := 48) rfl dX8_loops_48 ?_
          have c23 := cc.2 (Or.inr hk)
          rcases (hr.1.1.2.2.2.2.1 a2.toInt hi).1 with t4 | t4
          · exact False.elim (by omega)
          have bE : v4.toInt = V h.2.1 85 a2.toInt := by rw [v4V, x1]
          have sM5 : (hx.2.1 70 6).toInt = S := by rw [hvx.fy (j := 6) (by omega), ← hv.fy (j := 6) (by omega)]; exact hS.symm
          have g6 : (0 : Int) ≤ (hx.2.1 70 53).toInt := (hvx.2.1 70 53).1
          have g7 : (hx.2.1 70 53).toInt ≤ 3000 := (hvx.2.1 70 53).2
          refine go_invV (pc := 49) (sl := 0) (ihG hvx v4 (by rw [show (v4 : Int32).toInt = v4.toInt from (ti_rfl v4)]; omega) (by rw [show (v4 : Int32).toInt = v4.toInt from (ti_rfl v4)]; omega) l2 (by rw [show (l2 : Int32).toInt = l2.toInt from (ti_rfl l2)]; omega) (by rw [show (l2 : Int32).toInt = l2.toInt from (ti_rfl l2)]; omega) (by rw [sM5]; exact (RT2.ve (VE.of hv hvx) hr)) (by rw [sM5]; exact (by rw [hvx.fy (j := 29) (by omega), ← hv.fy (j := 29) (by omega)]; exact hl)) (CKF.ve (VE.of hv hvx) ckf) (by rw [sM5]; exact (by rw [bE]; exact (BB.ve (VE.of hv hvx)).mpr t4.1)) (by rw [bE, VE.v (VE.of hv hvx) (c := 92) (by omega) (by omega), t4.2]; exact ⟨fun q => by omega, fun q => by rw [VE.v (VE.of hv hvx) (c := 80) (by omega) (by omega)]; omega⟩)) mL_X8_431 iM_X8_goesBlock sM_X8_goesBlock (hvx.sh rfl) rfl rfl rfl (Nat.le_of_ble_eq_true rfl) (show d + 2 + 1 ≤ d + 3 by omega) (show 8 + (5 + 11) + 40 * (d + 2) ≤ 40 * (d + 3) by omega) (g_c0 hvx.ln) (Nat.le_of_ble_eq_true rfl) dX8_loops_49 ?_
          intro r h8 hq _
          obtain ⟨v11, rfl, v11l, v11u, hv8, f9, f10⟩ := hq
          have fx8 : FX KAq h h8 := FX.tr fxx f10
          obtain ⟨u12, u12w⟩ : ∃ v : Int32, v = h8.2.1 70 53 := ⟨_, rfl⟩
          have u12e : (h8.2.1 70 53).toInt = u12.toInt := by rw [u12w]
          have u12l : 0 ≤ u12.toInt := by rw [u12w]; exact (hv8.2.1 70 53).1
          have u12u : u12.toInt ≤ 3000 := by rw [u12w]; exact (hv8.2.1 70 53).2
          refine go_istore (pc := 52) (Nat.le_of_ble_eq_true rfl) dX8_loops_52 (go_lv (lv2 := [(0, .ref 70), (1, .int l1), (2, .int l2), (3, .int l3), (4, .int v11)]) rfl ?_)
          refine go_iload (pc := 54) rfl dX8_loops_54 ?_
          refine gf_if_eq (pc := 56) (tgt := 62) (ti_rfl v11) (by decide) dX8_loops_56 (fun q13 => ?_) (fun q13 => ?_)
          ·
            refine go_aload_n (pc := 62) rfl dX8_loops_62 ?_
            refine gi_get (pc := 63) (lo := 0) (hi := 3000) hv8 fL_X8_437 rfl (Nat.le_of_ble_eq_true rfl) rfl rfl dX8_loops_63 (fun v14 v14l v14u v14w => ?_)
            have v14r : u12 = h8.2.1 70 53 := u12w
            have v14q : TI v14 u12.toInt := by rw [v14w.trans v14r.symm]; exact (ti_rfl u12)
            refine go_sipush (pc := 66) (v := 3000) (by decide) dX8_loops_66 ?_
            refine gf_icmp_ne (pc := 69) (tgt := 74) v14q (ti_c (v := 3000) (a := 3000) (by decide)) (by decide) dX8_loops_69 (fun q15 => ?_) (fun q15 => ?_)
            ·
              refine go_aload_n (pc := 74) rfl dX8_loops_74 ?_
              refine go_dup (pc := 75) rfl dX8_loops_75 ?_
              refine gi_get (pc := 76) (lo := 0) (hi := 3000) hv8 fL_X8_437 rfl (Nat.le_of_ble_eq_true rfl) rfl rfl dX8_loops_76 (fun v16 v16l v16u v16w => ?_)
              have v16r : u12 = h8.2.1 70 53 := u12w
              have v16q : TI v16 u12.toInt := by rw [v16w.trans v16r.symm]; exact (ti_rfl u12)
              refine go_iconst (pc := 79) (v := 1) (by decide) dX8_loops_79 ?_
              refine gf_iadd (pc := 80) v16q (ti_c (v := 1) (a := 1) (by decide)) (by omega) (by omega) dX8_loops_80 (fun v17 e18 => ?_)
              refine gi_put (pc := 81) (lo := 0) (hi := 3000) hv8 e18 (fP_X8_437 _) rfl (Nat.le_of_ble_eq_true rfl) rfl rfl (by omega) (by omega) rfl rfl (by decide) (by decide) (by decide) (by decide) dX8_loops_81 (fun h19 hv19 hv19e => ?_)
              have fx19 : FX KAq h h19 := FX.pI fx8 hv19e (by unfold KAq; omega)
              refine go_aload_n (pc := 84) rfl dX8_loops_84 ?_
              refine go_iload_n (pc := 85) rfl dX8_loops_85 ?_
              refine go_iload_n (pc := 86) rfl dX8_loops_86 ?_
              refine go_iconst (pc := 87) (v := 0) (by decide) dX8_loops_87 ?_
              refine go_invV (pc := 88) (sl := 0) (s_X8_number_ l (d + 0) hv19 l2 (by rw [show (l2 : Int32).toInt = l2.toInt from (ti_rfl l2)]; omega) (by rw [show (l2 : Int32).toInt = l2.toInt from (ti_rfl l2)]; omega) l1 (by rw [show (l1 : Int32).toInt = l1.toInt from (ti_rfl l1)]; omega) (by rw [show (l1 : Int32).toInt = l1.toInt from (ti_rfl l1)]; omega) 0 (by rw [show (0 : Int32).toInt = 0 from (ti_c (v := 0) (a := 0) (by decide))]; omega) (by rw [show (0 : Int32).toInt = 0 from (ti_c (v := 0) (a := 0) (by decide))]; omega) (show V h19.2.1 89 (2 * l1.toInt + (0 : Int32).toInt) ≤ 1009 from by rw [x1, VE.v (VE.of hv hv19) (c := 89) (by omega) (by omega)]; exact (by rw [show ((0 : Int32).toInt) = 0 by decide, Int.add_zero]; exact t3.2.2.2.1))) mL_X8_440 iM_X8_number_ sM_X8_number_ (hv19.sh rfl) rfl rfl rfl (Nat.le_of_ble_eq_true rfl) (show d + 0 + 2 + 1 ≤ d + 3 by omega) (show 8 + (4 + 11) + 40 * (d + 0 + 2) ≤ 40 * (d + 3) by omega) (g_c0 hv19.ln) (Nat.le_of_ble_eq_true rfl) dX8_loops_88 ?_
              intro r h20 hq _
              obtain ⟨v21, rfl, v21l, v21u, rfl⟩ := hq
              refine go_aload_n (pc := 91) rfl dX8_loops_91 ?_
              refine go_iload_n (pc := 92) rfl dX8_loops_92 ?_
              refine go_iload_n (pc := 93) rfl dX8_loops_93 ?_
              refine go_iconst (pc := 94) (v := 1) (by decide) dX8_loops_94 ?_
              refine go_invV (pc := 95) (sl := 0) (s_X8_number_ l (d + 0) hv19 l2 (by rw [show (l2 : Int32).toInt = l2.toInt from (ti_rfl l2)]; omega) (by rw [show (l2 : Int32).toInt = l2.toInt from (ti_rfl l2)]; omega) l1 (by rw [show (l1 : Int32).toInt = l1.toInt from (ti_rfl l1)]; omega) (by rw [show (l1 : Int32).toInt = l1.toInt from (ti_rfl l1)]; omega) 1 (by rw [show (1 : Int32).toInt = 1 from (ti_c (v := 1) (a := 1) (by decide))]; omega) (by rw [show (1 : Int32).toInt = 1 from (ti_c (v := 1) (a := 1) (by decide))]; omega) (show V h19.2.1 89 (2 * l1.toInt + (1 : Int32).toInt) ≤ 1009 from by rw [x1, VE.v (VE.of hv hv19) (c := 89) (by omega) (by omega)]; exact (by rw [show ((1 : Int32).toInt) = 1 by decide]; exact t3.2.2.2.2))) mL_X8_440 iM_X8_number_ sM_X8_number_ (hv19.sh rfl) rfl rfl rfl (Nat.le_of_ble_eq_true rfl) (show d + 0 + 2 + 1 ≤ d + 3 by omega) (show 8 + (4 + 11) + 40 * (d + 0 + 2) ≤ 40 * (d + 3) by omega) (g_c0 hv19.ln) (Nat.le_of_ble_eq_true rfl) dX8_loops_95 ?_
              intro r h22 hq _
              obtain ⟨v23, rfl, v23l, v23u, rfl⟩ := hq
              refine gf_icmp_ge (pc := 98) (tgt := 105) (ti_rfl v21) (ti_rfl v23) (by decide) dX8_loops_98 (fun q24 => ?_) (fun q24 => ?_)
              ·
                refine go_iconst (pc := 105) (v := 0) (by decide) dX8_loops_105 ?_
                refine go_istore_n (pc := 106) (Nat.le_of_ble_eq_true rfl) dX8_loops_106 (go_lv (lv2 := [(0, .ref 70), (1, .int l1), (2, .int l2), (3, .int 0), (4, .int v11)]) rfl ?_)
                refine go_aload_n (pc := 107) rfl dX8_loops_107 ?_
                refine go_iload_n (pc := 108) rfl dX8_loops_108 ?_
                refine go_iload_n (pc := 109) rfl dX8_loops_109 ?_
                refine gf_if_eq (pc := 110) (tgt := 117) (ti_c (v := 0) (a := 0) (by decide)) (by decide) dX8_loops_110 (fun q25 => ?_) (fun q25 => False.elim (by omega))
                refine go_iconst (pc := 117) (v := 0) (by decide) dX8_loops_117 ?_
                have g26 : (0 : Int) ≤ (h19.2.1 70 53).toInt := (hv19.2.1 70 53).1
                have g27 : (h19.2.1 70 53).toInt ≤ 3000 := (hv19.2.1 70 53).2
                have g28 : (h19.2.1 70 53).toInt = (u12.toInt + 1) := by rw [← (show v17 = h19.2.1 70 53 from (show v17 = h19.2.1 70 53 from by rw [hv19e]; exact g_iS.symm))] <;> exact e18
                refine go_invV (pc := 118) (sl := 0) (s_X8_sees_x_f l (d + 1) hv19 l1 (by rw [show (l1 : Int32).toInt = l1.toInt from (ti_rfl l1)]; omega) (by rw [show (l1 : Int32).toInt = l1.toInt from (ti_rfl l1)]; omega) 0) mL_X8_448 iM_X8_sees sM_X8_sees (hv19.sh rfl) rfl rfl rfl (Nat.le_of_ble_eq_true rfl) (show d + 1 + 1 + 1 ≤ d + 3 by omega) (show 8 + (3 + 11) + 40 * (d + 1 + 1) ≤ 40 * (d + 3) by omega) (g_c0 hv19.ln) (Nat.le_of_ble_eq_true rfl) dX8_loops_118 ?_
                intro r h29 hq _
                obtain ⟨rfl, hv29, f30, f31⟩ := hq
                try rw [show (0 : Int32).toInt = 0 from (ti_c (v := 0) (a := 0) (by decide))] at f30
                try rw [show (0 : Int32).toInt = 0 from (ti_c (v := 0) (a := 0) (by decide))] at f31
                have fx29 : FX KAq h h29 := FX.tr fx19 f31
                obtain ⟨u32, u32w⟩ : ∃ v : Int32, v = h29.2.1 70 53 := ⟨_, rfl⟩
                have u32e : (h29.2.1 70 53).toInt = u32.toInt := by rw [u32w]
                have u32l : 0 ≤ u32.toInt := by rw [u32w]; exact (hv29.2.1 70 53).1
                have u32u : u32.toInt ≤ 3000 := by rw [u32w]; exact (hv29.2.1 70 53).2
                refine go_goto (pc := 121) (tgt := 37) (by decide) dX8_loops_121 ?_
                have z33 : (0 : Int32).toInt = 0 := (ti_c (v := 0) (a := 0) (by decide))
                have g34 : (0 : Int) ≤ (h29.2.1 70 53).toInt := (hv29.2.1 70 53).1
                have g35 : (h29.2.1 70 53).toInt ≤ 3000 := (hv29.2.1 70 53).2
                have g36 : (h29.2.1 70 53).toInt = u32.toInt := by rw [← (show u32 = h29.2.1 70 53 from u32w)] <;> exact (ti_rfl u32)
                exact go_lv rfl (ih l1 l2 0 h29 hv29 (by omega) (by omega) (by omega) (by omega) (by omega) (by omega) (by omega) (by omega) (by omega) (by omega) (by omega) fx29 (by omega))
              ·
                refine go_iconst (pc := 101) (v := 1) (by decide) dX8_loops_101 ?_
                refine go_goto (pc := 102) (tgt := 106) (by decide) dX8_loops_102 ?_
                refine go_istore_n (pc := 106) (Nat.le_of_ble_eq_true rfl) dX8_loops_106 (go_lv (lv2 := [(0, .ref 70), (1, .int l1), (2, .int l2), (3, .int 1), (4, .int v11)]) rfl ?_)
                refine go_aload_n (pc := 107) rfl dX8_loops_107 ?_
                refine go_iload_n (pc := 108) rfl dX8_loops_108 ?_
                refine go_iload_n (pc := 109) rfl dX8_loops_109 ?_
                refine gf_if_eq (pc := 110) (tgt := 117) (ti_c (v := 1) (a := 1) (by decide)) (by decide) dX8_loops_110 (fun q37 => False.elim (by omega)) (fun q37 => ?_)
                refine go_iconst (pc := 113) (v := 1) (by decide) dX8_loops_113 ?_
                refine go_goto (pc := 114) (tgt := 118) (by decide) dX8_loops_114 ?_
                have g38 : (0 : Int) ≤ (h19.2.1 70 53).toInt := (hv19.2.1 70 53).1
                have g39 : (h19.2.1 70 53).toInt ≤ 3000 := (hv19.2.1 70 53).2
                have g40 : (h19.2.1 70 53).toInt = (u12.toInt + 1) := by rw [← (show v17 = h19.2.1 70 53 from (show v17 = h19.2.1 70 53 from by rw [hv19e]; exact g_iS.symm))] <;> exact e18
                refine go_invV (pc := 118) (sl := 0) (s_X8_sees_x_f l (d + 1) hv19 l1 (by rw [show (l1 : Int32).toInt = l1.toInt from (ti_rfl l1)]; omega) (by rw [show (l1 : Int32).toInt = l1.toInt from (ti_rfl l1)]; omega) 1) mL_X8_448 iM_X8_sees sM_X8_sees (hv19.sh rfl) rfl rfl rfl (Nat.le_of_ble_eq_true rfl) (show d + 1 + 1 + 1 ≤ d + 3 by omega) (show 8 + (3 + 11) + 40 * (d + 1 + 1) ≤ 40 * (d + 3) by omega) (g_c0 hv19.ln) (Nat.le_of_ble_eq_true rfl) dX8_loops_118 ?_
                intro r h41 hq _
                obtain ⟨rfl, hv41, f42, f43⟩ := hq
                try rw [show (1 : Int32).toInt = 1 from (ti_c (v := 1) (a := 1) (by decide))] at f42
                try rw [show (1 : Int32).toInt = 1 from (ti_c (v := 1) (a := 1) (by decide))] at f43
                have fx41 : FX KAq h h41 := FX.tr fx19 f43
                obtain ⟨u44, u44w⟩ : ∃ v : Int32, v = h41.2.1 70 53 := ⟨_, rfl⟩
                have u44e : (h41.2.1 70 53).toInt = u44.toInt := by rw [u44w]
                have u44l : 0 ≤ u44.toInt := by rw [u44w]; exact (hv41.2.1 70 53).1
                have u44u : u44.toInt ≤ 3000 := by rw [u44w]; exact (hv41.2.1 70 53).2
                refine go_goto (pc := 121) (tgt := 37) (by decide) dX8_loops_121 ?_
                have z45 : (1 : Int32).toInt = 1 := (ti_c (v := 1) (a := 1) (by decide))
                have g46 : (0 : Int) ≤ (h41.2.1 70 53).toInt := (hv41.2.1 70 53).1
                have g47 : (h41.2.1 70 53).toInt ≤ 3000 := (hv41.2.1 70 53).2
                have g48 : (h41.2.1 70 53).toInt = u44.toInt := by rw [← (show u44 = h41.2.1 70 53 from u44w)] <;> exact (ti_rfl u44)
                exact go_lv rfl (ih l1 l2 1 h41 hv41 (by omega) (by omega) (by omega) (by omega) (by omega) (by omega) (by omega) (by omega) (by omega) (by omega) (by omega) fx41 (by omega))
            ·
              refine go_iconst (pc := 72) (v := 3) (by decide) dX8_loops_72 ?_
              have g49 : (0 : Int) ≤ (h8.2.1 70 53).toInt := (hv8.2.1 70 53).1
              have g50 : (h8.2.1 70 53).toInt ≤ 3000 := (hv8.2.1 70 53).2
              have g51 : (h8.2.1 70 53).toInt = u12.toInt := by rw [← (show u12 = h8.2.1 70 53 from u12w)] <;> exact (ti_rfl u12)
              exact gi_iret (pc := 73) (ti_c (v := 3) (a := 3) (by decide)) ⟨_, rfl, (by rw [show (3 : Int32).toInt = 3 from (ti_c (v := 3) (a := 3) (by decide))]; omega), (by rw [show (3 : Int32).toInt = 3 from (ti_c (v := 3) (a := 3) (by decide))]; omega), hv8, (by omega), fx8⟩ hv8 dX8_loops_73
          ·
            refine go_iload (pc := 59) rfl dX8_loops_59 ?_
            have g52 : (0 : Int) ≤ (h8.2.1 70 53).toInt := (hv8.2.1 70 53).1
            have g53 : (h8.2.1 70 53).toInt ≤ 3000 := (hv8.2.1 70 53).2
            have g54 : (h8.2.1 70 53).toInt = u12.toInt := by rw [← (show u12 = h8.2.1 70 53 from u12w)] <;> exact (ti_rfl u12)
            exact gi_iret (pc := 61) (ti_rfl v11) ⟨_, rfl, (by rw [show (v11 : Int32).toInt = v11.toInt from (ti_rfl v11)]; omega), (by rw [show (v11 : Int32).toInt = v11.toInt from (ti_rfl v11)]; omega), hv8, (by omega), fx8⟩ hv8 dX8_loops_61
  refine go_aload_n (pc := 0) rfl dX8_loops_0 ?_
  refine go_iload_n (pc := 1) rfl dX8_loops_1 ?_
  refine go_iload_n (pc := 2) rfl dX8_loops_2 ?_
  refine go_iconst (pc := 3) (v := 0) (by decide) dX8_loops_3 ?_
  refine go_invV (pc := 4) (sl := 0) (s_X8_number_ l (d + 0) hv a3 (by rw [show (a3 : Int32).toInt = a3.toInt from (ti_rfl a3)]; omega) (by rw [show (a3 : Int32).toInt = a3.toInt from (ti_rfl a3)]; omega) a2 (by rw [show (a2 : Int32).toInt = a2.toInt from (ti_rfl a2)]; omega) (by rw [show (a2 : Int32).toInt = a2.toInt from (ti_rfl a2)]; omega) 0 (by rw [show (0 : Int32).toInt = 0 from (ti_c (v := 0) (a := 0) (by decide))]; omega) (by rw [show (0 : Int32).toInt = 0 from (ti_c (v := 0) (a := 0) (by decide))]; omega) (show V h.2.1 89 (2 * a2.toInt + (0 : Int32).toInt) ≤ 1009 from by rw [VE.v (VE.of hv hv) (c := 89) (by omega) (by omega)]; exact (by rw [show ((0 : Int32).toInt) = 0 by decide, Int.add_zero]; exact t3.2.2.2.1))) mL_X8_440 iM_X8_number_ sM_X8_number_ (hv.sh rfl) rfl rfl rfl (Nat.le_of_ble_eq_true rfl) (show d + 0 + 2 + 1 ≤ d + 3 by omega) (show 8 + (4 + 11) + 40 * (d + 0 + 2) ≤ 40 * (d + 3) by omega) (g_c0 hv.ln) (Nat.le_of_ble_eq_true rfl) dX8_loops_4 ?_
  intro r h55 hq _
  obtain ⟨v56, rfl, v56l, v56u, rfl⟩ := hq
  refine go_aload_n (pc := 7) rfl dX8_loops_7 ?_
  refine go_iload_n (pc := 8) rfl dX8_loops_8 ?_
  refine go_iload_n (pc := 9) rfl dX8_loops_9 ?_
  refine go_iconst (pc := 10) (v := 1) (by decide) dX8_loops_10 ?_
  refine go_invV (pc := 11) (sl := 0) (s_X8_number_ l (d + 0) hv a3 (by rw [show (a3 : Int32).toInt = a3.toInt from (ti_rfl a3)]; omega) (by rw [show (a3 : Int32).toInt = a3.toInt from (ti_rfl a3)]; omega) a2 (by rw [show (a2 : Int32).toInt = a2.toInt from (ti_rfl a2)]; omega) (by rw [show (a2 : Int32).toInt = a2.toInt from (ti_rfl a2)]; omega) 1 (by rw [show (1 : Int32).toInt = 1 from (ti_c (v := 1) (a := 1) (by decide))]; omega) (by rw [show (1 : Int32).toInt = 1 from (ti_c (v := 1) (a := 1) (by decide))]; omega) (show V h.2.1 89 (2 * a2.toInt + (1 : Int32).toInt) ≤ 1009 from by rw [VE.v (VE.of hv hv) (c := 89) (by omega) (by omega)]; exact (by rw [show ((1 : Int32).toInt) = 1 by decide]; exact t3.2.2.2.2))) mL_X8_440 iM_X8_number_ sM_X8_number_ (hv.sh rfl) rfl rfl rfl (Nat.le_of_ble_eq_true rfl) (show d + 0 + 2 + 1 ≤ d + 3 by omega) (show 8 + (4 + 11) + 40 * (d + 0 + 2) ≤ 40 * (d + 3) by omega) (g_c0 hv.ln) (Nat.le_of_ble_eq_true rfl) dX8_loops_11 ?_
  intro r h57 hq _
  obtain ⟨v58, rfl, v58l, v58u, rfl⟩ := hq
  refine gf_icmp_ge (pc := 14) (tgt := 21) (ti_rfl v56) (ti_rfl v58) (by decide) dX8_loops_14 (fun q59 => ?_) (fun q59 => ?_)
  ·
    refine go_iconst (pc := 21) (v := 0) (by decide) dX8_loops_21 ?_
    refine go_istore_n (pc := 22) (Nat.le_of_ble_eq_true rfl) dX8_loops_22 (go_lv (lv2 := [(0, .ref 70), (1, .int a2), (2, .int a3), (3, .int 0)]) rfl ?_)
    refine go_aload_n (pc := 23) rfl dX8_loops_23 ?_
    refine go_iload_n (pc := 24) rfl dX8_loops_24 ?_
    refine go_iload_n (pc := 25) rfl dX8_loops_25 ?_
    refine gf_if_eq (pc := 26) (tgt := 33) (ti_c (v := 0) (a := 0) (by decide)) (by decide) dX8_loops_26 (fun q60 => ?_) (fun q60 => False.elim (by omega))
    refine go_iconst (pc := 33) (v := 0) (by decide) dX8_loops_33 ?_
    have g61 : (0 : Int) ≤ (h.2.1 70 53).toInt := (hv.2.1 70 53).1
    have g62 : (h.2.1 70 53).toInt ≤ 3000 := (hv.2.1 70 53).2
    refine go_invV (pc := 34) (sl := 0) (s_X8_sees_x_f l (d + 1) hv a2 (by rw [show (a2 : Int32).toInt = a2.toInt from (ti_rfl a2)]; omega) (by rw [show (a2 : Int32).toInt = a2.toInt from (ti_rfl a2)]; omega) 0) mL_X8_448 iM_X8_sees sM_X8_sees (hv.sh rfl) rfl rfl rfl (Nat.le_of_ble_eq_true rfl) (show d + 1 + 1 + 1 ≤ d + 3 by omega) (show 8 + (3 + 11) + 40 * (d + 1 + 1) ≤ 40 * (d + 3) by omega) (g_c0 hv.ln) (Nat.le_of_ble_eq_true rfl) dX8_loops_34 ?_
    intro r h63 hq _
    obtain ⟨rfl, hv63, f64, f65⟩ := hq
    try rw [show (0 : Int32).toInt = 0 from (ti_c (v := 0) (a := 0) (by decide))] at f64
    try rw [show (0 : Int32).toInt = 0 from (ti_c (v := 0) (a := 0) (by decide))] at f65
    have fx63 : FX KAq h h63 := FX.tr fx f65
    obtain ⟨u66, u66w⟩ : ∃ v : Int32, v = h63.2.1 70 53 := ⟨_, rfl⟩
    have u66e : (h63.2.1 70 53).toInt = u66.toInt := by rw [u66w]
    have u66l : 0 ≤ u66.toInt := by rw [u66w]; exact (hv63.2.1 70 53).1
    have u66u : u66.toInt ≤ 3000 := by rw [u66w]; exact (hv63.2.1 70 53).2
    have z67 : (0 : Int32).toInt = 0 := (ti_c (v := 0) (a := 0) (by decide))
    have g68 : (0 : Int) ≤ (h63.2.1 70 53).toInt := (hv63.2.1 70 53).1
    have g69 : (h63.2.1 70 53).toInt ≤ 3000 := (hv63.2.1 70 53).2
    have g70 : (h63.2.1 70 53).toInt = u66.toInt := by rw [← (show u66 = h63.2.1 70 53 from u66w)] <;> exact (ti_rfl u66)
    exact go_lv rfl ((key 10001) a2 a3 0 h63 hv63 (by omega) (by omega) (by omega) (by omega) (by omega) (by omega) (by omega) (by omega) (by omega) (by omega) (by omega) fx63 (by omega))
  ·
    refine go_iconst (pc := 17) (v := 1) (by decide) dX8_loops_17 ?_
    refine go_goto (pc := 18) (tgt := 22) (by decide) dX8_loops_18 ?_
    refine go_istore_n (pc := 22) (Nat.le_of_ble_eq_true rfl) dX8_loops_22 (go_lv (lv2 := [(0, .ref 70), (1, .int a2), (2, .int a3), (3, .int 1)]) rfl ?_)
    refine go_aload_n (pc := 23) rfl dX8_loops_23 ?_
    refine go_iload_n (pc := 24) rfl dX8_loops_24 ?_
    refine go_iload_n (pc := 25) rfl dX8_loops_25 ?_
    refine gf_if_eq (pc := 26) (tgt := 33) (ti_c (v := 1) (a := 1) (by decide)) (by decide) dX8_loops_26 (fun q71 => False.elim (by omega)) (fun q71 => ?_)
    refine go_iconst (pc := 29) (v := 1) (by decide) dX8_loops_29 ?_
    refine go_goto (pc := 30) (tgt := 34) (by decide) dX8_loops_30 ?_
    have g72 : (0 : Int) ≤ (h.2.1 70 53).toInt := (hv.2.1 70 53).1
    have g73 : (h.2.1 70 53).toInt ≤ 3000 := (hv.2.1 70 53).2
    refine go_invV (pc := 34) (sl := 0) (s_X8_sees_x_f l (d + 1) hv a2 (by rw [show (a2 : Int32).toInt = a2.toInt from (ti_rfl a2)]; omega) (by rw [show (a2 : Int32).toInt = a2.toInt from (ti_rfl a2)]; omega) 1) mL_X8_448 iM_X8_sees sM_X8_sees (hv.sh rfl) rfl rfl rfl (Nat.le_of_ble_eq_true rfl) (show d + 1 + 1 + 1 ≤ d + 3 by omega) (show 8 + (3 + 11) + 40 * (d + 1 + 1) ≤ 40 * (d + 3) by omega) (g_c0 hv.ln) (Nat.le_of_ble_eq_true rfl) dX8_loops_34 ?_
    intro r h74 hq _
    obtain ⟨rfl, hv74, f75, f76⟩ := hq
    try rw [show (1 : Int32).toInt = 1 from (ti_c (v := 1) (a := 1) (by decide))] at f75
    try rw [show (1 : Int32).toInt = 1 from (ti_c (v := 1) (a := 1) (by decide))] at f76
    have fx74 : FX KAq h h74 := FX.tr fx f76
    obtain ⟨u77, u77w⟩ : ∃ v : Int32, v = h74.2.1 70 53 := ⟨_, rfl⟩
    have u77e : (h74.2.1 70 53).toInt = u77.toInt := by rw [u77w]
    have u77l : 0 ≤ u77.toInt := by rw [u77w]; exact (hv74.2.1 70 53).1
    have u77u : u77.toInt ≤ 3000 := by rw [u77w]; exact (hv74.2.1 70 53).2
    have z78 : (1 : Int32).toInt = 1 := (ti_c (v := 1) (a := 1) (by decide))
    have g79 : (0 : Int) ≤ (h74.2.1 70 53).toInt := (hv74.2.1 70 53).1
    have g80 : (h74.2.1 70 53).toInt ≤ 3000 := (hv74.2.1 70 53).2
    have g81 : (h74.2.1 70 53).toInt = u77.toInt := by rw [← (show u77 = h74.2.1 70 53 from u77w)] <;> exact (ti_rfl u77)
    exact go_lv rfl ((key 10001) a2 a3 1 h74 hv74 (by omega) (by omega) (by omega) (by omega) (by omega) (by omega) (by omega) (by omega) (by omega) (by omega) (by omega) fx74 (by omega))
set_option maxHeartbeats 4000000 in
set_option maxRecDepth 100000 in
theorem s_X8_calls__b_f (l : Launch) (d : Nat) {nn : Nat} (ihP : ∀ {P : PP} {h : HP} (_ : Iv P h) (a2 : Int32) (a2l : 0 ≤ a2.toInt) (a2u : a2.toInt ≤ 4) (a3 : Int32) (a3l : 0 ≤ a3.toInt) (a3u : a3.toInt ≤ 30) (a4 : Int32) (a5 : Int32) (hr : RD h.2.1 (h.2.1 70 6).toInt ∧ TD h.2.1 (h.2.1 70 6).toInt) (hl : (h.2.1 70 29).toInt = (h.2.1 70 6).toInt) (ckf : CKF h.2.1) (hp : a2.toInt < V h.2.1 76 (h.2.1 70 6).toInt) (hg : 30 * (30 - a3.toInt) + 27 ≤ (nn : Int)), Mt l yX8_procedure cX8_procedure 6 (some .int) (d + 1) [.ref 70, .int a2, .int a3, .int a4, .int a5] h 0 0 (fun r h' => ∃ v : Int32, r = some (.int v) ∧ 0 ≤ v.toInt ∧ v.toInt ≤ 3 ∧ Iv P h' ∧ ((h.2.1 70 53).toInt ≤ (h'.2.1 70 53).toInt) ∧ (FX KAq h h'))) {P : PP} {h : HP} (hv : Iv P h) (a2 : Int32) (a2l : 0 ≤ a2.toInt) (a2u : a2.toInt ≤ 259) (a3 : Int32) (a3l : 0 ≤ a3.toInt) (a3u : a3.toInt ≤ 30) (a4 : Int32) (a5 : Int32) (hr : RD h.2.1 (h.2.1 70 6).toInt ∧ TD h.2.1 (h.2.1 70 6).toInt) (hl : (h.2.1 70 29).toInt = (h.2.1 70 6).toInt) (ckf : CKF h.2.1) (hi : II h.2.1 (h.2.1 70 6).toInt a2.toInt) (hk : V h.2.1 77 a2.toInt = 1) (hg : 30 * (30 - a3.toInt) + 1 ≤ ((nn + 1 : Nat) : Int)) : Mt l yX8_calls_ cX8_calls_ 6 (some .int) (d + 2) [.ref 70, .int a2, .int a3, .int a4, .int a5] h 0 0 (fun r h' => ∃ v : Int32, r = some (.int v) ∧ 0 ≤ v.toInt ∧ v.toInt ≤ 3 ∧ Iv P h' ∧ ((h.2.1 70 53).toInt ≤ (h'.2.1 70 53).toInt) ∧ (FX KAq h h')) := by
  refine Mt_iv hv (by decide) (Nat.le_of_ble_eq_true rfl) ?_
  show Go l RX8 cX8_calls_ 6 (g_rm (d + 2) 0 0) "calls" (some .int) 117 0 0 (fun _ _ => True) (fun r h' => ∃ v : Int32, r = some (.int v) ∧ 0 ≤ v.toInt ∧ v.toInt ≤ 3 ∧ Iv P h' ∧ ((h.2.1 70 53).toInt ≤ (h'.2.1 70 53).toInt) ∧ (FX KAq h h')) 0 0 [(0, .ref 70), (1, .int a2), (2, .int a3), (3, .int a4), (4, .int a5)] [] h
  obtain ⟨S, hS⟩ : ∃ S : Int, S = (h.2.1 70 6).toInt := ⟨_, rfl⟩
  have S0 : 0 ≤ S := by rw [hS]; exact (hv.2.1 70 6).1
  have S1 : S ≤ 1 := by rw [hS]; exact (hv.2.1 70 6).2
  rw [← hS] at hr
  rw [← hS] at hl
  rw [← hS] at hi
  have fx : FX KAq h h := FX.rfl
  have cc := (hr.1.2.1 a2.toInt hi.1 hi.2).2
  have cd := (hr.1.2.1 a2.toInt hi.1 hi.2).1
  have t3 := hr.1.1.2.2.2.1 a2.toInt hi
  have r8 : V h.2.1 80 a2.toInt ≤ 6 := (hv.2.1 80 _).2
  refine go_iload_n (pc := 0) rfl dX8_calls__0 ?_
  refine go_bipush (pc := 1) (v := 30) (by decide) dX8_calls__1 ?_
  refine gf_icmp_ne (pc := 3) (tgt := 8) (ti_rfl a3) (ti_c (v := 30) (a := 30) (by decide)) (by decide) dX8_calls__3 (fun q1 => ?_) (fun q1 => ?_)
  ·
    refine go_aload_n (pc := 8) rfl dX8_calls__8 ?_
    refine go_aload_n (pc := 9) rfl dX8_calls__9 ?_
    refine gi_getF (pc := 10) (q := 84) hv fL_X8_50 rfl (Nat.le_of_ble_eq_true rfl) rfl (hv.rf (by decide)) dX8_calls__10 ?_
    refine go_iload_n (pc := 13) rfl dX8_calls__13 ?_
    refine gi_iald (pc := 14) (lo := -2) (hi := 4) (len := 260) hv (ti_rfl a2) rfl (by omega) (by omega) (fun _ => rfl) dX8_calls__14 (fun v2 v2l v2u v2w => ?_)
    have v2V : v2.toInt = V h.2.1 84 a2.toInt := by rw [v2w]; rfl
    have kk : 0 ≤ v2.toInt := by rw [v2w]; exact ckf _ (show V h.2.1 77 a2.toInt = 1 from hk)
    refine go_iload_n (pc := 15) rfl dX8_calls__15 ?_
    refine go_iconst (pc := 16) (v := 1) (by decide) dX8_calls__16 ?_
    refine gf_iadd (pc := 17) (ti_rfl a3) (ti_c (v := 1) (a := 1) (by decide)) (by omega) (by omega) dX8_calls__17 (fun v3 e4 => ?_)
    refine go_iload_n (pc := 18) rfl dX8_calls__18 ?_
    refine go_iload (pc := 19) rfl dX8_calls__19 ?_
    have n7 := t3.1 (by omega)
    have td := hr.2 (V h.2.1 78 a2.toInt) n7.1 n7.2.1
    rw [n7.2.2] at td
    have z5 : (v3 : Int32).toInt = (a3.toInt + 1) := e4
    have sM6 : (h.2.1 70 6).toInt = S := by rw [hv.fy (j := 6) (by omega), ← hv.fy (j := 6) (by omega)]; exact hS.symm
    have g7 : (0 : Int) ≤ (h.2.1 70 53).toInt := (hv.2.1 70 53).1
    have g8 : (h.2.1 70 53).toInt ≤ 3000 := (hv.2.1 70 53).2
    refine go_invV (pc := 21) (sl := 0) (ihP hv v2 (by rw [show (v2 : Int32).toInt = v2.toInt from (ti_rfl v2)]; omega) (by rw [show (v2 : Int32).toInt = v2.toInt from (ti_rfl v2)]; omega) v3 (by rw [show (v3 : Int32).toInt = (a3.toInt + 1) from e4]; omega) (by rw [show (v3 : Int32).toInt = (a3.toInt + 1) from e4]; omega) a4 a5 (by rw [sM6]; exact (RT2.ve (VE.of hv hv) hr)) (by rw [sM6]; exact (by rw [hv.fy (j := 29) (by omega), ← hv.fy (j := 29) (by omega)]; exact hl)) (CKF.ve (VE.of hv hv) ckf) (by rw [sM6]; exact (by rw [VE.v (VE.of hv hv) (c := 76) (by omega) (by omega)]; omega)) (by omega)) mL_X8_457 iM_X8_procedure sM_X8_procedure (hv.sh rfl) rfl rfl rfl (Nat.le_of_ble_eq_true rfl) (show d + 1 + 1 ≤ d + 2 by omega) (show 8 + (6 + 11) + 40 * (d + 1) ≤ 40 * (d + 2) by omega) (g_c0 hv.ln) (Nat.le_of_ble_eq_true rfl) dX8_calls__21 ?_
    intro r h9 hq _
    obtain ⟨v12, rfl, v12l, v12u, hv9, f10, f11⟩ := hq
    try rw [show (v3 : Int32).toInt = (a3.toInt + 1) from e4] at f10
    try rw [show (v3 : Int32).toInt = (a3.toInt + 1) from e4] at f11
    have fx9 : FX KAq h h9 := FX.tr fx f11
    obtain ⟨u13, u13w⟩ : ∃ v : Int32, v = h9.2.1 70 53 := ⟨_, rfl⟩
    have u13e : (h9.2.1 70 53).toInt = u13.toInt := by rw [u13w]
    have u13l : 0 ≤ u13.toInt := by rw [u13w]; exact (hv9.2.1 70 53).1
    have u13u : u13.toInt ≤ 3000 := by rw [u13w]; exact (hv9.2.1 70 53).2
    refine go_istore (pc := 24) (Nat.le_of_ble_eq_true rfl) dX8_calls__24 (go_lv (lv2 := [(0, .ref 70), (1, .int a2), (2, .int a3), (3, .int a4), (4, .int a5), (5, .int v12)]) rfl ?_)
    refine go_iload (pc := 26) rfl dX8_calls__26 ?_
    refine go_iconst (pc := 28) (v := 3) (by decide) dX8_calls__28 ?_
    refine gf_icmp_ne (pc := 29) (tgt := 34) (ti_rfl v12) (ti_c (v := 3) (a := 3) (by decide)) (by decide) dX8_calls__29 (fun q14 => ?_) (fun q14 => ?_)
    ·
      refine go_aload_n (pc := 34) rfl dX8_calls__34 ?_
      refine go_iload_n (pc := 35) rfl dX8_calls__35 ?_
      refine go_aload_n (pc := 36) rfl dX8_calls__36 ?_
      refine gi_get (pc := 37) (lo := -2147483648) (hi := 2147483647) hv9 fL_X8_434 rfl (Nat.le_of_ble_eq_true rfl) rfl rfl dX8_calls__37 (fun v15 v15l v15u v15w => ?_)
      have g16 : (0 : Int) ≤ (h9.2.1 70 53).toInt := (hv9.2.1 70 53).1
      have g17 : (h9.2.1 70 53).toInt ≤ 3000 := (hv9.2.1 70 53).2
      have g18 : (h9.2.1 70 53).toInt = u13.toInt := by rw [← (show u13 = h9.2.1 70 53 from u13w)] <;> exact (ti_rfl u13)
      refine go_invV (pc := 40) (sl := 0) (s_X8_sees_x_f l (d + 0) hv9 a2 (by rw [show (a2 : Int32).toInt = a2.toInt from (ti_rfl a2)]; omega) (by rw [show (a2 : Int32).toInt = a2.toInt from (ti_rfl a2)]; omega) v15) mL_X8_448 iM_X8_sees sM_X8_sees (hv9.sh rfl) rfl rfl rfl (Nat.le_of_ble_eq_true rfl) (show d + 0 + 1 + 1 ≤ d + 2 by omega) (show 8 + (3 + 11) + 40 * (d + 0 + 1) ≤ 40 * (d + 2) by omega) (g_c0 hv9.ln) (Nat.le_of_ble_eq_true rfl) dX8_calls__40 ?_
      intro r h19 hq _
      obtain ⟨rfl, hv19, f20, f21⟩ := hq
      have fx19 : FX KAq h h19 := FX.tr fx9 f21
      obtain ⟨u22, u22w⟩ : ∃ v : Int32, v = h19.2.1 70 53 := ⟨_, rfl⟩
      have u22e : (h19.2.1 70 53).toInt = u22.toInt := by rw [u22w]
      have u22l : 0 ≤ u22.toInt := by rw [u22w]; exact (hv19.2.1 70 53).1
      have u22u : u22.toInt ≤ 3000 := by rw [u22w]; exact (hv19.2.1 70 53).2
      refine go_iload (pc := 43) rfl dX8_calls__43 ?_
      refine go_iconst (pc := 45) (v := 2) (by decide) dX8_calls__45 ?_
      refine gf_icmp_ne (pc := 46) (tgt := 51) (ti_rfl v12) (ti_c (v := 2) (a := 2) (by decide)) (by decide) dX8_calls__46 (fun q23 => ?_) (fun q23 => ?_)
      ·
        refine go_aload_n (pc := 51) rfl dX8_calls__51 ?_
        refine go_iload_n (pc := 52) rfl dX8_calls__52 ?_
        refine go_aload_n (pc := 53) rfl dX8_calls__53 ?_
        refine gi_getF (pc := 54) (q := 82) hv19 fL_X8_44 rfl (Nat.le_of_ble_eq_true rfl) rfl (hv19.rf (by decide)) dX8_calls__54 ?_
        refine go_iload_n (pc := 57) rfl dX8_calls__57 ?_
        refine gi_iald (pc := 58) (lo := -1) (hi := 9) (len := 260) hv19 (ti_rfl a2) rfl (by omega) (by omega) (fun _ => rfl) dX8_calls__58 (fun v24 v24l v24u v24w => ?_)
        have v24V : v24.toInt = V h.2.1 82 a2.toInt := by rw [v24w, hv19.fz (c := 82) (by omega) (by omega), ← hv.fz (c := 82) (by omega) (by omega)]; rfl
        refine go_aload_n (pc := 59) rfl dX8_calls__59 ?_
        refine gi_get (pc := 60) (lo := -2147483648) (hi := 2147483647) hv19 fL_X8_434 rfl (Nat.le_of_ble_eq_true rfl) rfl rfl dX8_calls__60 (fun v25 v25l v25u v25w => ?_)
        have k9 : 0 ≤ v24.toInt := by have q := t3.2.1 (by omega); omega
        have g26 : (0 : Int) ≤ (h19.2.1 70 53).toInt := (hv19.2.1 70 53).1
        have g27 : (h19.2.1 70 53).toInt ≤ 3000 := (hv19.2.1 70 53).2
        have g28 : (h19.2.1 70 53).toInt = u22.toInt := by rw [← (show u22 = h19.2.1 70 53 from u22w)] <;> exact (ti_rfl u22)
        refine go_invV (pc := 63) (sl := 0) (s_X8_tellsName_x_f l (d + 0) hv19 a3 (by rw [show (a3 : Int32).toInt = a3.toInt from (ti_rfl a3)]; omega) (by rw [show (a3 : Int32).toInt = a3.toInt from (ti_rfl a3)]; omega) v24 (by rw [show (v24 : Int32).toInt = v24.toInt from (ti_rfl v24)]; omega) (by rw [show (v24 : Int32).toInt = v24.toInt from (ti_rfl v24)]; omega) v25) mL_X8_445 iM_X8_tellsName sM_X8_tellsName (hv19.sh rfl) rfl rfl rfl (Nat.le_of_ble_eq_true rfl) (show d + 0 + 1 + 1 ≤ d + 2 by omega) (show 8 + (4 + 11) + 40 * (d + 0 + 1) ≤ 40 * (d + 2) by omega) (g_c0 hv19.ln) (Nat.le_of_ble_eq_true rfl) dX8_calls__63 ?_
        intro r h29 hq _
        obtain ⟨rfl, hv29, f30, f31⟩ := hq
        have fx29 : FX KAq h h29 := FX.tr fx19 f31
        obtain ⟨u32, u32w⟩ : ∃ v : Int32, v = h29.2.1 70 53 := ⟨_, rfl⟩
        have u32e : (h29.2.1 70 53).toInt = u32.toInt := by rw [u32w]
        have u32l : 0 ≤ u32.toInt := by rw [u32w]; exact (hv29.2.1 70 53).1
        have u32u : u32.toInt ≤ 3000 := by rw [u32w]; exact (hv29.2.1 70 53).2
        refine go_iconst (pc := 66) (v := 0) (by decide) dX8_calls__66 ?_
        have g33 : (0 : Int) ≤ (h29.2.1 70 53).toInt := (hv29.2.1 70 53).1
        have g34 : (h29.2.1 70 53).toInt ≤ 3000 := (hv29.2.1 70 53).2
        have g35 : (h29.2.1 70 53).toInt = u32.toInt := by rw [← (show u32 = h29.2.1 70 53 from u32w)] <;> exact (ti_rfl u32)
        exact gi_iret (pc := 67) (ti_c (v := 0) (a := 0) (by decide)) ⟨_, rfl, (by rw [show (0 : Int32).toInt = 0 from (ti_c (v := 0) (a := 0) (by decide))]; omega), (by rw [show (0 : Int32).toInt = 0 from (ti_c (v := 0) (a := 0) (by decide))]; omega), hv29, (by omega), fx29⟩ hv29 dX8_calls__67
      ·
        refine go_iconst (pc := 49) (v := 2) (by decide) dX8_calls__49 ?_
        have g36 : (0 : Int) ≤ (h19.2.1 70 53).toInt := (hv19.2.1 70 53).1
        have g37 : (h19.2.1 70 53).toInt ≤ 3000 := (hv19.2.1 70 53).2
        have g38 : (h19.2.1 70 53).toInt = u22.toInt := by rw [← (show u22 = h19.2.1 70 53 from u22w)] <;> exact (ti_rfl u22)
        exact gi_iret (pc := 50) (ti_c (v := 2) (a := 2) (by decide)) ⟨_, rfl, (by rw [show (2 : Int32).toInt = 2 from (ti_c (v := 2) (a := 2) (by decide))]; omega), (by rw [show (2 : Int32).toInt = 2 from (ti_c (v := 2) (a := 2) (by decide))]; omega), hv19, (by omega), fx19⟩ hv19 dX8_calls__50
    ·
      refine go_iconst (pc := 32) (v := 3) (by decide) dX8_calls__32 ?_
      have g39 : (0 : Int) ≤ (h9.2.1 70 53).toInt := (hv9.2.1 70 53).1
      have g40 : (h9.2.1 70 53).toInt ≤ 3000 := (hv9.2.1 70 53).2
      have g41 : (h9.2.1 70 53).toInt = u13.toInt := by rw [← (show u13 = h9.2.1 70 53 from u13w)] <;> exact (ti_rfl u13)
      exact gi_iret (pc := 33) (ti_c (v := 3) (a := 3) (by decide)) ⟨_, rfl, (by rw [show (3 : Int32).toInt = 3 from (ti_c (v := 3) (a := 3) (by decide))]; omega), (by rw [show (3 : Int32).toInt = 3 from (ti_c (v := 3) (a := 3) (by decide))]; omega), hv9, (by omega), fx9⟩ hv9 dX8_calls__33
  ·
    refine go_iconst (pc := 6) (v := 3) (by decide) dX8_calls__6 ?_
    have g42 : (0 : Int) ≤ (h.2.1 70 53).toInt := (hv.2.1 70 53).1
    have g43 : (h.2.1 70 53).toInt ≤ 3000 := (hv.2.1 70 53).2
    exact gi_iret (pc := 7) (ti_c (v := 3) (a := 3) (by decide)) ⟨_, rfl, (by rw [show (3 : Int32).toInt = 3 from (ti_c (v := 3) (a := 3) (by decide))]; omega), (by rw [show (3 : Int32).toInt = 3 from (ti_c (v := 3) (a := 3) (by decide))]; omega), hv, (by omega), fx⟩ hv dX8_calls__7
set_option maxHeartbeats 4000000 in
set_option maxRecDepth 100000 in
theorem s_X8_procedure_b_f (l : Launch) (d : Nat) {nn : Nat} (ihG : ∀ {P : PP} {h : HP} (_ : Iv P h) (a2 : Int32) (a2l : 0 ≤ a2.toInt) (a2u : a2.toInt ≤ 559) (a3 : Int32) (a3l : 0 ≤ a3.toInt) (a3u : a3.toInt ≤ 30) (hr : RD h.2.1 (h.2.1 70 6).toInt ∧ TD h.2.1 (h.2.1 70 6).toInt) (hl : (h.2.1 70 29).toInt = (h.2.1 70 6).toInt) (ckf : CKF h.2.1) (hb : BB h.2.1 (h.2.1 70 6).toInt a2.toInt) (hg : (V h.2.1 92 a2.toInt = -1 → 30 * (30 - a3.toInt) + 24 ≤ (nn : Int)) ∧ (0 ≤ V h.2.1 92 a2.toInt → 30 * (30 - a3.toInt) + 3 * (6 - V h.2.1 80 (V h.2.1 92 a2.toInt)) + 3 ≤ (nn : Int))), Mt l yX8_goesBlock cX8_goesBlock 5 (some .int) (d + 0) [.ref 70, .int a2, .int a3] h 0 0 (fun r h' => ∃ v : Int32, r = some (.int v) ∧ 0 ≤ v.toInt ∧ v.toInt ≤ 3 ∧ Iv P h' ∧ ((h.2.1 70 53).toInt ≤ (h'.2.1 70 53).toInt) ∧ (FX KAq h h'))) {P : PP} {h : HP} (hv : Iv P h) (a2 : Int32) (a2l : 0 ≤ a2.toInt) (a2u : a2.toInt ≤ 4) (a3 : Int32) (a3l : 0 ≤ a3.toInt) (a3u : a3.toInt ≤ 30) (a4 : Int32) (a5 : Int32) (hr : RD h.2.1 (h.2.1 70 6).toInt ∧ TD h.2.1 (h.2.1 70 6).toInt) (hl : (h.2.1 70 29).toInt = (h.2.1 70 6).toInt) (ckf : CKF h.2.1) (hp : a2.toInt < V h.2.1 76 (h.2.1 70 6).toInt) (hg : 30 * (30 - a3.toInt) + 27 ≤ ((nn + 1 : Nat) : Int)) : Mt l yX8_procedure cX8_procedure 6 (some .int) (d + 1) [.ref 70, .int a2, .int a3, .int a4, .int a5] h 0 0 (fun r h' => ∃ v : Int32, r = some (.int v) ∧ 0 ≤ v.toInt ∧ v.toInt ≤ 3 ∧ Iv P h' ∧ ((h.2.1 70 53).toInt ≤ (h'.2.1 70 53).toInt) ∧ (FX KAq h h')) := by
  refine Mt_iv hv (by decide) (Nat.le_of_ble_eq_true rfl) ?_
  show Go l RX8 cX8_procedure 6 (g_rm (d + 1) 0 0) "procedure" (some .int) 117 0 0 (fun _ _ => True) (fun r h' => ∃ v : Int32, r = some (.int v) ∧ 0 ≤ v.toInt ∧ v.toInt ≤ 3 ∧ Iv P h' ∧ ((h.2.1 70 53).toInt ≤ (h'.2.1 70 53).toInt) ∧ (FX KAq h h')) 0 0 [(0, .ref 70), (1, .int a2), (2, .int a3), (3, .int a4), (4, .int a5)] [] h
  obtain ⟨S, hS⟩ : ∃ S : Int, S = (h.2.1 70 6).toInt := ⟨_, rfl⟩
  have S0 : 0 ≤ S := by rw [hS]; exact (hv.2.1 70 6).1
  have S1 : S ≤ 1 := by rw [hS]; exact (hv.2.1 70 6).2
  rw [← hS] at hr
  rw [← hS] at hl
  rw [← hS] at hp
  have fx : FX KAq h h := FX.rfl
  have key : ∀ n : Nat, (∀ (l1 : Int32) (l2 : Int32) (l3 : Int32) (l4 : Int32) (l5 : Int32) (hx : HP), Iv P hx → 0 ≤ l1.toInt → l1.toInt ≤ 4 → 0 ≤ l2.toInt → l2.toInt ≤ 30 → 0 ≤ l5.toInt → l5.toInt ≤ 6 → (l1.toInt = a2.toInt) → (l2.toInt = a3.toInt) → ((h.2.1 70 53).toInt ≤ (hx.2.1 70 53).toInt) → (0 : Int) ≤ (hx.2.1 70 53).toInt → (hx.2.1 70 53).toInt ≤ 3000 → FX KAq h hx → (3 * (6 - l5.toInt) + 2 : Int) < n → Go l RX8 cX8_procedure 6 (g_rm (d + 1) 0 0) "procedure" (some .int) 117 0 0 (fun _ _ => True) (fun r h' => ∃ v : Int32, r = some (.int v) ∧ 0 ≤ v.toInt ∧ v.toInt ≤ 3 ∧ Iv P h' ∧ ((h.2.1 70 53).toInt ≤ (h'.2.1 70 53).toInt) ∧ (FX KAq h h')) 0 3 [(0, .ref 70), (1, .int l1), (2, .int l2), (3, .int l3), (4, .int l4), (5, .int l5)] [] hx) := by
    intro n
    induction n with
    | zero => exact (by intros; omega)
    | succ n ih =>
      refine ?_
      ·
        intro l1 l2 l3 l4 l5 hx hvx l1l l1u l2l l2u l5l l5u x0 x1 x2 y0l y0u fxx hm
        obtain ⟨u70_53, u70_53w⟩ : ∃ v : Int32, v = hx.2.1 70 53 := ⟨_, rfl⟩
        have u70_53e : (hx.2.1 70 53).toInt = u70_53.toInt := by rw [u70_53w]
        have u70_53l : 0 ≤ u70_53.toInt := by rw [u70_53w]; exact (hvx.2.1 70 53).1
        have u70_53u : u70_53.toInt ≤ 3000 := by rw [u70_53w]; exact (hvx.2.1 70 53).2
        refine go_iload (pc := 3) rfl dX8_procedure_3 ?_
        refine go_bipush (pc := 5) (v := 6) (by decide) dX8_procedure_5 ?_
        refine gf_icmp_ge (pc := 7) (tgt := 49) (ti_rfl l5) (ti_c (v := 6) (a := 6) (by decide)) (by decide) dX8_procedure_7 (fun q1 => ?_) (fun q1 => ?_)
        ·
          refine go_aload_n (pc := 49) rfl dX8_procedure_49 ?_
          refine go_aload_n (pc := 50) rfl dX8_procedure_50 ?_
          refine gi_getF (pc := 51) (q := 94) hvx fL_X8_80 rfl (Nat.le_of_ble_eq_true rfl) rfl (hvx.rf (by decide)) dX8_procedure_51 ?_
          refine go_iconst (pc := 54) (v := 5) (by decide) dX8_procedure_54 ?_
          refine go_aload_n (pc := 55) rfl dX8_procedure_55 ?_
          refine gi_get (pc := 56) (lo := 0) (hi := 1) hvx fL_X8_228 rfl (Nat.le_of_ble_eq_true rfl) rfl rfl dX8_procedure_56 (fun v2 v2l v2u v2w => ?_)
          have w29 : v2.toInt = S := by rw [v2w, hvx.fy (j := 29) (by omega), ← hv.fy (j := 29) (by omega)]; exact hl
          refine gf_imul (pc := 59) (ti_c (v := 5) (a := 5) (by decide)) (ti_rfl v2) (by omega) (by omega) dX8_procedure_59 (fun v3 e4 => ?_)
          refine go_iload_n (pc := 60) rfl dX8_procedure_60 ?_
          refine gf_iadd (pc := 61) e4 (ti_rfl l1) (by omega) (by omega) dX8_procedure_61 (fun v5 e6 => ?_)
          refine gi_iald (pc := 62) (lo := 0) (hi := 559) (len := 10) hvx e6 rfl (by omega) (by omega) (fun _ => rfl) dX8_procedure_62 (fun v7 v7l v7u v7w => ?_)
          have v7V : v7.toInt = V h.2.1 94 (((5 * v2.toInt) + l1.toInt)) := by rw [v7w, hvx.fz (c := 94) (by omega) (by omega), ← hv.fz (c := 94) (by omega) (by omega)]; rfl
          refine go_iload_n (pc := 63) rfl dX8_procedure_63 ?_
          have bE : v7.toInt = V h.2.1 94 (5 * S + a2.toInt) := by rw [v7V, w29, x0]
          have wh := hr.1.2.2 a2.toInt (by omega) hp
          have sM8 : (hx.2.1 70 6).toInt = S := by rw [hvx.fy (j := 6) (by omega), ← hv.fy (j := 6) (by omega)]; exact hS.symm
          have g9 : (0 : Int) ≤ (hx.2.1 70 53).toInt := (hvx.2.1 70 53).1
          have g10 : (hx.2.1 70 53).toInt ≤ 3000 := (hvx.2.1 70 53).2
          have g11 : (hx.2.1 70 53).toInt = u70_53.toInt := by rw [← (show u70_53 = hx.2.1 70 53 from u70_53w)] <;> exact (ti_rfl u70_53)
          refine go_invV (pc := 64) (sl := 0) (ihG hvx v7 (by rw [show (v7 : Int32).toInt = v7.toInt from (ti_rfl v7)]; omega) (by rw [show (v7 : Int32).toInt = v7.toInt from (ti_rfl v7)]; omega) l2 (by rw [show (l2 : Int32).toInt = l2.toInt from (ti_rfl l2)]; omega) (by rw [show (l2 : Int32).toInt = l2.toInt from (ti_rfl l2)]; omega) (by rw [sM8]; exact (RT2.ve (VE.of hv hvx) hr)) (by rw [sM8]; exact (by rw [hvx.fy (j := 29) (by omega), ← hv.fy (j := 29) (by omega)]; exact hl)) (CKF.ve (VE.of hv hvx) ckf) (by rw [sM8]; exact (by rw [bE]; exact (BB.ve (VE.of hv hvx)).mpr wh.1)) (by rw [bE, VE.v (VE.of hv hvx) (c := 92) (by omega) (by omega), wh.2]; exact ⟨fun q => by omega, fun q => by omega⟩)) mL_X8_431 iM_X8_goesBlock sM_X8_goesBlock (hvx.sh rfl) rfl rfl rfl (Nat.le_of_ble_eq_true rfl) (show d + 0 + 1 ≤ d + 1 by omega) (show 8 + (5 + 11) + 40 * (d + 0) ≤ 40 * (d + 1) by omega) (g_c0 hvx.ln) (Nat.le_of_ble_eq_true rfl) dX8_procedure_64 ?_
          intro r h12 hq _
          obtain ⟨v15, rfl, v15l, v15u, hv12, f13, f14⟩ := hq
          have fx12 : FX KAq h h12 := FX.tr fxx f14
          obtain ⟨u16, u16w⟩ : ∃ v : Int32, v = h12.2.1 70 53 := ⟨_, rfl⟩
          have u16e : (h12.2.1 70 53).toInt = u16.toInt := by rw [u16w]
          have u16l : 0 ≤ u16.toInt := by rw [u16w]; exact (hv12.2.1 70 53).1
          have u16u : u16.toInt ≤ 3000 := by rw [u16w]; exact (hv12.2.1 70 53).2
          refine go_istore (pc := 67) (Nat.le_of_ble_eq_true rfl) dX8_procedure_67 (go_lv (lv2 := [(0, .ref 70), (1, .int l1), (2, .int l2), (3, .int l3), (4, .int l4), (5, .int v15)]) rfl ?_)
          refine go_iload (pc := 69) rfl dX8_procedure_69 ?_
          refine gf_if_ne (pc := 71) (tgt := 79) (ti_rfl v15) (by decide) dX8_procedure_71 (fun q17 => ?_) (fun q17 => ?_)
          ·
            refine go_iload (pc := 79) rfl dX8_procedure_79 ?_
            refine gf_if_ne (pc := 81) (tgt := 88) (ti_rfl v15) (by decide) dX8_procedure_81 (fun q18 => ?_) (fun q18 => False.elim (by omega))
            refine go_iload (pc := 88) rfl dX8_procedure_88 ?_
            have g19 : (0 : Int) ≤ (h12.2.1 70 53).toInt := (hv12.2.1 70 53).1
            have g20 : (h12.2.1 70 53).toInt ≤ 3000 := (hv12.2.1 70 53).2
            have g21 : (h12.2.1 70 53).toInt = u16.toInt := by rw [← (show u16 = h12.2.1 70 53 from u16w)] <;> exact (ti_rfl u16)
            exact gi_iret (pc := 90) (ti_rfl v15) ⟨_, rfl, (by rw [show (v15 : Int32).toInt = v15.toInt from (ti_rfl v15)]; omega), (by rw [show (v15 : Int32).toInt = v15.toInt from (ti_rfl v15)]; omega), hv12, (by omega), fx12⟩ hv12 dX8_procedure_90
          ·
            refine go_aload_n (pc := 74) rfl dX8_procedure_74 ?_
            refine go_iconst (pc := 75) (v := 0) (by decide) dX8_procedure_75 ?_
            refine gi_put (pc := 76) (lo := -2147483648) (hi := 2147483647) hv12 (ti_c (v := 0) (a := 0) (by decide)) (fP_X8_434 _) rfl (Nat.le_of_ble_eq_true rfl) rfl rfl (ti_ge (ti_c (v := 0) (a := 0) (by decide))) (ti_le2 (ti_c (v := 0) (a := 0) (by decide))) rfl rfl (by decide) (by decide) (by decide) (by decide) dX8_procedure_76 (fun h22 hv22 hv22e => ?_)
            have fx22 : FX KAq h h22 := FX.pI fx12 hv22e (by unfold KAq; omega)
            refine go_iload (pc := 79) rfl dX8_procedure_79 ?_
            refine gf_if_ne (pc := 81) (tgt := 88) (ti_rfl v15) (by decide) dX8_procedure_81 (fun q23 => False.elim (by omega)) (fun q23 => ?_)
            refine go_iconst (pc := 84) (v := 1) (by decide) dX8_procedure_84 ?_
            refine go_goto (pc := 85) (tgt := 90) (by decide) dX8_procedure_85 ?_
            have g24 : (0 : Int) ≤ (h22.2.1 70 53).toInt := (hv22.2.1 70 53).1
            have g25 : (h22.2.1 70 53).toInt ≤ 3000 := (hv22.2.1 70 53).2
            have g26 : (h22.2.1 70 53).toInt = u16.toInt := by rw [← (show u16 = h22.2.1 70 53 from (show u16 = h22.2.1 70 53 from by rw [hv22e]; exact (g_iI rfl u16w.symm).symm))] <;> exact (ti_rfl u16)
            exact gi_iret (pc := 90) (ti_c (v := 1) (a := 1) (by decide)) ⟨_, rfl, (by rw [show (1 : Int32).toInt = 1 from (ti_c (v := 1) (a := 1) (by decide))]; omega), (by rw [show (1 : Int32).toInt = 1 from (ti_c (v := 1) (a := 1) (by decide))]; omega), hv22, (by omega), fx22⟩ hv22 dX8_procedure_90
        ·
          refine go_aload_n (pc := 10) rfl dX8_procedure_10 ?_
          refine gi_getF (pc := 11) (q := 114) hvx fL_X8_142 rfl (Nat.le_of_ble_eq_true rfl) rfl (hvx.rf (by decide)) dX8_procedure_11 ?_
          refine go_bipush (pc := 14) (v := 6) (by decide) dX8_procedure_14 ?_
          refine go_iload_n (pc := 16) rfl dX8_procedure_16 ?_
          refine gf_imul (pc := 17) (ti_c (v := 6) (a := 6) (by decide)) (ti_rfl l2) (by omega) (by omega) dX8_procedure_17 (fun v27 e28 => ?_)
          refine go_iload (pc := 18) rfl dX8_procedure_18 ?_
          refine gf_iadd (pc := 20) e28 (ti_rfl l5) (by omega) (by omega) dX8_procedure_20 (fun v29 e30 => ?_)
          refine go_iload (pc := 21) rfl dX8_procedure_21 ?_
          refine gf_if_ne (pc := 23) (tgt := 30) (ti_rfl l5) (by decide) dX8_procedure_23 (fun q31 => ?_) (fun q31 => ?_)
          ·
            refine go_iload (pc := 30) rfl dX8_procedure_30 ?_
            refine go_iconst (pc := 32) (v := 1) (by decide) dX8_procedure_32 ?_
            refine gf_icmp_ne (pc := 33) (tgt := 41) (ti_rfl l5) (ti_c (v := 1) (a := 1) (by decide)) (by decide) dX8_procedure_33 (fun q32 => ?_) (fun q32 => ?_)
            ·
              refine go_iconst (pc := 41) (v := 0) (by decide) dX8_procedure_41 ?_
              refine gi_iast (pc := 42) (lo := -2147483648) (hi := 2147483647) (len := 192) hvx e30 (ti_c (v := 0) (a := 0) (by decide)) rfl (by omega) (by omega) (fun _ => rfl) (ti_ge (ti_c (v := 0) (a := 0) (by decide))) (ti_le2 (ti_c (v := 0) (a := 0) (by decide))) (by decide) dX8_procedure_42 (fun h33 hv33 hv33e => ?_)
              have fx33 : FX KAq h h33 := FX.pI fxx hv33e (by unfold KAq; omega)
              refine gf_iinc (pc := 43) (Nat.le_of_ble_eq_true rfl) rfl (ti_rfl l5) (ti_c (by decide)) (by omega) (by omega) dX8_procedure_43 (fun v34 e35 => ?_)
              refine go_lv (lv2 := [(0, .ref 70), (1, .int l1), (2, .int l2), (3, .int l3), (4, .int l4), (5, .int v34)]) rfl ?_
              refine go_goto (pc := 46) (tgt := 3) (by decide) dX8_procedure_46 ?_
              have z36 : (v34 : Int32).toInt = (l5.toInt + 1) := e35
              have g37 : (0 : Int) ≤ (h33.2.1 70 53).toInt := (hv33.2.1 70 53).1
              have g38 : (h33.2.1 70 53).toInt ≤ 3000 := (hv33.2.1 70 53).2
              have g39 : (h33.2.1 70 53).toInt = u70_53.toInt := by rw [← (show u70_53 = h33.2.1 70 53 from (show u70_53 = h33.2.1 70 53 from by rw [hv33e]; exact (g_iI rfl u70_53w.symm).symm))] <;> exact (ti_rfl u70_53)
              exact go_lv rfl (ih l1 l2 l3 l4 v34 h33 hv33 (by omega) (by omega) (by omega) (by omega) (by omega) (by omega) (by omega) (by omega) (by omega) (by omega) (by omega) fx33 (by omega))
            ·
              refine go_iload (pc := 36) rfl dX8_procedure_36 ?_
              refine go_goto (pc := 38) (tgt := 42) (by decide) dX8_procedure_38 ?_
              refine gi_iast (pc := 42) (lo := -2147483648) (hi := 2147483647) (len := 192) hvx e30 (ti_rfl l4) rfl (by omega) (by omega) (fun _ => rfl) (ti_ge (ti_rfl l4)) (ti_le2 (ti_rfl l4)) (by decide) dX8_procedure_42 (fun h40 hv40 hv40e => ?_)
              have fx40 : FX KAq h h40 := FX.pI fxx hv40e (by unfold KAq; omega)
              refine gf_iinc (pc := 43) (Nat.le_of_ble_eq_true rfl) rfl (ti_rfl l5) (ti_c (by decide)) (by omega) (by omega) dX8_procedure_43 (fun v41 e42 => ?_)
              refine go_lv (lv2 := [(0, .ref 70), (1, .int l1), (2, .int l2), (3, .int l3), (4, .int l4), (5, .int v41)]) rfl ?_
              refine go_goto (pc := 46) (tgt := 3) (by decide) dX8_procedure_46 ?_
              have z43 : (v41 : Int32).toInt = (l5.toInt + 1) := e42
              have g44 : (0 : Int) ≤ (h40.2.1 70 53).toInt := (hv40.2.1 70 53).1
              have g45 : (h40.2.1 70 53).toInt ≤ 3000 := (hv40.2.1 70 53).2
              have g46 : (h40.2.1 70 53).toInt = u70_53.toInt := by rw [← (show u70_53 = h40.2.1 70 53 from (show u70_53 = h40.2.1 70 53 from by rw [hv40e]; exact (g_iI rfl u70_53w.symm).symm))] <;> exact (ti_rfl u70_53)
              exact go_lv rfl (ih l1 l2 l3 l4 v41 h40 hv40 (by omega) (by omega) (by omega) (by omega) (by omega) (by omega) (by omega) (by omega) (by omega) (by omega) (by omega) fx40 (by omega))
          ·
            refine go_iload_n (pc := 26) rfl dX8_procedure_26 ?_
            refine go_goto (pc := 27) (tgt := 42) (by decide) dX8_procedure_27 ?_
            refine gi_iast (pc := 42) (lo := -2147483648) (hi := 2147483647) (len := 192) hvx e30 (ti_rfl l3) rfl (by omega) (by omega) (fun _ => rfl) (ti_ge (ti_rfl l3)) (ti_le2 (ti_rfl l3)) (by decide) dX8_procedure_42 (fun h47 hv47 hv47e => ?_)
            have fx47 : FX KAq h h47 := FX.pI fxx hv47e (by unfold KAq; omega)
            refine gf_iinc (pc := 43) (Nat.le_of_ble_eq_true rfl) rfl (ti_rfl l5) (ti_c (by decide)) (by omega) (by omega) dX8_procedure_43 (fun v48 e49 => ?_)
            refine go_lv (lv2 := [(0, .ref 70), (1, .int l1), (2, .int l2), (3, .int l3), (4, .int l4), (5, .int v48)]) rfl ?_
            refine go_goto (pc := 46) (tgt := 3) (by decide) dX8_procedure_46 ?_
            have z50 : (v48 : Int32).toInt = (l5.toInt + 1) := e49
            have g51 : (0 : Int) ≤ (h47.2.1 70 53).toInt := (hv47.2.1 70 53).1
            have g52 : (h47.2.1 70 53).toInt ≤ 3000 := (hv47.2.1 70 53).2
            have g53 : (h47.2.1 70 53).toInt = u70_53.toInt := by rw [← (show u70_53 = h47.2.1 70 53 from (show u70_53 = h47.2.1 70 53 from by rw [hv47e]; exact (g_iI rfl u70_53w.symm).symm))] <;> exact (ti_rfl u70_53)
            exact go_lv rfl (ih l1 l2 l3 l4 v48 h47 hv47 (by omega) (by omega) (by omega) (by omega) (by omega) (by omega) (by omega) (by omega) (by omega) (by omega) (by omega) fx47 (by omega))
  refine go_iconst (pc := 0) (v := 0) (by decide) dX8_procedure_0 ?_
  refine go_istore (pc := 1) (Nat.le_of_ble_eq_true rfl) dX8_procedure_1 (go_lv (lv2 := [(0, .ref 70), (1, .int a2), (2, .int a3), (3, .int a4), (4, .int a5), (5, .int 0)]) rfl ?_)
  have z54 : (0 : Int32).toInt = 0 := (ti_c (v := 0) (a := 0) (by decide))
  have g55 : (0 : Int) ≤ (h.2.1 70 53).toInt := (hv.2.1 70 53).1
  have g56 : (h.2.1 70 53).toInt ≤ 3000 := (hv.2.1 70 53).2
  exact go_lv rfl ((key 37) a2 a3 a4 a5 0 h hv (by omega) (by omega) (by omega) (by omega) (by omega) (by omega) (by omega) (by omega) (by omega) (by omega) (by omega) fx (by omega))

