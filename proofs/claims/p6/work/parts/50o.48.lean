
set_option maxHeartbeats 4000000 in
set_option maxRecDepth 100000 in
theorem s_X8_of_f (l : Launch) (d : Nat) {P : PP} {h : HP} (hv : Iv P h) (a2 : Int32) (a3 : Int32) (ckf : CKF h.2.1) (hlv : LV h.2.1) : Mt l yX8_of cX8_of 4 (some .int) (d + 542) [.ref 70, .int a2, .int a3] h 0 0 (fun r h' => ∃ v : Int32, r = some (.int v) ∧ -2147483648 ≤ v.toInt ∧ v.toInt ≤ 2147483647 ∧ Iv (gs P) h' ∧ (FX KAr h h')) := by
  refine Mt_iv hv (by decide) (Nat.le_of_ble_eq_true rfl) ?_
  show Go l RX8 cX8_of 4 (g_rm (d + 542) 0 0) "of" (some .int) 117 0 0 (fun _ _ => True) (fun r h' => ∃ v : Int32, r = some (.int v) ∧ -2147483648 ≤ v.toInt ∧ v.toInt ≤ 2147483647 ∧ Iv (gs P) h' ∧ (FX KAr h h')) 0 0 [(0, .ref 70), (1, .int a2), (2, .int a3)] [] h
  have fx : FX KAr h h := FX.rfl
  refine go_aload_n (pc := 0) rfl dX8_of_0 ?_
  refine go_aload_n (pc := 1) rfl dX8_of_1 ?_
  refine gi_get (pc := 2) (lo := 0) (hi := 1) hv fL_X8_228 rfl (Nat.le_of_ble_eq_true rfl) rfl rfl dX8_of_2 (fun v1 v1l v1u v1w => ?_)
  refine gi_putS (pc := 5) hv v1w (fP_X8_187 _) dX8_of_5 (fun h2 hv2 hv2e => ?_)
  have fx2 : FX KAr h h2 := FX.pI fx hv2e (by unfold KAr; omega)
  refine go_aload_n (pc := 8) rfl dX8_of_8 ?_
  refine go_iload_n (pc := 9) rfl dX8_of_9 ?_
  refine go_invV (pc := 10) (sl := 0) (s_X8_isStatement_x l (d + 539) hv2 a2) mL_X8_389 iM_X8_isStatement sM_X8_isStatement (hv2.sh rfl) rfl rfl rfl (Nat.le_of_ble_eq_true rfl) (show d + 539 + 2 + 1 ≤ d + 542 by omega) (show 8 + (2 + 11) + 40 * (d + 539 + 2) ≤ 40 * (d + 542) by omega) (g_c0 hv2.ln) (Nat.le_of_ble_eq_true rfl) dX8_of_10 ?_
  intro r h3 hq _
  obtain ⟨v5, rfl, v5l, v5u, rfl, f6, f4⟩ := hq
  refine gf_if_ne (pc := 13) (tgt := 18) (ti_rfl v5) (by decide) dX8_of_13 (fun q7 => ?_) (fun q7 => ?_)
  ·
    refine go_aload_n (pc := 18) rfl dX8_of_18 ?_
    refine go_iload_n (pc := 19) rfl dX8_of_19 ?_
    refine go_invV (pc := 20) (sl := 0) (s_X8_item l (d + 540) hv2 a2 (by rw [show (a2 : Int32).toInt = a2.toInt from (ti_rfl a2)]; omega) (by rw [show (a2 : Int32).toInt = a2.toInt from (ti_rfl a2)]; omega)) mL_X8_268 iM_X8_item sM_X8_item (hv2.sh rfl) rfl rfl rfl (Nat.le_of_ble_eq_true rfl) (show d + 540 + 1 + 1 ≤ d + 542 by omega) (show 8 + (2 + 11) + 40 * (d + 540 + 1) ≤ 40 * (d + 542) by omega) (g_c0 hv2.ln) (Nat.le_of_ble_eq_true rfl) dX8_of_20 ?_
    intro r h8 hq _
    obtain ⟨v10, rfl, v10l, v10u, rfl, f9⟩ := hq
    refine go_istore_n (pc := 23) (Nat.le_of_ble_eq_true rfl) dX8_of_23 (go_lv (lv2 := [(0, .ref 70), (1, .int a2), (2, .int a3), (3, .int v10)]) rfl ?_)
    refine go_iload_n (pc := 24) rfl dX8_of_24 ?_
    by_cases q11 : a3.toInt = 0
    ·
      refine go_tableIn (pc := 25) (tgt := 68) (off := 43) (by rw [show (a3 : Int32).toInt = a3.toInt from (ti_rfl a3)]; omega) (by rw [show (a3 : Int32).toInt = a3.toInt from (ti_rfl a3)]; omega) (by rw [show (a3 : Int32).toInt = a3.toInt from (ti_rfl a3), q11]; rfl) (by decide) dX8_of_25 ?_
      refine go_aload_n (pc := 68) rfl dX8_of_68 ?_
      refine gi_getF (pc := 69) (q := 77) hv2 fL_X8_29 rfl (Nat.le_of_ble_eq_true rfl) rfl (hv2.rf (by decide)) dX8_of_69 ?_
      refine go_iload_n (pc := 72) rfl dX8_of_72 ?_
      refine gi_iald (pc := 73) (lo := 0) (hi := 6) (len := 260) hv2 (ti_rfl v10) rfl (by omega) (by omega) (fun _ => rfl) dX8_of_73 (fun v12 v12l v12u v12w => ?_)
      exact gi_iret (pc := 74) (ti_rfl v12) ⟨_, rfl, (ti_lo _), (ti_hi _), hv2, fx2⟩ hv2 dX8_of_74
    by_cases q13 : a3.toInt = 1
    ·
      refine go_tableIn (pc := 25) (tgt := 75) (off := 50) (by rw [show (a3 : Int32).toInt = a3.toInt from (ti_rfl a3)]; omega) (by rw [show (a3 : Int32).toInt = a3.toInt from (ti_rfl a3)]; omega) (by rw [show (a3 : Int32).toInt = a3.toInt from (ti_rfl a3), q13]; rfl) (by decide) dX8_of_25 ?_
      refine go_aload_n (pc := 75) rfl dX8_of_75 ?_
      refine gi_getF (pc := 76) (q := 79) hv2 fL_X8_35 rfl (Nat.le_of_ble_eq_true rfl) rfl (hv2.rf (by decide)) dX8_of_76 ?_
      refine go_iload_n (pc := 79) rfl dX8_of_79 ?_
      refine gi_iald (pc := 80) (lo := 0) (hi := 4) (len := 260) hv2 (ti_rfl v10) rfl (by omega) (by omega) (fun _ => rfl) dX8_of_80 (fun v14 v14l v14u v14w => ?_)
      exact gi_iret (pc := 81) (ti_rfl v14) ⟨_, rfl, (ti_lo _), (ti_hi _), hv2, fx2⟩ hv2 dX8_of_81
    by_cases q15 : a3.toInt = 2
    ·
      refine go_tableIn (pc := 25) (tgt := 82) (off := 57) (by rw [show (a3 : Int32).toInt = a3.toInt from (ti_rfl a3)]; omega) (by rw [show (a3 : Int32).toInt = a3.toInt from (ti_rfl a3)]; omega) (by rw [show (a3 : Int32).toInt = a3.toInt from (ti_rfl a3), q15]; rfl) (by decide) dX8_of_25 ?_
      refine go_aload_n (pc := 82) rfl dX8_of_82 ?_
      refine gi_getF (pc := 83) (q := 80) hv2 fL_X8_38 rfl (Nat.le_of_ble_eq_true rfl) rfl (hv2.rf (by decide)) dX8_of_83 ?_
      refine go_iload_n (pc := 86) rfl dX8_of_86 ?_
      refine gi_iald (pc := 87) (lo := 0) (hi := 6) (len := 260) hv2 (ti_rfl v10) rfl (by omega) (by omega) (fun _ => rfl) dX8_of_87 (fun v16 v16l v16u v16w => ?_)
      exact gi_iret (pc := 88) (ti_rfl v16) ⟨_, rfl, (ti_lo _), (ti_hi _), hv2, fx2⟩ hv2 dX8_of_88
    by_cases q17 : a3.toInt = 3
    ·
      refine go_tableIn (pc := 25) (tgt := 89) (off := 64) (by rw [show (a3 : Int32).toInt = a3.toInt from (ti_rfl a3)]; omega) (by rw [show (a3 : Int32).toInt = a3.toInt from (ti_rfl a3)]; omega) (by rw [show (a3 : Int32).toInt = a3.toInt from (ti_rfl a3), q17]; rfl) (by decide) dX8_of_25 ?_
      refine go_aload_n (pc := 89) rfl dX8_of_89 ?_
      refine gi_getF (pc := 90) (q := 77) hv2 fL_X8_29 rfl (Nat.le_of_ble_eq_true rfl) rfl (hv2.rf (by decide)) dX8_of_90 ?_
      refine go_iload_n (pc := 93) rfl dX8_of_93 ?_
      refine gi_iald (pc := 94) (lo := 0) (hi := 6) (len := 260) hv2 (ti_rfl v10) rfl (by omega) (by omega) (fun _ => rfl) dX8_of_94 (fun v18 v18l v18u v18w => ?_)
      refine go_iconst (pc := 95) (v := 1) (by decide) dX8_of_95 ?_
      refine gf_icmp_ne (pc := 96) (tgt := 108) (ti_rfl v18) (ti_c (v := 1) (a := 1) (by decide)) (by decide) dX8_of_96 (fun q19 => ?_) (fun q19 => ?_)
      ·
        refine go_bipush (pc := 108) (v := (-2)) (by decide) dX8_of_108 ?_
        exact gi_iret (pc := 110) (ti_c (v := (-2)) (a := (-2)) (by decide)) ⟨_, rfl, (ti_lo _), (ti_hi _), hv2, fx2⟩ hv2 dX8_of_110
      ·
        refine go_aload_n (pc := 99) rfl dX8_of_99 ?_
        refine gi_getF (pc := 100) (q := 84) hv2 fL_X8_50 rfl (Nat.le_of_ble_eq_true rfl) rfl (hv2.rf (by decide)) dX8_of_100 ?_
        refine go_iload_n (pc := 103) rfl dX8_of_103 ?_
        refine gi_iald (pc := 104) (lo := -2) (hi := 4) (len := 260) hv2 (ti_rfl v10) rfl (by omega) (by omega) (fun _ => rfl) dX8_of_104 (fun v20 v20l v20u v20w => ?_)
        refine go_goto (pc := 105) (tgt := 110) (by decide) dX8_of_105 ?_
        exact gi_iret (pc := 110) (ti_rfl v20) ⟨_, rfl, (ti_lo _), (ti_hi _), hv2, fx2⟩ hv2 dX8_of_110
    by_cases q21 : a3.toInt = 4
    ·
      refine go_tableIn (pc := 25) (tgt := 111) (off := 86) (by rw [show (a3 : Int32).toInt = a3.toInt from (ti_rfl a3)]; omega) (by rw [show (a3 : Int32).toInt = a3.toInt from (ti_rfl a3)]; omega) (by rw [show (a3 : Int32).toInt = a3.toInt from (ti_rfl a3), q21]; rfl) (by decide) dX8_of_25 ?_
      refine go_aload_n (pc := 111) rfl dX8_of_111 ?_
      refine gi_getF (pc := 112) (q := 81) hv2 fL_X8_41 rfl (Nat.le_of_ble_eq_true rfl) rfl (hv2.rf (by decide)) dX8_of_112 ?_
      refine go_iload_n (pc := 115) rfl dX8_of_115 ?_
      refine gi_iald (pc := 116) (lo := -2147483648) (hi := 2147483647) (len := 260) hv2 (ti_rfl v10) rfl (by omega) (by omega) (fun _ => rfl) dX8_of_116 (fun v22 v22l v22u v22w => ?_)
      exact gi_iret (pc := 117) (ti_rfl v22) ⟨_, rfl, (ti_lo _), (ti_hi _), hv2, fx2⟩ hv2 dX8_of_117
    by_cases q23 : a3.toInt = 5
    ·
      refine go_tableIn (pc := 25) (tgt := 118) (off := 93) (by rw [show (a3 : Int32).toInt = a3.toInt from (ti_rfl a3)]; omega) (by rw [show (a3 : Int32).toInt = a3.toInt from (ti_rfl a3)]; omega) (by rw [show (a3 : Int32).toInt = a3.toInt from (ti_rfl a3), q23]; rfl) (by decide) dX8_of_25 ?_
      refine go_aload_n (pc := 118) rfl dX8_of_118 ?_
      refine go_iload_n (pc := 119) rfl dX8_of_119 ?_
      have lvq := LV.ofgs hv hv2 hlv (f4 (by omega)).1
      refine go_invV (pc := 120) (sl := 0) (s_X8_catcher l (d + 0) hv2 a2 (by rw [show (a2 : Int32).toInt = a2.toInt from (ti_rfl a2)]; omega) (by rw [show (a2 : Int32).toInt = a2.toInt from (ti_rfl a2)]; omega) (by rw [gs6b hv hv2]; exact ⟨lvq.1.1, lvq.1.2.1⟩) (by rw [gs6b hv hv2]; exact (f4 (by omega)).2)) mL_X8_392 iM_X8_catcher sM_X8_catcher (hv2.sh rfl) rfl rfl rfl (Nat.le_of_ble_eq_true rfl) (show d + 0 + 541 + 1 ≤ d + 542 by omega) (show 8 + (5 + 11) + 40 * (d + 0 + 541) ≤ 40 * (d + 542) by omega) (g_c0 hv2.ln) (Nat.le_of_ble_eq_true rfl) dX8_of_120 ?_
      intro r h24 hq _
      obtain ⟨v25, rfl, v25l, v25u, rfl⟩ := hq
      exact gi_iret (pc := 123) (ti_rfl v25) ⟨_, rfl, (ti_lo _), (ti_hi _), hv2, fx2⟩ hv2 dX8_of_123
    by_cases q26 : a3.toInt = 6
    ·
      refine go_tableIn (pc := 25) (tgt := 124) (off := 99) (by rw [show (a3 : Int32).toInt = a3.toInt from (ti_rfl a3)]; omega) (by rw [show (a3 : Int32).toInt = a3.toInt from (ti_rfl a3)]; omega) (by rw [show (a3 : Int32).toInt = a3.toInt from (ti_rfl a3), q26]; rfl) (by decide) dX8_of_25 ?_
      refine go_aload_n (pc := 124) rfl dX8_of_124 ?_
      refine go_iload_n (pc := 125) rfl dX8_of_125 ?_
      refine go_invV (pc := 126) (sl := 0) (s_X8_decides_x l (d + 537) hv2 a2 (by rw [show (a2 : Int32).toInt = a2.toInt from (ti_rfl a2)]; omega) (by rw [show (a2 : Int32).toInt = a2.toInt from (ti_rfl a2)]; omega) (CKF.ve (VE.ofgs hv hv2) ckf)) mL_X8_338 iM_X8_decides sM_X8_decides (hv2.sh rfl) rfl rfl rfl (Nat.le_of_ble_eq_true rfl) (show d + 537 + 4 + 1 ≤ d + 542 by omega) (show 8 + (3 + 11) + 40 * (d + 537 + 4) ≤ 40 * (d + 542) by omega) (g_c0 hv2.ln) (Nat.le_of_ble_eq_true rfl) dX8_of_126 ?_
      intro r h27 hq _
      obtain ⟨v29, rfl, v29l, v29u, rfl, f28⟩ := hq
      refine gf_if_eq (pc := 129) (tgt := 136) (ti_rfl v29) (by decide) dX8_of_129 (fun q30 => ?_) (fun q30 => ?_)
      ·
        refine go_iconst (pc := 136) (v := 0) (by decide) dX8_of_136 ?_
        exact gi_iret (pc := 137) (ti_c (v := 0) (a := 0) (by decide)) ⟨_, rfl, (ti_lo _), (ti_hi _), hv2, fx2⟩ hv2 dX8_of_137
      ·
        refine go_iconst (pc := 132) (v := 1) (by decide) dX8_of_132 ?_
        refine go_goto (pc := 133) (tgt := 137) (by decide) dX8_of_133 ?_
        exact gi_iret (pc := 137) (ti_c (v := 1) (a := 1) (by decide)) ⟨_, rfl, (ti_lo _), (ti_hi _), hv2, fx2⟩ hv2 dX8_of_137
    refine go_tableOut (pc := 25) (tgt := 138) (by rw [show (a3 : Int32).toInt = a3.toInt from (ti_rfl a3)]; omega) (by decide) dX8_of_25 ?_
    refine go_iconst (pc := 138) (v := (-1)) (by decide) dX8_of_138 ?_
    exact gi_iret (pc := 139) (ti_c (v := (-1)) (a := (-1)) (by decide)) ⟨_, rfl, (ti_lo _), (ti_hi _), hv2, fx2⟩ hv2 dX8_of_139
  ·
    refine go_iconst (pc := 16) (v := (-1)) (by decide) dX8_of_16 ?_
    exact gi_iret (pc := 17) (ti_c (v := (-1)) (a := (-1)) (by decide)) ⟨_, rfl, (ti_lo _), (ti_hi _), hv2, fx2⟩ hv2 dX8_of_17
set_option maxHeartbeats 4000000 in
set_option maxRecDepth 100000 in
theorem s_X8_backOf_f (l : Launch) (d : Nat) {P : PP} {h : HP} (hv : Iv P h) (a2 : Int32) (a3 : Int32) (ckf : CKF h.2.1) : Mt l yX8_backOf cX8_backOf 3 (some .long) (d + 6) [.ref 70, .int a2, .int a3] h 0 0 (fun r h' => ∃ v : Int64, r = some (.long v) ∧ Iv (gs P) h' ∧ (FX KAr h h')) := by
  refine Mt_iv hv (by decide) (Nat.le_of_ble_eq_true rfl) ?_
  show Go l RX8 cX8_backOf 3 (g_rm (d + 6) 0 0) "backOf" (some .long) 117 0 0 (fun _ _ => True) (fun r h' => ∃ v : Int64, r = some (.long v) ∧ Iv (gs P) h' ∧ (FX KAr h h')) 0 0 [(0, .ref 70), (1, .int a2), (2, .int a3)] [] h
  have fx : FX KAr h h := FX.rfl
  refine go_aload_n (pc := 0) rfl dX8_backOf_0 ?_
  refine go_aload_n (pc := 1) rfl dX8_backOf_1 ?_
  refine gi_get (pc := 2) (lo := 0) (hi := 1) hv fL_X8_228 rfl (Nat.le_of_ble_eq_true rfl) rfl rfl dX8_backOf_2 (fun v1 v1l v1u v1w => ?_)
  refine gi_putS (pc := 5) hv v1w (fP_X8_187 _) dX8_backOf_5 (fun h2 hv2 hv2e => ?_)
  have fx2 : FX KAr h h2 := FX.pI fx hv2e (by unfold KAr; omega)
  refine go_aload_n (pc := 8) rfl dX8_backOf_8 ?_
  refine go_iload_n (pc := 9) rfl dX8_backOf_9 ?_
  refine go_invV (pc := 10) (sl := 0) (s_X8_isProcedure l (d + 3) hv2 a2) mL_X8_395 iM_X8_isProcedure sM_X8_isProcedure (hv2.sh rfl) rfl rfl rfl (Nat.le_of_ble_eq_true rfl) (show d + 3 + 2 + 1 ≤ d + 6 by omega) (show 8 + (2 + 11) + 40 * (d + 3 + 2) ≤ 40 * (d + 6) by omega) (g_c0 hv2.ln) (Nat.le_of_ble_eq_true rfl) dX8_backOf_10 ?_
  intro r h3 hq _
  obtain ⟨v4, rfl, v4l, v4u, rfl, f5⟩ := hq
  refine gf_if_eq (pc := 13) (tgt := 25) (ti_rfl v4) (by decide) dX8_backOf_13 (fun q6 => ?_) (fun q6 => ?_)
  ·
    refine go_ldc2 (pc := 25) kL_X8_329 dX8_backOf_25 ?_
    exact gi_lret (pc := 28) ⟨_, rfl, hv2, fx2⟩ hv2 dX8_backOf_28
  ·
    refine go_iload_n (pc := 16) rfl dX8_backOf_16 ?_
    refine go_iconst (pc := 17) (v := 0) (by decide) dX8_backOf_17 ?_
    refine go_iconst (pc := 18) (v := 5) (by decide) dX8_backOf_18 ?_
    refine go_invS (pc := 19) (sl := 0) (s_X8_isIn_f l (d + 4) hv2 a3 0 5) mL_X8_159 iM_X8_isIn rfl rfl (Nat.le_of_ble_eq_true rfl) (show d + 4 + 1 + 1 ≤ d + 6 by omega) (show 8 + (3 + 11) + 40 * (d + 4 + 1) ≤ 40 * (d + 6) by omega) (g_c0 hv2.ln) (Nat.le_of_ble_eq_true rfl) dX8_backOf_19 ?_
    intro r h7 hq _
    obtain ⟨v11, rfl, v11l, v11u, rfl, f8, f9, f10⟩ := hq
    try rw [show (0 : Int32).toInt = 0 from (ti_c (v := 0) (a := 0) (by decide))] at f8
    try rw [show (5 : Int32).toInt = 5 from (ti_c (v := 5) (a := 5) (by decide))] at f8
    try rw [show (0 : Int32).toInt = 0 from (ti_c (v := 0) (a := 0) (by decide))] at f9
    try rw [show (5 : Int32).toInt = 5 from (ti_c (v := 5) (a := 5) (by decide))] at f9
    try rw [show (0 : Int32).toInt = 0 from (ti_c (v := 0) (a := 0) (by decide))] at f10
    try rw [show (5 : Int32).toInt = 5 from (ti_c (v := 5) (a := 5) (by decide))] at f10
    refine gf_if_ne (pc := 22) (tgt := 29) (ti_rfl v11) (by decide) dX8_backOf_22 (fun q12 => ?_) (fun q12 => ?_)
    ·
      refine go_aload_n (pc := 29) rfl dX8_backOf_29 ?_
      refine go_invV (pc := 30) (sl := 0) (s_X8_empties_x_f l (d + 4) hv2 ) mL_X8_356 iM_X8_empties sM_X8_empties (hv2.sh rfl) rfl rfl rfl (Nat.le_of_ble_eq_true rfl) (show d + 4 + 1 + 1 ≤ d + 6 by omega) (show 8 + (2 + 11) + 40 * (d + 4 + 1) ≤ 40 * (d + 6) by omega) (g_c0 hv2.ln) (Nat.le_of_ble_eq_true rfl) dX8_backOf_30 ?_
      intro r h13 hq _
      obtain ⟨rfl, hv13, f14, f15, f16⟩ := hq
      have fx13 : FX KAr h h13 := FX.tr fx2 f16
      refine go_aload_n (pc := 33) rfl dX8_backOf_33 ?_
      refine go_iload_n (pc := 34) rfl dX8_backOf_34 ?_
      refine go_bipush (pc := 35) (v := 7) (by decide) dX8_backOf_35 ?_
      refine go_iload_n (pc := 37) rfl dX8_backOf_37 ?_
      refine gf_iadd (pc := 38) (ti_c (v := 7) (a := 7) (by decide)) (ti_rfl a3) (by omega) (by omega) dX8_backOf_38 (fun v17 e18 => ?_)
      refine go_invS (pc := 39) (sl := 0) (s_X8_procedurePlace l (d + 4) hv13 a2 (by rw [show (a2 : Int32).toInt = a2.toInt from (ti_rfl a2)]; omega) (by rw [show (a2 : Int32).toInt = a2.toInt from (ti_rfl a2)]; omega) v17 (by rw [show (v17 : Int32).toInt = (7 + a3.toInt) from e18]; omega) (by rw [show (v17 : Int32).toInt = (7 + a3.toInt) from e18]; omega)) mL_X8_300 iM_X8_procedurePlace rfl rfl (Nat.le_of_ble_eq_true rfl) (show d + 4 + 1 + 1 ≤ d + 6 by omega) (show 8 + (2 + 11) + 40 * (d + 4 + 1) ≤ 40 * (d + 6) by omega) (g_c0 hv13.ln) (Nat.le_of_ble_eq_true rfl) dX8_backOf_39 ?_
      intro r h19 hq _
      obtain ⟨v20, rfl, v20l, v20u, rfl⟩ := hq
      refine go_invV (pc := 42) (sl := 0) (s_X8_reach_f l (d + 3) hv13 v20 (by rw [show (v20 : Int32).toInt = v20.toInt from (ti_rfl v20)]; omega) (by rw [show (v20 : Int32).toInt = v20.toInt from (ti_rfl v20)]; omega) (EM.hw f14)) mL_X8_347 iM_X8_reach sM_X8_reach (hv13.sh rfl) rfl rfl rfl (Nat.le_of_ble_eq_true rfl) (show d + 3 + 2 + 1 ≤ d + 6 by omega) (show 8 + (2 + 11) + 40 * (d + 3 + 2) ≤ 40 * (d + 6) by omega) (g_c0 hv13.ln) (Nat.le_of_ble_eq_true rfl) dX8_backOf_42 ?_
      intro r h21 hq _
      obtain ⟨rfl, hv21, f22, f23⟩ := hq
      have fx21 : FX KAr h h21 := FX.tr fx13 f23
      refine go_aload_n (pc := 45) rfl dX8_backOf_45 ?_
      refine go_invV (pc := 46) (sl := 0) (s_X8_goesBack_f l (d + 0) hv21 (RC.ph f22 (by omega) (by omega) (EM.hw f14)).1 (CKF.ve (VE.ofgs hv hv21) ckf)) mL_X8_375 iM_X8_goesBack sM_X8_goesBack (hv21.sh rfl) rfl rfl rfl (Nat.le_of_ble_eq_true rfl) (show d + 0 + 5 + 1 ≤ d + 6 by omega) (show 8 + (2 + 11) + 40 * (d + 0 + 5) ≤ 40 * (d + 6) by omega) (g_c0 hv21.ln) (Nat.le_of_ble_eq_true rfl) dX8_backOf_46 ?_
      intro r h24 hq _
      obtain ⟨rfl, hv24, f25, f26, f27⟩ := hq
      have fx24 : FX KAr h h24 := FX.tr fx21 f27
      refine go_aload_n (pc := 49) rfl dX8_backOf_49 ?_
      refine go_invV (pc := 50) (sl := 0) (s_X8_inSet l (d + 3) hv24 ) mL_X8_378 iM_X8_inSet sM_X8_inSet (hv24.sh rfl) rfl rfl rfl (Nat.le_of_ble_eq_true rfl) (show d + 3 + 2 + 1 ≤ d + 6 by omega) (show 8 + (5 + 11) + 40 * (d + 3 + 2) ≤ 40 * (d + 6) by omega) (g_c0 hv24.ln) (Nat.le_of_ble_eq_true rfl) dX8_backOf_50 ?_
      intro r h28 hq _
      obtain ⟨v29, rfl, rfl⟩ := hq
      exact gi_lret (pc := 53) ⟨_, rfl, hv24, fx24⟩ hv24 dX8_backOf_53
    ·
      refine go_ldc2 (pc := 25) kL_X8_329 dX8_backOf_25 ?_
      exact gi_lret (pc := 28) ⟨_, rfl, hv2, fx2⟩ hv2 dX8_backOf_28
set_option maxHeartbeats 4000000 in
set_option maxRecDepth 100000 in
theorem s_X8_joins_x_f (l : Launch) (d : Nat) {P : PP} {h : HP} (hv : Iv P h)  : Mt l yX8_joins cX8_joins 2 none (d + 1) [.ref 70] h 0 0 (fun r h' => r = none ∧ Iv P h' ∧ (JN h.2.1 h'.2.1) ∧ (FX KAr h h')) := by
  refine Mt_iv hv (by decide) (Nat.le_of_ble_eq_true rfl) ?_
  show Go l RX8 cX8_joins 2 (g_rm (d + 1) 0 0) "joins" none 117 0 0 (fun _ _ => True) (fun r h' => r = none ∧ Iv P h' ∧ (JN h.2.1 h'.2.1) ∧ (FX KAr h h')) 0 0 [(0, .ref 70)] [] h
  have fx : FX KAr h h := FX.rfl
  have key : ∀ n : Nat, (∀ (l1 : Int32) (hx : HP), Iv P hx → 0 ≤ l1.toInt → l1.toInt ≤ 19 → (∀ j : Nat, hx.2.1 112 j = if (j : Int) < l1.toInt then h.2.1 112 j ||| h.2.1 109 j else h.2.1 112 j) → (∀ c j : Nat, c ≠ 112 → hx.2.1 c j = h.2.1 c j) → FX KAr h hx → (3 * (19 - l1.toInt) + 2 : Int) < n → Go l RX8 cX8_joins 2 (g_rm (d + 1) 0 0) "joins" none 117 0 0 (fun _ _ => True) (fun r h' => r = none ∧ Iv P h' ∧ (JN h.2.1 h'.2.1) ∧ (FX KAr h h')) 0 2 [(0, .ref 70), (1, .int l1)] [] hx) := by
    intro n
    induction n with
    | zero => exact (by intros; omega)
    | succ n ih =>
      refine ?_
      ·
        intro l1 hx hvx l1l l1u x0 x1 fxx hm
        refine go_iload_n (pc := 2) rfl dX8_joins_2 ?_
        refine go_bipush (pc := 3) (v := 19) (by decide) dX8_joins_3 ?_
        refine gf_icmp_ge (pc := 5) (tgt := 29) (ti_rfl l1) (ti_c (v := 19) (a := 19) (by decide)) (by decide) dX8_joins_5 (fun q1 => ?_) (fun q1 => ?_)
        ·
          exact gi_vret (pc := 29) ⟨rfl, hvx, (JN.mk (fun j q => by rw [x0, if_pos (by omega)]) x1), fxx⟩ hvx dX8_joins_29
        ·
          refine go_aload_n (pc := 8) rfl dX8_joins_8 ?_
          refine gi_getF (pc := 9) (q := 112) hvx fL_X8_136 rfl (Nat.le_of_ble_eq_true rfl) rfl (hvx.rf (by decide)) dX8_joins_9 ?_
          refine go_iload_n (pc := 12) rfl dX8_joins_12 ?_
          refine go_dup2 (pc := 13) rfl rfl dX8_joins_13 ?_
          refine gi_iald (pc := 14) (lo := -2147483648) (hi := 2147483647) (len := 19) hvx (ti_rfl l1) rfl (by omega) (by omega) (fun _ => rfl) dX8_joins_14 (fun v2 v2l v2u v2w => ?_)
          refine go_aload_n (pc := 15) rfl dX8_joins_15 ?_
          refine gi_getF (pc := 16) (q := 109) hvx fL_X8_127 rfl (Nat.le_of_ble_eq_true rfl) rfl (hvx.rf (by decide)) dX8_joins_16 ?_
          refine go_iload_n (pc := 19) rfl dX8_joins_19 ?_
          refine gi_iald (pc := 20) (lo := -2147483648) (hi := 2147483647) (len := 19) hvx (ti_rfl l1) rfl (by omega) (by omega) (fun _ => rfl) dX8_joins_20 (fun v3 v3l v3u v3w => ?_)
          refine gx_ior (pc := 21) dX8_joins_21 (fun v4 v4x => ?_)
          refine gi_iast (pc := 22) (lo := -2147483648) (hi := 2147483647) (len := 19) hvx (ti_rfl l1) (ti_rfl v4) rfl (by omega) (by omega) (fun _ => rfl) (ti_ge (ti_rfl v4)) (ti_le2 (ti_rfl v4)) (by decide) dX8_joins_22 (fun h5 hv5 hv5e => ?_)
          have fx5 : FX KAr h h5 := FX.pI fxx hv5e (by unfold KAr; omega)
          refine gf_iinc (pc := 23) (Nat.le_of_ble_eq_true rfl) rfl (ti_rfl l1) (ti_c (by decide)) (by omega) (by omega) dX8_joins_23 (fun v6 e7 => ?_)
          refine go_lv (lv2 := [(0, .ref 70), (1, .int v6)]) rfl ?_
          refine go_goto (pc := 26) (tgt := 2) (by decide) dX8_joins_26 ?_
          have z8 : (v6 : Int32).toInt = (l1.toInt + 1) := e7
          exact go_lv rfl (ih v6 h5 hv5 (by omega) (by omega) (fun j => by rw [hv5e]; show (if 112 = 112 ∧ j = (l1.toInt).toNat then v4 else hx.2.1 112 j) = _; by_cases q : j = (l1.toInt).toNat; (rw [if_pos ⟨rfl, q⟩, if_pos (by omega), v4x, v2w, v3w, x0, if_neg (by omega), x1 109 _ (by omega), q]); (rw [if_neg (by omega), x0]; by_cases q2 : (j : Int) < l1.toInt; (rw [if_pos q2, if_pos (by omega)]); (rw [if_neg q2, if_neg (by omega)]))) (fun c j q => by rw [hv5e]; show (if c = 112 ∧ j = _ then _ else hx.2.1 c j) = _; rw [if_neg (by omega)]; exact x1 c j q) fx5 (by omega))
  refine go_iconst (pc := 0) (v := 0) (by decide) dX8_joins_0 ?_
  refine go_istore_n (pc := 1) (Nat.le_of_ble_eq_true rfl) dX8_joins_1 (go_lv (lv2 := [(0, .ref 70), (1, .int 0)]) rfl ?_)
  have z9 : (0 : Int32).toInt = 0 := (ti_c (v := 0) (a := 0) (by decide))
  exact go_lv rfl ((key 76) 0 h hv (by omega) (by omega) (fun j => by rw [if_neg (by omega)]) (fun _ _ _ => rfl) fx (by omega))
set_option maxHeartbeats 4000000 in
set_option maxRecDepth 100000 in
theorem s_X8_keptFor_f (l : Launch) (d : Nat) {P : PP} {h : HP} (hv : Iv P h) (a2 : Int32) (a2l : 0 ≤ a2.toInt) (a2u : a2.toInt ≤ 39) (ckf : CKF h.2.1) : Mt l yX8_keptFor cX8_keptFor 6 (some .long) (d + 6) [.ref 70, .int a2] h 0 0 (fun r h' => ∃ v : Int64, r = some (.long v) ∧ Iv (gs P) h' ∧ (FX KAr h h')) := by
  refine Mt_iv hv (by decide) (Nat.le_of_ble_eq_true rfl) ?_
  show Go l RX8 cX8_keptFor 6 (g_rm (d + 6) 0 0) "keptFor" (some .long) 117 0 0 (fun _ _ => True) (fun r h' => ∃ v : Int64, r = some (.long v) ∧ Iv (gs P) h' ∧ (FX KAr h h')) 0 0 [(0, .ref 70), (1, .int a2)] [] h
  have fx : FX KAr h h := FX.rfl
  have key : ∀ n : Nat, (∀ (l1 : Int32) (l2 : Int32) (hx : HP), Iv (gs P) hx → 0 ≤ l1.toInt → l1.toInt ≤ 39 → 0 ≤ l2.toInt → l2.toInt ≤ 19 → FX KAr h hx → (100000000 + (19 - l2.toInt) : Int) < n → Go l RX8 cX8_keptFor 6 (g_rm (d + 6) 0 0) "keptFor" (some .long) 117 0 0 (fun _ _ => True) (fun r h' => ∃ v : Int64, r = some (.long v) ∧ Iv (gs P) h' ∧ (FX KAr h h')) 0 10 [(0, .ref 70), (1, .int l1), (2, .int l2)] [] hx) ∧ (∀ (l2 : Int32) (hx : HP), Iv (gs P) hx → 0 ≤ l2.toInt → l2.toInt ≤ 1 → (0 ≤ ct hx.2.1 112 ∧ ct hx.2.1 112 ≤ 585) → FX KAr h hx → (10000 * (585 - ct hx.2.1 112) + 10000 * l2.toInt + 5000 : Int) < n → Go l RX8 cX8_keptFor 6 (g_rm (d + 6) 0 0) "keptFor" (some .long) 117 0 0 (fun _ _ => True) (fun r h' => ∃ v : Int64, r = some (.long v) ∧ Iv (gs P) h' ∧ (FX KAr h h')) 0 48 [(0, .ref 70), (2, .int l2)] [] hx) ∧ (∀ (l2 : Int32) (l3 : Int32) (hx : HP), Iv (gs P) hx → 0 ≤ l2.toInt → l2.toInt ≤ 1 → 0 ≤ l3.toInt → l3.toInt ≤ 240 → (0 ≤ ct hx.2.1 112 ∧ ct hx.2.1 112 ≤ 585) → FX KAr h hx → (10000 * (585 - ct hx.2.1 112) + 10000 * l2.toInt + 6000 + 10 * (240 - l3.toInt) : Int) < n → Go l RX8 cX8_keptFor 6 (g_rm (d + 6) 0 0) "keptFor" (some .long) 117 0 0 (fun _ _ => True) (fun r h' => ∃ v : Int64, r = some (.long v) ∧ Iv (gs P) h' ∧ (FX KAr h h')) 0 56 [(0, .ref 70), (2, .int l2), (3, .int l3)] [] hx) ∧ (∀ (l3 : Int64) (l5 : Int32) (hx : HP), Iv (gs P) hx → 0 ≤ l5.toInt → l5.toInt ≤ 40 → FX KAr h hx → (100 - l5.toInt : Int) < n → Go l RX8 cX8_keptFor 6 (g_rm (d + 6) 0 0) "keptFor" (some .long) 117 0 0 (fun _ _ => True) (fun r h' => ∃ v : Int64, r = some (.long v) ∧ Iv (gs P) h' ∧ (FX KAr h h')) 0 137 [(0, .ref 70), (3, .long l3), (5, .int l5)] [] hx) := by
    intro n
    induction n with
    | zero => exact ⟨(by intros; omega), (by intros; omega), (by intros; omega), (by intros; omega)⟩
    | succ n ih =>
      refine ⟨?_, ?_, ?_, ?_⟩
      ·
        intro l1 l2 hx hvx l1l l1u l2l l2u fxx hm
        refine go_iload_n (pc := 10) rfl dX8_keptFor_10 ?_
        refine go_bipush (pc := 11) (v := 19) (by decide) dX8_keptFor_11 ?_
        refine gf_icmp_ge (pc := 13) (tgt := 29) (ti_rfl l2) (ti_c (v := 19) (a := 19) (by decide)) (by decide) dX8_keptFor_13 (fun q1 => ?_) (fun q1 => ?_)
        ·
          refine go_aload_n (pc := 29) rfl dX8_keptFor_29 ?_
          refine go_invV (pc := 30) (sl := 0) (s_X8_empties_x_f l (d + 4) hvx ) mL_X8_356 iM_X8_empties sM_X8_empties (hvx.sh rfl) rfl rfl rfl (Nat.le_of_ble_eq_true rfl) (show d + 4 + 1 + 1 ≤ d + 6 by omega) (show 8 + (2 + 11) + 40 * (d + 4 + 1) ≤ 40 * (d + 6) by omega) (g_c0 hvx.ln) (Nat.le_of_ble_eq_true rfl) dX8_keptFor_30 ?_
          intro r h2 hq _
          obtain ⟨rfl, hv2, f3, f4, f5⟩ := hq
          have fx2 : FX KAr h h2 := FX.tr fxx f5
          refine go_aload_n (pc := 33) rfl dX8_keptFor_33 ?_
          refine go_iload_n (pc := 34) rfl dX8_keptFor_34 ?_
          refine go_invV (pc := 35) (sl := 0) (s_X8_reachAll_f l (d + 2) hv2 l1 (by rw [show (l1 : Int32).toInt = l1.toInt from (ti_rfl l1)]; omega) (by rw [show (l1 : Int32).toInt = l1.toInt from (ti_rfl l1)]; omega) (EM.hw f3)) mL_X8_372 iM_X8_reachAll sM_X8_reachAll (hv2.sh rfl) rfl rfl rfl (Nat.le_of_ble_eq_true rfl) (show d + 2 + 3 + 1 ≤ d + 6 by omega) (show 8 + (3 + 11) + 40 * (d + 2 + 3) ≤ 40 * (d + 6) by omega) (g_c0 hv2.ln) (Nat.le_of_ble_eq_true rfl) dX8_keptFor_35 ?_
          intro r h6 hq _
          obtain ⟨rfl, hv6, f7, f8⟩ := hq
          have fx6 : FX KAr h h6 := FX.tr fx2 f8
          refine go_aload_n (pc := 38) rfl dX8_keptFor_38 ?_
          refine go_invV (pc := 39) (sl := 0) (s_X8_goesBack_f l (d + 0) hv6 f7.1 (CKF.ve (VE.ofgs hv hv6) ckf)) mL_X8_375 iM_X8_goesBack sM_X8_goesBack (hv6.sh rfl) rfl rfl rfl (Nat.le_of_ble_eq_true rfl) (show d + 0 + 5 + 1 ≤ d + 6 by omega) (show 8 + (2 + 11) + 40 * (d + 0 + 5) ≤ 40 * (d + 6) by omega) (g_c0 hv6.ln) (Nat.le_of_ble_eq_true rfl) dX8_keptFor_39 ?_
          intro r h9 hq _
          obtain ⟨rfl, hv9, f10, f11, f12⟩ := hq
          have fx9 : FX KAr h h9 := FX.tr fx6 f12
          refine go_aload_n (pc := 42) rfl dX8_keptFor_42 ?_
          refine go_invV (pc := 43) (sl := 0) (s_X8_joins_x_f l (d + 4) hv9 ) mL_X8_407 iM_X8_joins sM_X8_joins (hv9.sh rfl) rfl rfl rfl (Nat.le_of_ble_eq_true rfl) (show d + 4 + 1 + 1 ≤ d + 6 by omega) (show 8 + (2 + 11) + 40 * (d + 4 + 1) ≤ 40 * (d + 6) by omega) (g_c0 hv9.ln) (Nat.le_of_ble_eq_true rfl) dX8_keptFor_43 ?_
          intro r h13 hq _
          obtain ⟨rfl, hv13, f14, f15⟩ := hq
          have fx13 : FX KAr h h13 := FX.tr fx9 f15
          have ctz := ct_lo h13.2.1 112
          refine go_iconst (pc := 46) (v := 1) (by decide) dX8_keptFor_46 ?_
          refine go_istore_n (pc := 47) (Nat.le_of_ble_eq_true rfl) dX8_keptFor_47 (go_lv (lv2 := [(0, .ref 70), (1, .int l1), (2, .int 1)]) rfl ?_)
          have z16 : (1 : Int32).toInt = 1 := (ti_c (v := 1) (a := 1) (by decide))
          exact go_lv rfl (ih.2.1 1 h13 hv13 (by omega) (by omega) ⟨ct_lo _ _, ct_hi _ _⟩ fx13 (by omega))
        ·
          refine go_aload_n (pc := 16) rfl dX8_keptFor_16 ?_
          refine gi_getF (pc := 17) (q := 112) hvx fL_X8_136 rfl (Nat.le_of_ble_eq_true rfl) rfl (hvx.rf (by decide)) dX8_keptFor_17 ?_
          refine go_iload_n (pc := 20) rfl dX8_keptFor_20 ?_
          refine go_iconst (pc := 21) (v := 0) (by decide) dX8_keptFor_21 ?_
          refine gi_iast (pc := 22) (lo := -2147483648) (hi := 2147483647) (len := 19) hvx (ti_rfl l2) (ti_c (v := 0) (a := 0) (by decide)) rfl (by omega) (by omega) (fun _ => rfl) (ti_ge (ti_c (v := 0) (a := 0) (by decide))) (ti_le2 (ti_c (v := 0) (a := 0) (by decide))) (by decide) dX8_keptFor_22 (fun h17 hv17 hv17e => ?_)
          have fx17 : FX KAr h h17 := FX.pI fxx hv17e (by unfold KAr; omega)
          refine gf_iinc (pc := 23) (Nat.le_of_ble_eq_true rfl) rfl (ti_rfl l2) (ti_c (by decide)) (by omega) (by omega) dX8_keptFor_23 (fun v18 e19 => ?_)
          refine go_lv (lv2 := [(0, .ref 70), (1, .int l1), (2, .int v18)]) rfl ?_
          refine go_goto (pc := 26) (tgt := 10) (by decide) dX8_keptFor_26 ?_
          have z20 : (v18 : Int32).toInt = (l2.toInt + 1) := e19
          exact go_lv rfl (ih.1 l1 v18 h17 hv17 (by omega) (by omega) (by omega) (by omega) fx17 (by omega))
      ·
        intro l2 hx hvx l2l l2u x0 fxx hm
        refine go_iload_n (pc := 48) rfl dX8_keptFor_48 ?_
        refine gf_if_eq (pc := 49) (tgt := 132) (ti_rfl l2) (by decide) dX8_keptFor_49 (fun q21 => ?_) (fun q21 => ?_)
        ·
          refine go_lconst (pc := 132) (v := 0) (by decide) dX8_keptFor_132 ?_
          refine go_lstore_n (pc := 133) (Nat.le_of_ble_eq_true rfl) dX8_keptFor_133 (go_lv (lv2 := [(0, .ref 70), (2, .int l2), (3, .long 0)]) rfl ?_)
          refine go_iconst (pc := 134) (v := 0) (by decide) dX8_keptFor_134 ?_
          refine go_istore (pc := 135) (Nat.le_of_ble_eq_true rfl) dX8_keptFor_135 (go_lv (lv2 := [(0, .ref 70), (2, .int l2), (3, .long 0), (5, .int 0)]) rfl ?_)
          have z22 : (0 : Int32).toInt = 0 := (ti_c (v := 0) (a := 0) (by decide))
          exact go_lv rfl (ih.2.2.2 0 0 hx hvx (by omega) (by omega) fxx (by omega))
        ·
          refine go_iconst (pc := 52) (v := 0) (by decide) dX8_keptFor_52 ?_
          refine go_istore_n (pc := 53) (Nat.le_of_ble_eq_true rfl) dX8_keptFor_53 (go_lv (lv2 := [(0, .ref 70), (2, .int 0)]) rfl ?_)
          refine go_iconst (pc := 54) (v := 0) (by decide) dX8_keptFor_54 ?_
          refine go_istore_n (pc := 55) (Nat.le_of_ble_eq_true rfl) dX8_keptFor_55 (go_lv (lv2 := [(0, .ref 70), (2, .int 0), (3, .int 0)]) rfl ?_)
          have z23 : (0 : Int32).toInt = 0 := (ti_c (v := 0) (a := 0) (by decide))
          have z24 : (0 : Int32).toInt = 0 := (ti_c (v := 0) (a := 0) (by decide))
          exact go_lv rfl (ih.2.2.1 0 0 hx hvx (by omega) (by omega) (by omega) (by omega) ⟨ct_lo _ _, ct_hi _ _⟩ fxx (by omega))
      ·
        intro l2 l3 hx hvx l2l l2u l3l l3u x0 fxx hm
        refine go_iload_n (pc := 56) rfl dX8_keptFor_56 ?_
        refine go_bipush (pc := 57) (v := 6) (by decide) dX8_keptFor_57 ?_
        refine go_aload_n (pc := 59) rfl dX8_keptFor_59 ?_
        refine gi_getF (pc := 60) (q := 75) hvx fL_X8_23 rfl (Nat.le_of_ble_eq_true rfl) rfl (hvx.rf (by decide)) dX8_keptFor_60 ?_
        refine go_aload_n (pc := 63) rfl dX8_keptFor_63 ?_
        refine gi_get (pc := 64) (lo := 0) (hi := 1) hvx fL_X8_228 rfl (Nat.le_of_ble_eq_true rfl) rfl rfl dX8_keptFor_64 (fun v25 v25l v25u v25w => ?_)
        refine gi_iald (pc := 67) (lo := 0) (hi := 40) (len := 2) hvx (ti_rfl v25) rfl (by omega) (by omega) (fun _ => rfl) dX8_keptFor_67 (fun v26 v26l v26u v26w => ?_)
        refine gf_imul (pc := 68) (ti_c (v := 6) (a := 6) (by decide)) (ti_rfl v26) (by omega) (by omega) dX8_keptFor_68 (fun v27 e28 => ?_)
        refine gf_icmp_ge (pc := 69) (tgt := 129) (ti_rfl l3) e28 (by decide) dX8_keptFor_69 (fun q29 => ?_) (fun q29 => ?_)
        ·
          refine go_goto (pc := 129) (tgt := 48) (by decide) dX8_keptFor_129 ?_
          exact go_lv rfl (ih.2.1 l2 hx hvx (by omega) (by omega) ⟨ct_lo _ _, ct_hi _ _⟩ fxx (by omega))
        ·
          refine go_aload_n (pc := 72) rfl dX8_keptFor_72 ?_
          refine go_iload_n (pc := 73) rfl dX8_keptFor_73 ?_
          refine go_bipush (pc := 74) (v := 6) (by decide) dX8_keptFor_74 ?_
          refine gf_idiv (pc := 76) (ti_rfl l3) (ti_c (v := 6) (a := 6) (by decide)) (by omega) (by omega) dX8_keptFor_76 (fun v30 e31 => ?_)
          refine go_iconst (pc := 77) (v := 1) (by decide) dX8_keptFor_77 ?_
          refine go_iload_n (pc := 78) rfl dX8_keptFor_78 ?_
          refine go_bipush (pc := 79) (v := 6) (by decide) dX8_keptFor_79 ?_
          refine gf_irem (pc := 81) (ti_rfl l3) (ti_c (v := 6) (a := 6) (by decide)) (by omega) (by omega) dX8_keptFor_81 (fun v32 e33 => ?_)
          refine gf_iadd (pc := 82) (ti_c (v := 1) (a := 1) (by decide)) e33 (by omega) (by omega) dX8_keptFor_82 (fun v34 e35 => ?_)
          refine go_invV (pc := 83) (sl := 0) (s_X8_isWanted_x l (d + 2) hvx v30 (by rw [show (v30 : Int32).toInt = (l3.toInt / 6) from e31]; omega) (by rw [show (v30 : Int32).toInt = (l3.toInt / 6) from e31]; omega) v34 (by rw [show (v34 : Int32).toInt = (1 + (l3.toInt % 6)) from e35]; omega) (by rw [show (v34 : Int32).toInt = (1 + (l3.toInt % 6)) from e35]; omega) (CKF.ve (VE.ofgs hv hvx) ckf)) mL_X8_410 iM_X8_isWanted sM_X8_isWanted (hvx.sh rfl) rfl rfl rfl (Nat.le_of_ble_eq_true rfl) (show d + 2 + 3 + 1 ≤ d + 6 by omega) (show 8 + (3 + 11) + 40 * (d + 2 + 3) ≤ 40 * (d + 6) by omega) (g_c0 hvx.ln) (Nat.le_of_ble_eq_true rfl) dX8_keptFor_83 ?_
          intro r h36 hq _
          obtain ⟨v38, rfl, v38l, v38u, rfl, f37⟩ := hq
          try rw [show (v30 : Int32).toInt = (l3.toInt / 6) from e31] at f37
          try rw [show (v34 : Int32).toInt = (1 + (l3.toInt % 6)) from e35] at f37
          refine gf_if_ne (pc := 86) (tgt := 92) (ti_rfl v38) (by decide) dX8_keptFor_86 (fun q39 => ?_) (fun q39 => ?_)
          ·
            refine go_aload_n (pc := 92) rfl dX8_keptFor_92 ?_
            refine go_invV (pc := 93) (sl := 0) (s_X8_empties_x_f l (d + 4) hvx ) mL_X8_356 iM_X8_empties sM_X8_empties (hvx.sh rfl) rfl rfl rfl (Nat.le_of_ble_eq_true rfl) (show d + 4 + 1 + 1 ≤ d + 6 by omega) (show 8 + (2 + 11) + 40 * (d + 4 + 1) ≤ 40 * (d + 6) by omega) (g_c0 hvx.ln) (Nat.le_of_ble_eq_true rfl) dX8_keptFor_93 ?_
            intro r h40 hq _
            obtain ⟨rfl, hv40, f41, f42, f43⟩ := hq
            have fx40 : FX KAr h h40 := FX.tr fxx f43
            refine go_aload_n (pc := 96) rfl dX8_keptFor_96 ?_
            refine go_iload_n (pc := 97) rfl dX8_keptFor_97 ?_
            refine go_bipush (pc := 98) (v := 6) (by decide) dX8_keptFor_98 ?_
            refine gf_idiv (pc := 100) (ti_rfl l3) (ti_c (v := 6) (a := 6) (by decide)) (by omega) (by omega) dX8_keptFor_100 (fun v44 e45 => ?_)
            refine go_iconst (pc := 101) (v := 1) (by decide) dX8_keptFor_101 ?_
            refine go_iload_n (pc := 102) rfl dX8_keptFor_102 ?_
            refine go_bipush (pc := 103) (v := 6) (by decide) dX8_keptFor_103 ?_
            refine gf_irem (pc := 105) (ti_rfl l3) (ti_c (v := 6) (a := 6) (by decide)) (by omega) (by omega) dX8_keptFor_105 (fun v46 e47 => ?_)
            refine gf_iadd (pc := 106) (ti_c (v := 1) (a := 1) (by decide)) e47 (by omega) (by omega) dX8_keptFor_106 (fun v48 e49 => ?_)
            refine go_invS (pc := 107) (sl := 0) (s_X8_statementPlace_x l (d + 4) hv40 v44 (by rw [show (v44 : Int32).toInt = (l3.toInt / 6) from e45]; omega) (by rw [show (v44 : Int32).toInt = (l3.toInt / 6) from e45]; omega) v48 (by rw [show (v48 : Int32).toInt = (1 + (l3.toInt % 6)) from e49]; omega) (by rw [show (v48 : Int32).toInt = (1 + (l3.toInt % 6)) from e49]; omega)) mL_X8_291 iM_X8_statementPlace rfl rfl (Nat.le_of_ble_eq_true rfl) (show d + 4 + 1 + 1 ≤ d + 6 by omega) (show 8 + (2 + 11) + 40 * (d + 4 + 1) ≤ 40 * (d + 6) by omega) (g_c0 hv40.ln) (Nat.le_of_ble_eq_true rfl) dX8_keptFor_107 ?_
            intro r h50 hq _
            obtain ⟨v52, rfl, v52l, v52u, rfl, f51⟩ := hq
            try rw [show (v44 : Int32).toInt = (l3.toInt / 6) from e45] at f51
            try rw [show (v48 : Int32).toInt = (1 + (l3.toInt % 6)) from e49] at f51
            refine go_invV (pc := 110) (sl := 0) (s_X8_reach_f l (d + 3) hv40 v52 (by rw [show (v52 : Int32).toInt = v52.toInt from (ti_rfl v52)]; omega) (by rw [show (v52 : Int32).toInt = v52.toInt from (ti_rfl v52)]; omega) (EM.hw f41)) mL_X8_347 iM_X8_reach sM_X8_reach (hv40.sh rfl) rfl rfl rfl (Nat.le_of_ble_eq_true rfl) (show d + 3 + 2 + 1 ≤ d + 6 by omega) (show 8 + (2 + 11) + 40 * (d + 3 + 2) ≤ 40 * (d + 6) by omega) (g_c0 hv40.ln) (Nat.le_of_ble_eq_true rfl) dX8_keptFor_110 ?_
            intro r h53 hq _
            obtain ⟨rfl, hv53, f54, f55⟩ := hq
            have fx53 : FX KAr h h53 := FX.tr fx40 f55
            refine go_aload_n (pc := 113) rfl dX8_keptFor_113 ?_
            refine go_invV (pc := 114) (sl := 0) (s_X8_goesBack_f l (d + 0) hv53 (RC.ph f54 (by omega) (by omega) (EM.hw f41)).1 (CKF.ve (VE.ofgs hv hv53) ckf)) mL_X8_375 iM_X8_goesBack sM_X8_goesBack (hv53.sh rfl) rfl rfl rfl (Nat.le_of_ble_eq_true rfl) (show d + 0 + 5 + 1 ≤ d + 6 by omega) (show 8 + (2 + 11) + 40 * (d + 0 + 5) ≤ 40 * (d + 6) by omega) (g_c0 hv53.ln) (Nat.le_of_ble_eq_true rfl) dX8_keptFor_114 ?_
            intro r h56 hq _
            obtain ⟨rfl, hv56, f57, f58, f59⟩ := hq
            have fx56 : FX KAr h h56 := FX.tr fx53 f59
            refine go_aload_n (pc := 117) rfl dX8_keptFor_117 ?_
            refine go_invV (pc := 118) (sl := 0) (s_X8_joins_x_f l (d + 4) hv56 ) mL_X8_407 iM_X8_joins sM_X8_joins (hv56.sh rfl) rfl rfl rfl (Nat.le_of_ble_eq_true rfl) (show d + 4 + 1 + 1 ≤ d + 6 by omega) (show 8 + (2 + 11) + 40 * (d + 4 + 1) ≤ 40 * (d + 6) by omega) (g_c0 hv56.ln) (Nat.le_of_ble_eq_true rfl) dX8_keptFor_118 ?_
            intro r h60 hq _
            obtain ⟨rfl, hv60, f61, f62⟩ := hq
            have fx60 : FX KAr h h60 := FX.tr fx56 f62
            have nw : ¬ sb hx.2.1 112 (13 * (l3.toInt / 6) + (1 + l3.toInt % 6)) := f37 (by omega)
            rw [← f51] at nw
            have stp := kept_step (by omega) (by omega) f42 f54 f57 f58 f61 nw
            have sth := ct_hi h60.2.1 112
            refine go_iconst (pc := 121) (v := 1) (by decide) dX8_keptFor_121 ?_
            refine go_istore_n (pc := 122) (Nat.le_of_ble_eq_true rfl) dX8_keptFor_122 (go_lv (lv2 := [(0, .ref 70), (2, .int 1), (3, .int l3)]) rfl ?_)
            refine gf_iinc (pc := 123) (Nat.le_of_ble_eq_true rfl) rfl (ti_rfl l3) (ti_c (by decide)) (by omega) (by omega) dX8_keptFor_123 (fun v63 e64 => ?_)
            refine go_lv (lv2 := [(0, .ref 70), (2, .int 1), (3, .int v63)]) rfl ?_
            refine go_goto (pc := 126) (tgt := 56) (by decide) dX8_keptFor_126 ?_
            have z65 : (1 : Int32).toInt = 1 := (ti_c (v := 1) (a := 1) (by decide))
            have z66 : (v63 : Int32).toInt = (l3.toInt + 1) := e64
            exact go_lv rfl (ih.2.2.1 1 v63 h60 hv60 (by omega) (by omega) (by omega) (by omega) ⟨ct_lo _ _, ct_hi _ _⟩ fx60 (by omega))
          ·
            refine go_goto (pc := 89) (tgt := 123) (by decide) dX8_keptFor_89 ?_
            refine gf_iinc (pc := 123) (Nat.le_of_ble_eq_true rfl) rfl (ti_rfl l3) (ti_c (by decide)) (by omega) (by omega) dX8_keptFor_123 (fun v67 e68 => ?_)
            refine go_lv (lv2 := [(0, .ref 70), (2, .int l2), (3, .int v67)]) rfl ?_
            refine go_goto (pc := 126) (tgt := 56) (by decide) dX8_keptFor_126 ?_
            have z69 : (v67 : Int32).toInt = (l3.toInt + 1) := e68
            exact go_lv rfl (ih.2.2.1 l2 v67 hx hvx (by omega) (by omega) (by omega) (by omega) ⟨ct_lo _ _, ct_hi _ _⟩ fxx (by omega))
      ·
        intro l3 l5 hx hvx l5l l5u fxx hm
        refine go_iload (pc := 137) rfl dX8_keptFor_137 ?_
        refine go_aload_n (pc := 139) rfl dX8_keptFor_139 ?_
        refine gi_getF (pc := 140) (q := 75) hvx fL_X8_23 rfl (Nat.le_of_ble_eq_true rfl) rfl (hvx.rf (by decide)) dX8_keptFor_140 ?_
        refine go_aload_n (pc := 143) rfl dX8_keptFor_143 ?_
        refine gi_get (pc := 144) (lo := 0) (hi := 1) hvx fL_X8_228 rfl (Nat.le_of_ble_eq_true rfl) rfl rfl dX8_keptFor_144 (fun v70 v70l v70u v70w => ?_)
        refine gi_iald (pc := 147) (lo := 0) (hi := 40) (len := 2) hvx (ti_rfl v70) rfl (by omega) (by omega) (fun _ => rfl) dX8_keptFor_147 (fun v71 v71l v71u v71w => ?_)
        refine gf_icmp_ge (pc := 148) (tgt := 173) (ti_rfl l5) (ti_rfl v71) (by decide) dX8_keptFor_148 (fun q72 => ?_) (fun q72 => ?_)
        ·
          refine go_lload_n (pc := 173) rfl dX8_keptFor_173 ?_
          exact gi_lret (pc := 174) ⟨_, rfl, hvx, fxx⟩ hvx dX8_keptFor_174
        ·
          refine go_aload_n (pc := 151) rfl dX8_keptFor_151 ?_
          refine go_iload (pc := 152) rfl dX8_keptFor_152 ?_
          refine go_invV (pc := 154) (sl := 0) (s_X8_isAnyKept l (d + 3) hvx l5 (by rw [show (l5 : Int32).toInt = l5.toInt from (ti_rfl l5)]; omega) (by rw [show (l5 : Int32).toInt = l5.toInt from (ti_rfl l5)]; omega)) mL_X8_404 iM_X8_isAnyKept sM_X8_isAnyKept (hvx.sh rfl) rfl rfl rfl (Nat.le_of_ble_eq_true rfl) (show d + 3 + 2 + 1 ≤ d + 6 by omega) (show 8 + (3 + 11) + 40 * (d + 3 + 2) ≤ 40 * (d + 6) by omega) (g_c0 hvx.ln) (Nat.le_of_ble_eq_true rfl) dX8_keptFor_154 ?_
          intro r h73 hq _
          obtain ⟨v74, rfl, v74l, v74u, rfl⟩ := hq
          refine gf_if_eq (pc := 157) (tgt := 167) (ti_rfl v74) (by decide) dX8_keptFor_157 (fun q75 => ?_) (fun q75 => ?_)
          ·
            refine gf_iinc (pc := 167) (Nat.le_of_ble_eq_true rfl) rfl (ti_rfl l5) (ti_c (by decide)) (by omega) (by omega) dX8_keptFor_167 (fun v76 e77 => ?_)
            refine go_lv (lv2 := [(0, .ref 70), (3, .long l3), (5, .int v76)]) rfl ?_
            refine go_goto (pc := 170) (tgt := 137) (by decide) dX8_keptFor_170 ?_
            have z78 : (v76 : Int32).toInt = (l5.toInt + 1) := e77
            exact go_lv rfl (ih.2.2.2 l3 v76 hx hvx (by omega) (by omega) fxx (by omega))
          ·
            refine go_lload_n (pc := 160) rfl dX8_keptFor_160 ?_
            refine go_lconst (pc := 161) (v := 1) (by decide) dX8_keptFor_161 ?_
            refine go_iload (pc := 162) rfl dX8_keptFor_162 ?_
            refine gu_lshl (pc := 164) dX8_keptFor_164 (fun v79 => ?_)
            refine gu_lor (pc := 165) dX8_keptFor_165 (fun v80 => ?_)
            refine go_lstore_n (pc := 166) (Nat.le_of_ble_eq_true rfl) dX8_keptFor_166 (go_lv (lv2 := [(0, .ref 70), (3, .long v80), (5, .int l5)]) rfl ?_)
            refine gf_iinc (pc := 167) (Nat.le_of_ble_eq_true rfl) rfl (ti_rfl l5) (ti_c (by decide)) (by omega) (by omega) dX8_keptFor_167 (fun v81 e82 => ?_)
            refine go_lv (lv2 := [(0, .ref 70), (3, .long v80), (5, .int v81)]) rfl ?_
            refine go_goto (pc := 170) (tgt := 137) (by decide) dX8_keptFor_170 ?_
            have z83 : (v81 : Int32).toInt = (l5.toInt + 1) := e82
            exact go_lv rfl (ih.2.2.2 v80 v81 hx hvx (by omega) (by omega) fxx (by omega))
  refine go_aload_n (pc := 0) rfl dX8_keptFor_0 ?_
  refine go_aload_n (pc := 1) rfl dX8_keptFor_1 ?_
  refine gi_get (pc := 2) (lo := 0) (hi := 1) hv fL_X8_228 rfl (Nat.le_of_ble_eq_true rfl) rfl rfl dX8_keptFor_2 (fun v84 v84l v84u v84w => ?_)
  refine gi_putS (pc := 5) hv v84w (fP_X8_187 _) dX8_keptFor_5 (fun h85 hv85 hv85e => ?_)
  have fx85 : FX KAr h h85 := FX.pI fx hv85e (by unfold KAr; omega)
  refine go_iconst (pc := 8) (v := 0) (by decide) dX8_keptFor_8 ?_
  refine go_istore_n (pc := 9) (Nat.le_of_ble_eq_true rfl) dX8_keptFor_9 (go_lv (lv2 := [(0, .ref 70), (1, .int a2), (2, .int 0)]) rfl ?_)
  have z86 : (0 : Int32).toInt = 0 := (ti_c (v := 0) (a := 0) (by decide))
  exact go_lv rfl ((key 200000001).1 a2 0 h85 hv85 (by omega) (by omega) (by omega) (by omega) fx85 (by omega))
set_option maxHeartbeats 4000000 in
set_option maxRecDepth 100000 in
theorem s_X8_kept_f (l : Launch) (d : Nat) {P : PP} {h : HP} (hv : Iv P h) (a2 : Int32) (ckf : CKF h.2.1) : Mt l yX8_kept cX8_kept 2 (some .long) (d + 7) [.ref 70, .int a2] h 0 0 (fun r h' => ∃ v : Int64, r = some (.long v) ∧ (∃ Q : PP, Iv Q h' ∧ SQ P Q) ∧ (FX KAr h h')) := by
  refine Mt_iv hv (by decide) (Nat.le_of_ble_eq_true rfl) ?_
  show Go l RX8 cX8_kept 2 (g_rm (d + 7) 0 0) "kept" (some .long) 117 0 0 (fun _ _ => True) (fun r h' => ∃ v : Int64, r = some (.long v) ∧ (∃ Q : PP, Iv Q h' ∧ SQ P Q) ∧ (FX KAr h h')) 0 0 [(0, .ref 70), (1, .int a2)] [] h
  have fx : FX KAr h h := FX.rfl
  refine go_aload_n (pc := 0) rfl dX8_kept_0 ?_
  refine go_iload_n (pc := 1) rfl dX8_kept_1 ?_
  refine go_invV (pc := 2) (sl := 0) (s_X8_isStatement l (d + 4) hv a2) mL_X8_389 iM_X8_isStatement sM_X8_isStatement (hv.sh rfl) rfl rfl rfl (Nat.le_of_ble_eq_true rfl) (show d + 4 + 2 + 1 ≤ d + 7 by omega) (show 8 + (2 + 11) + 40 * (d + 4 + 2) ≤ 40 * (d + 7) by omega) (g_c0 hv.ln) (Nat.le_of_ble_eq_true rfl) dX8_kept_2 ?_
  intro r h1 hq _
  obtain ⟨v2, rfl, v2l, v2u, rfl, f3⟩ := hq
  refine gf_if_eq (pc := 5) (tgt := 16) (ti_rfl v2) (by decide) dX8_kept_5 (fun q4 => ?_) (fun q4 => ?_)
  ·
    refine go_ldc2 (pc := 16) kL_X8_329 dX8_kept_16 ?_
    exact gi_lret (pc := 19) ⟨_, rfl, ⟨_, hv, (SQ.rfl _)⟩, fx⟩ hv dX8_kept_19
  ·
    refine go_aload_n (pc := 8) rfl dX8_kept_8 ?_
    refine go_iload_n (pc := 9) rfl dX8_kept_9 ?_
    refine go_invV (pc := 10) (sl := 0) (s_X8_keptFor_f l (d + 0) hv a2 (by rw [show (a2 : Int32).toInt = a2.toInt from (ti_rfl a2)]; omega) (by rw [show (a2 : Int32).toInt = a2.toInt from (ti_rfl a2)]; omega) ckf) mL_X8_413 iM_X8_keptFor sM_X8_keptFor (hv.sh rfl) rfl rfl rfl (Nat.le_of_ble_eq_true rfl) (show d + 0 + 6 + 1 ≤ d + 7 by omega) (show 8 + (6 + 11) + 40 * (d + 0 + 6) ≤ 40 * (d + 7) by omega) (g_c0 hv.ln) (Nat.le_of_ble_eq_true rfl) dX8_kept_10 ?_
    intro r h5 hq _
    obtain ⟨v7, rfl, hv5, f6⟩ := hq
    have fx5 : FX KAr h h5 := FX.tr fx f6
    refine go_goto (pc := 13) (tgt := 19) (by decide) dX8_kept_13 ?_
    exact gi_lret (pc := 19) ⟨_, rfl, ⟨_, hv5, (SQ.ofgs _)⟩, fx5⟩ hv5 dX8_kept_19
