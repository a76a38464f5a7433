def f_X8_isStatement2 (s : ST) (a2 : Int) : Int :=
  bd (s.1 70 30) fun v1 => if v1 = 0 then (0) else (bd (s.1 70 29) fun v6 => bd (s.1 75 (v6).toNat) fun v8 => bd (f_X8_isIn s a2 0 ((v8 - 1))) fun v16 => if v16 = 0 then (0) else (1))
set_option maxHeartbeats 4000000 in
set_option maxRecDepth 100000 in
theorem s_X8_isStatement2_f (l : Launch) (d : Nat) {P : PP} {h : HP} (hv : Iv P h) (a2 : Int32) : Mt l yX8_isStatement cX8_isStatement 2 (some .boolean) (d + 2) [.ref 70, .int a2] h 0 0 (fun r h' => ∃ v : Int32, r = some (.int v) ∧ 0 ≤ v.toInt ∧ v.toInt ≤ 1 ∧ h = h' ∧ (v.toInt = 1 → 0 ≤ a2.toInt ∧ a2.toInt ≤ 39) ∧ (v.toInt = f_X8_isStatement2 (st h) a2.toInt)) := by
  refine Mt_iv hv (by decide) (Nat.le_of_ble_eq_true rfl) ?_
  show Go l RX8 cX8_isStatement 2 (g_rm (d + 2) 0 0) "isStatement" (some .boolean) 117 0 0 (fun _ _ => True) (fun r h' => ∃ v : Int32, r = some (.int v) ∧ 0 ≤ v.toInt ∧ v.toInt ≤ 1 ∧ h = h' ∧ (v.toInt = 1 → 0 ≤ a2.toInt ∧ a2.toInt ≤ 39) ∧ (v.toInt = f_X8_isStatement2 (st h) a2.toInt)) 0 0 [(0, .ref 70), (1, .int a2)] [] h
  obtain ⟨fin, kf⟩ : ∃ z, z = f_X8_isStatement2 (st h) a2.toInt := ⟨_, _root_.rfl⟩
  have k0 := kf
  unfold f_X8_isStatement2 at k0
  refine go_aload_n (pc := 0) rfl dX8_isStatement_0 ?_
  refine gi_get (pc := 1) (lo := 0) (hi := 1) hv fL_X8_243 rfl (Nat.le_of_ble_eq_true rfl) rfl rfl dX8_isStatement_1 (fun v1 v1l v1u v1w => ?_)
  have k2 := bd_e k0 (congrArg Int32.toInt v1w.symm)
  refine gf_if_eq (pc := 4) (tgt := 30) (ti_rfl v1) (by decide) dX8_isStatement_4 (fun q3 => ?_) (fun q3 => ?_)
  ·
    have k4 := if_t k2 q3
    refine go_iconst (pc := 30) (v := 0) (by decide) dX8_isStatement_30 ?_
    exact gi_zret (pc := 31) (ti_c (v := 0) (a := 0) (by decide)) (by omega) (by omega) ⟨_, rfl, (by rw [show (0 : Int32).toInt = 0 from (ti_c (v := 0) (a := 0) (by decide))]; omega), (by rw [show (0 : Int32).toInt = 0 from (ti_c (v := 0) (a := 0) (by decide))]; omega), rfl, (by rw [show (0 : Int32).toInt = 0 from (ti_c (v := 0) (a := 0) (by decide))]; omega), (by rw [show (0 : Int32).toInt = 0 from (ti_c (v := 0) (a := 0) (by decide))]; exact k4.symm.trans kf)⟩ hv dX8_isStatement_31
  ·
    have k5 := if_f k2 q3
    refine go_iload_n (pc := 7) rfl dX8_isStatement_7 ?_
    refine go_iconst (pc := 8) (v := 0) (by decide) dX8_isStatement_8 ?_
    refine go_aload_n (pc := 9) rfl dX8_isStatement_9 ?_
    refine gi_getF (pc := 10) (q := 75) hv fL_X8_23 rfl (Nat.le_of_ble_eq_true rfl) rfl (hv.rf (by decide)) dX8_isStatement_10 ?_
    refine go_aload_n (pc := 13) rfl dX8_isStatement_13 ?_
    refine gi_get (pc := 14) (lo := 0) (hi := 1) hv fL_X8_228 rfl (Nat.le_of_ble_eq_true rfl) rfl rfl dX8_isStatement_14 (fun v6 v6l v6u v6w => ?_)
    have k7 := bd_e k5 (congrArg Int32.toInt v6w.symm)
    refine gi_iald (pc := 17) (lo := 0) (hi := 40) (len := 2) hv (ti_rfl v6) rfl (by omega) (by omega) (fun _ => rfl) dX8_isStatement_17 (fun v8 v8l v8u v8w => ?_)
    have k9 := bd_e k7 (congrArg Int32.toInt v8w.symm)
    refine go_iconst (pc := 18) (v := 1) (by decide) dX8_isStatement_18 ?_
    refine gf_isub (pc := 19) (ti_rfl v8) (ti_c (v := 1) (a := 1) (by decide)) (by omega) (by omega) dX8_isStatement_19 (fun v10 e11 => ?_)
    refine go_invS (pc := 20) (sl := 0) (s_X8_isIn_f l (d + 0) hv a2 0 v10) mL_X8_159 iM_X8_isIn rfl rfl (Nat.le_of_ble_eq_true rfl) (show d + 0 + 1 + 1 ≤ d + 2 by omega) (show 8 + (3 + 11) + 40 * (d + 0 + 1) ≤ 40 * (d + 2) by omega) (g_c0 hv.ln) (Nat.le_of_ble_eq_true rfl) dX8_isStatement_20 ?_
    intro r h12 hq _
    obtain ⟨v16, rfl, v16l, v16u, rfl, f13, f14, f15⟩ := hq
    try rw [show (0 : Int32).toInt = 0 from (ti_c (v := 0) (a := 0) (by decide))] at f13
    try rw [show (v10 : Int32).toInt = (v8.toInt - 1) from e11] at f13
    try rw [show (0 : Int32).toInt = 0 from (ti_c (v := 0) (a := 0) (by decide))] at f14
    try rw [show (v10 : Int32).toInt = (v8.toInt - 1) from e11] at f14
    try rw [show (0 : Int32).toInt = 0 from (ti_c (v := 0) (a := 0) (by decide))] at f15
    try rw [show (v10 : Int32).toInt = (v8.toInt - 1) from e11] at f15
    replace f15 : PE _ _ := f15
    have k17 := bd_e k9 f15.symm
    refine gf_if_eq (pc := 23) (tgt := 30) (ti_rfl v16) (by decide) dX8_isStatement_23 (fun q18 => ?_) (fun q18 => ?_)
    ·
      have k19 := if_t k17 q18
      refine go_iconst (pc := 30) (v := 0) (by decide) dX8_isStatement_30 ?_
      exact gi_zret (pc := 31) (ti_c (v := 0) (a := 0) (by decide)) (by omega) (by omega) ⟨_, rfl, (by rw [show (0 : Int32).toInt = 0 from (ti_c (v := 0) (a := 0) (by decide))]; omega), (by rw [show (0 : Int32).toInt = 0 from (ti_c (v := 0) (a := 0) (by decide))]; omega), rfl, (by rw [show (0 : Int32).toInt = 0 from (ti_c (v := 0) (a := 0) (by decide))]; omega), (by rw [show (0 : Int32).toInt = 0 from (ti_c (v := 0) (a := 0) (by decide))]; exact k19.symm.trans kf)⟩ hv dX8_isStatement_31
    ·
      have k20 := if_f k17 q18
      refine go_iconst (pc := 26) (v := 1) (by decide) dX8_isStatement_26 ?_
      refine go_goto (pc := 27) (tgt := 31) (by decide) dX8_isStatement_27 ?_
      exact gi_zret (pc := 31) (ti_c (v := 1) (a := 1) (by decide)) (by omega) (by omega) ⟨_, rfl, (by rw [show (1 : Int32).toInt = 1 from (ti_c (v := 1) (a := 1) (by decide))]; omega), (by rw [show (1 : Int32).toInt = 1 from (ti_c (v := 1) (a := 1) (by decide))]; omega), rfl, (by rw [show (1 : Int32).toInt = 1 from (ti_c (v := 1) (a := 1) (by decide))]; omega), (by rw [show (1 : Int32).toInt = 1 from (ti_c (v := 1) (a := 1) (by decide))]; exact k20.symm.trans kf)⟩ hv dX8_isStatement_31
def f_X8_isProcedure2 (s : ST) (a2 : Int) : Int :=
  bd (s.1 70 30) fun v1 => if v1 = 0 then (0) else (bd (s.1 70 29) fun v6 => bd (s.1 76 (v6).toNat) fun v8 => bd (f_X8_isIn s a2 0 ((v8 - 1))) fun v16 => if v16 = 0 then (0) else (1))
set_option maxHeartbeats 4000000 in
set_option maxRecDepth 100000 in
theorem s_X8_isProcedure2_f (l : Launch) (d : Nat) {P : PP} {h : HP} (hv : Iv P h) (a2 : Int32) : Mt l yX8_isProcedure cX8_isProcedure 2 (some .boolean) (d + 2) [.ref 70, .int a2] h 0 0 (fun r h' => ∃ v : Int32, r = some (.int v) ∧ 0 ≤ v.toInt ∧ v.toInt ≤ 1 ∧ h = h' ∧ (v.toInt = 1 → 0 ≤ a2.toInt ∧ a2.toInt ≤ 4) ∧ (v.toInt = f_X8_isProcedure2 (st h) a2.toInt)) := by
  refine Mt_iv hv (by decide) (Nat.le_of_ble_eq_true rfl) ?_
  show Go l RX8 cX8_isProcedure 2 (g_rm (d + 2) 0 0) "isProcedure" (some .boolean) 117 0 0 (fun _ _ => True) (fun r h' => ∃ v : Int32, r = some (.int v) ∧ 0 ≤ v.toInt ∧ v.toInt ≤ 1 ∧ h = h' ∧ (v.toInt = 1 → 0 ≤ a2.toInt ∧ a2.toInt ≤ 4) ∧ (v.toInt = f_X8_isProcedure2 (st h) a2.toInt)) 0 0 [(0, .ref 70), (1, .int a2)] [] h
  obtain ⟨fin, kf⟩ : ∃ z, z = f_X8_isProcedure2 (st h) a2.toInt := ⟨_, _root_.rfl⟩
  have k0 := kf
  unfold f_X8_isProcedure2 at k0
  refine go_aload_n (pc := 0) rfl dX8_isProcedure_0 ?_
  refine gi_get (pc := 1) (lo := 0) (hi := 1) hv fL_X8_243 rfl (Nat.le_of_ble_eq_true rfl) rfl rfl dX8_isProcedure_1 (fun v1 v1l v1u v1w => ?_)
  have k2 := bd_e k0 (congrArg Int32.toInt v1w.symm)
  refine gf_if_eq (pc := 4) (tgt := 30) (ti_rfl v1) (by decide) dX8_isProcedure_4 (fun q3 => ?_) (fun q3 => ?_)
  ·
    have k4 := if_t k2 q3
    refine go_iconst (pc := 30) (v := 0) (by decide) dX8_isProcedure_30 ?_
    exact gi_zret (pc := 31) (ti_c (v := 0) (a := 0) (by decide)) (by omega) (by omega) ⟨_, rfl, (by rw [show (0 : Int32).toInt = 0 from (ti_c (v := 0) (a := 0) (by decide))]; omega), (by rw [show (0 : Int32).toInt = 0 from (ti_c (v := 0) (a := 0) (by decide))]; omega), rfl, (by rw [show (0 : Int32).toInt = 0 from (ti_c (v := 0) (a := 0) (by decide))]; omega), (by rw [show (0 : Int32).toInt = 0 from (ti_c (v := 0) (a := 0) (by decide))]; exact k4.symm.trans kf)⟩ hv dX8_isProcedure_31
  ·
    have k5 := if_f k2 q3
    refine go_iload_n (pc := 7) rfl dX8_isProcedure_7 ?_
    refine go_iconst (pc := 8) (v := 0) (by decide) dX8_isProcedure_8 ?_
    refine go_aload_n (pc := 9) rfl dX8_isProcedure_9 ?_
    refine gi_getF (pc := 10) (q := 76) hv fL_X8_26 rfl (Nat.le_of_ble_eq_true rfl) rfl (hv.rf (by decide)) dX8_isProcedure_10 ?_
    refine go_aload_n (pc := 13) rfl dX8_isProcedure_13 ?_
    refine gi_get (pc := 14) (lo := 0) (hi := 1) hv fL_X8_228 rfl (Nat.le_of_ble_eq_true rfl) rfl rfl dX8_isProcedure_14 (fun v6 v6l v6u v6w => ?_)
    have k7 := bd_e k5 (congrArg Int32.toInt v6w.symm)
    refine gi_iald (pc := 17) (lo := 0) (hi := 5) (len := 2) hv (ti_rfl v6) rfl (by omega) (by omega) (fun _ => rfl) dX8_isProcedure_17 (fun v8 v8l v8u v8w => ?_)
    have k9 := bd_e k7 (congrArg Int32.toInt v8w.symm)
    refine go_iconst (pc := 18) (v := 1) (by decide) dX8_isProcedure_18 ?_
    refine gf_isub (pc := 19) (ti_rfl v8) (ti_c (v := 1) (a := 1) (by decide)) (by omega) (by omega) dX8_isProcedure_19 (fun v10 e11 => ?_)
    refine go_invS (pc := 20) (sl := 0) (s_X8_isIn_f l (d + 0) hv a2 0 v10) mL_X8_159 iM_X8_isIn rfl rfl (Nat.le_of_ble_eq_true rfl) (show d + 0 + 1 + 1 ≤ d + 2 by omega) (show 8 + (3 + 11) + 40 * (d + 0 + 1) ≤ 40 * (d + 2) by omega) (g_c0 hv.ln) (Nat.le_of_ble_eq_true rfl) dX8_isProcedure_20 ?_
    intro r h12 hq _
    obtain ⟨v16, rfl, v16l, v16u, rfl, f13, f14, f15⟩ := hq
    try rw [show (0 : Int32).toInt = 0 from (ti_c (v := 0) (a := 0) (by decide))] at f13
    try rw [show (v10 : Int32).toInt = (v8.toInt - 1) from e11] at f13
    try rw [show (0 : Int32).toInt = 0 from (ti_c (v := 0) (a := 0) (by decide))] at f14
    try rw [show (v10 : Int32).toInt = (v8.toInt - 1) from e11] at f14
    try rw [show (0 : Int32).toInt = 0 from (ti_c (v := 0) (a := 0) (by decide))] at f15
    try rw [show (v10 : Int32).toInt = (v8.toInt - 1) from e11] at f15
    replace f15 : PE _ _ := f15
    have k17 := bd_e k9 f15.symm
    refine gf_if_eq (pc := 23) (tgt := 30) (ti_rfl v16) (by decide) dX8_isProcedure_23 (fun q18 => ?_) (fun q18 => ?_)
    ·
      have k19 := if_t k17 q18
      refine go_iconst (pc := 30) (v := 0) (by decide) dX8_isProcedure_30 ?_
      exact gi_zret (pc := 31) (ti_c (v := 0) (a := 0) (by decide)) (by omega) (by omega) ⟨_, rfl, (by rw [show (0 : Int32).toInt = 0 from (ti_c (v := 0) (a := 0) (by decide))]; omega), (by rw [show (0 : Int32).toInt = 0 from (ti_c (v := 0) (a := 0) (by decide))]; omega), rfl, (by rw [show (0 : Int32).toInt = 0 from (ti_c (v := 0) (a := 0) (by decide))]; omega), (by rw [show (0 : Int32).toInt = 0 from (ti_c (v := 0) (a := 0) (by decide))]; exact k19.symm.trans kf)⟩ hv dX8_isProcedure_31
    ·
      have k20 := if_f k17 q18
      refine go_iconst (pc := 26) (v := 1) (by decide) dX8_isProcedure_26 ?_
      refine go_goto (pc := 27) (tgt := 31) (by decide) dX8_isProcedure_27 ?_
      exact gi_zret (pc := 31) (ti_c (v := 1) (a := 1) (by decide)) (by omega) (by omega) ⟨_, rfl, (by rw [show (1 : Int32).toInt = 1 from (ti_c (v := 1) (a := 1) (by decide))]; omega), (by rw [show (1 : Int32).toInt = 1 from (ti_c (v := 1) (a := 1) (by decide))]; omega), rfl, (by rw [show (1 : Int32).toInt = 1 from (ti_c (v := 1) (a := 1) (by decide))]; omega), (by rw [show (1 : Int32).toInt = 1 from (ti_c (v := 1) (a := 1) (by decide))]; exact k20.symm.trans kf)⟩ hv dX8_isProcedure_31
def f_X8_hangs2 (s : ST) (a2 : Int) (a3 : Int) : Int :=
  bd (f_X8_isStatement2 s a2) fun v3 => if v3 = 0 then (0) else (bd (f_X8_isStatement2 s a3) fun v11 => if ¬ v11 = 0 then (bd (s.2.1 104 (a2).toNat) fun v16 => bd (f_X8_has2 s v16 a3) fun v20 => if v20 = 0 then (bd (s.2.1 105 (a2).toNat) fun v24 => bd (f_X8_has2 s v24 a3) fun v28 => if v28 = 0 then ((0 + 0)) else ((0 + 2))) else (bd (s.2.1 105 (a2).toNat) fun v38 => bd (f_X8_has2 s v38 a3) fun v42 => if v42 = 0 then ((1 + 0)) else ((1 + 2)))) else (0))
set_option maxHeartbeats 4000000 in
set_option maxRecDepth 100000 in
theorem s_X8_hangs2_f (l : Launch) (d : Nat) {P : PP} {h : HP} (hv : Iv P h) (a2 : Int32) (a3 : Int32) : Mt l yX8_hangs cX8_hangs 3 (some .int) (d + 3) [.ref 70, .int a2, .int a3] h 0 0 (fun r h' => ∃ v : Int32, r = some (.int v) ∧ -2147483648 ≤ v.toInt ∧ v.toInt ≤ 2147483647 ∧ h = h' ∧ (v.toInt = f_X8_hangs2 (st h) a2.toInt a3.toInt)) := by
  refine Mt_iv hv (by decide) (Nat.le_of_ble_eq_true rfl) ?_
  show Go l RX8 cX8_hangs 3 (g_rm (d + 3) 0 0) "hangs" (some .int) 117 0 0 (fun _ _ => True) (fun r h' => ∃ v : Int32, r = some (.int v) ∧ -2147483648 ≤ v.toInt ∧ v.toInt ≤ 2147483647 ∧ h = h' ∧ (v.toInt = f_X8_hangs2 (st h) a2.toInt a3.toInt)) 0 0 [(0, .ref 70), (1, .int a2), (2, .int a3)] [] h
  obtain ⟨fin, kf⟩ : ∃ z, z = f_X8_hangs2 (st h) a2.toInt a3.toInt := ⟨_, _root_.rfl⟩
  have k0 := kf
  unfold f_X8_hangs2 at k0
  refine go_aload_n (pc := 0) rfl dX8_hangs_0 ?_
  refine go_iload_n (pc := 1) rfl dX8_hangs_1 ?_
  refine go_invV (pc := 2) (sl := 0) (s_X8_isStatement2_f l (d + 0) hv a2) mL_X8_389 iM_X8_isStatement sM_X8_isStatement (hv.sh rfl) rfl rfl rfl (Nat.le_of_ble_eq_true rfl) (show d + 0 + 2 + 1 ≤ d + 3 by omega) (show 8 + (2 + 11) + 40 * (d + 0 + 2) ≤ 40 * (d + 3) by omega) (g_c0 hv.ln) (Nat.le_of_ble_eq_true rfl) dX8_hangs_2 ?_
  intro r h1 hq _
  obtain ⟨v3, rfl, v3l, v3u, rfl, f4, f2⟩ := hq
  replace f2 : PE _ _ := f2
  have k5 := bd_e k0 f2.symm
  refine gf_if_eq (pc := 5) (tgt := 16) (ti_rfl v3) (by decide) dX8_hangs_5 (fun q6 => ?_) (fun q6 => ?_)
  ·
    have k7 := if_t k5 q6
    refine go_iconst (pc := 16) (v := 0) (by decide) dX8_hangs_16 ?_
    exact gi_iret (pc := 17) (ti_c (v := 0) (a := 0) (by decide)) ⟨_, rfl, (ti_lo _), (ti_hi _), rfl, (by rw [show (0 : Int32).toInt = 0 from (ti_c (v := 0) (a := 0) (by decide))]; exact k7.symm.trans kf)⟩ hv dX8_hangs_17
  ·
    have k8 := if_f k5 q6
    refine go_aload_n (pc := 8) rfl dX8_hangs_8 ?_
    refine go_iload_n (pc := 9) rfl dX8_hangs_9 ?_
    refine go_invV (pc := 10) (sl := 0) (s_X8_isStatement2_f l (d + 0) hv a3) mL_X8_389 iM_X8_isStatement sM_X8_isStatement (hv.sh rfl) rfl rfl rfl (Nat.le_of_ble_eq_true rfl) (show d + 0 + 2 + 1 ≤ d + 3 by omega) (show 8 + (2 + 11) + 40 * (d + 0 + 2) ≤ 40 * (d + 3) by omega) (g_c0 hv.ln) (Nat.le_of_ble_eq_true rfl) dX8_hangs_10 ?_
    intro r h9 hq _
    obtain ⟨v11, rfl, v11l, v11u, rfl, f12, f10⟩ := hq
    replace f10 : PE _ _ := f10
    have k13 := bd_e k8 f10.symm
    refine gf_if_ne (pc := 13) (tgt := 18) (ti_rfl v11) (by decide) dX8_hangs_13 (fun q14 => ?_) (fun q14 => ?_)
    ·
      have k15 := if_t k13 q14
      refine go_aload_n (pc := 18) rfl dX8_hangs_18 ?_
      refine gi_getF (pc := 19) (q := 104) hv fL_X8_111 rfl (Nat.le_of_ble_eq_true rfl) rfl (hv.rf (by decide)) dX8_hangs_19 ?_
      refine go_iload_n (pc := 22) rfl dX8_hangs_22 ?_
      refine gi_lald (pc := 23) (len := 40) hv (ti_rfl a2) rfl (by omega) (by omega) dX8_hangs_23 (fun v16 v16w => ?_)
      have k17 := bd_e k15 v16w.symm
      refine go_iload_n (pc := 24) rfl dX8_hangs_24 ?_
      refine go_invS (pc := 25) (sl := 0) (s_X8_has2_f l (d + 1) hv v16 a3) mL_X8_280 iM_X8_has rfl rfl (Nat.le_of_ble_eq_true rfl) (show d + 1 + 1 + 1 ≤ d + 3 by omega) (show 8 + (3 + 11) + 40 * (d + 1 + 1) ≤ 40 * (d + 3) by omega) (g_c0 hv.ln) (Nat.le_of_ble_eq_true rfl) dX8_hangs_25 ?_
      intro r h18 hq _
      obtain ⟨v20, rfl, v20l, v20u, rfl, f19⟩ := hq
      replace f19 : PE _ _ := f19
      have k21 := bd_e k17 f19.symm
      refine gf_if_eq (pc := 28) (tgt := 35) (ti_rfl v20) (by decide) dX8_hangs_28 (fun q22 => ?_) (fun q22 => ?_)
      ·
        have k23 := if_t k21 q22
        refine go_iconst (pc := 35) (v := 0) (by decide) dX8_hangs_35 ?_
        refine go_aload_n (pc := 36) rfl dX8_hangs_36 ?_
        refine gi_getF (pc := 37) (q := 105) hv fL_X8_115 rfl (Nat.le_of_ble_eq_true rfl) rfl (hv.rf (by decide)) dX8_hangs_37 ?_
        refine go_iload_n (pc := 40) rfl dX8_hangs_40 ?_
        refine gi_lald (pc := 41) (len := 40) hv (ti_rfl a2) rfl (by omega) (by omega) dX8_hangs_41 (fun v24 v24w => ?_)
        have k25 := bd_e k23 v24w.symm
        refine go_iload_n (pc := 42) rfl dX8_hangs_42 ?_
        refine go_invS (pc := 43) (sl := 0) (s_X8_has2_f l (d + 1) hv v24 a3) mL_X8_280 iM_X8_has rfl rfl (Nat.le_of_ble_eq_true rfl) (show d + 1 + 1 + 1 ≤ d + 3 by omega) (show 8 + (3 + 11) + 40 * (d + 1 + 1) ≤ 40 * (d + 3) by omega) (g_c0 hv.ln) (Nat.le_of_ble_eq_true rfl) dX8_hangs_43 ?_
        intro r h26 hq _
        obtain ⟨v28, rfl, v28l, v28u, rfl, f27⟩ := hq
        replace f27 : PE _ _ := f27
        have k29 := bd_e k25 f27.symm
        refine gf_if_eq (pc := 46) (tgt := 53) (ti_rfl v28) (by decide) dX8_hangs_46 (fun q30 => ?_) (fun q30 => ?_)
        ·
          have k31 := if_t k29 q30
          refine go_iconst (pc := 53) (v := 0) (by decide) dX8_hangs_53 ?_
          refine gf_iadd (pc := 54) (ti_c (v := 0) (a := 0) (by decide)) (ti_c (v := 0) (a := 0) (by decide)) (by omega) (by omega) dX8_hangs_54 (fun v32 e33 => ?_)
          exact gi_iret (pc := 55) e33 ⟨_, rfl, (ti_lo _), (ti_hi _), rfl, (by rw [show (v32 : Int32).toInt = (0 + 0) from e33]; exact k31.symm.trans kf)⟩ hv dX8_hangs_55
        ·
          have k34 := if_f k29 q30
          refine go_iconst (pc := 49) (v := 2) (by decide) dX8_hangs_49 ?_
          refine go_goto (pc := 50) (tgt := 54) (by decide) dX8_hangs_50 ?_
          refine gf_iadd (pc := 54) (ti_c (v := 0) (a := 0) (by decide)) (ti_c (v := 2) (a := 2) (by decide)) (by omega) (by omega) dX8_hangs_54 (fun v35 e36 => ?_)
          exact gi_iret (pc := 55) e36 ⟨_, rfl, (ti_lo _), (ti_hi _), rfl, (by rw [show (v35 : Int32).toInt = (0 + 2) from e36]; exact k34.symm.trans kf)⟩ hv dX8_hangs_55
      ·
        have k37 := if_f k21 q22
        refine go_iconst (pc := 31) (v := 1) (by decide) dX8_hangs_31 ?_
        refine go_goto (pc := 32) (tgt := 36) (by decide) dX8_hangs_32 ?_
        refine go_aload_n (pc := 36) rfl dX8_hangs_36 ?_
        refine gi_getF (pc := 37) (q := 105) hv fL_X8_115 rfl (Nat.le_of_ble_eq_true rfl) rfl (hv.rf (by decide)) dX8_hangs_37 ?_
        refine go_iload_n (pc := 40) rfl dX8_hangs_40 ?_
        refine gi_lald (pc := 41) (len := 40) hv (ti_rfl a2) rfl (by omega) (by omega) dX8_hangs_41 (fun v38 v38w => ?_)
        have k39 := bd_e k37 v38w.symm
        refine go_iload_n (pc := 42) rfl dX8_hangs_42 ?_
        refine go_invS (pc := 43) (sl := 0) (s_X8_has2_f l (d + 1) hv v38 a3) mL_X8_280 iM_X8_has rfl rfl (Nat.le_of_ble_eq_true rfl) (show d + 1 + 1 + 1 ≤ d + 3 by omega) (show 8 + (3 + 11) + 40 * (d + 1 + 1) ≤ 40 * (d + 3) by omega) (g_c0 hv.ln) (Nat.le_of_ble_eq_true rfl) dX8_hangs_43 ?_
        intro r h40 hq _
        obtain ⟨v42, rfl, v42l, v42u, rfl, f41⟩ := hq
        replace f41 : PE _ _ := f41
        have k43 := bd_e k39 f41.symm
        refine gf_if_eq (pc := 46) (tgt := 53) (ti_rfl v42) (by decide) dX8_hangs_46 (fun q44 => ?_) (fun q44 => ?_)
        ·
          have k45 := if_t k43 q44
          refine go_iconst (pc := 53) (v := 0) (by decide) dX8_hangs_53 ?_
          refine gf_iadd (pc := 54) (ti_c (v := 1) (a := 1) (by decide)) (ti_c (v := 0) (a := 0) (by decide)) (by omega) (by omega) dX8_hangs_54 (fun v46 e47 => ?_)
          exact gi_iret (pc := 55) e47 ⟨_, rfl, (ti_lo _), (ti_hi _), rfl, (by rw [show (v46 : Int32).toInt = (1 + 0) from e47]; exact k45.symm.trans kf)⟩ hv dX8_hangs_55
        ·
          have k48 := if_f k43 q44
          refine go_iconst (pc := 49) (v := 2) (by decide) dX8_hangs_49 ?_
          refine go_goto (pc := 50) (tgt := 54) (by decide) dX8_hangs_50 ?_
          refine gf_iadd (pc := 54) (ti_c (v := 1) (a := 1) (by decide)) (ti_c (v := 2) (a := 2) (by decide)) (by omega) (by omega) dX8_hangs_54 (fun v49 e50 => ?_)
          exact gi_iret (pc := 55) e50 ⟨_, rfl, (ti_lo _), (ti_hi _), rfl, (by rw [show (v49 : Int32).toInt = (1 + 2) from e50]; exact k48.symm.trans kf)⟩ hv dX8_hangs_55
    ·
      have k51 := if_f k13 (fun z => z q14)
      refine go_iconst (pc := 16) (v := 0) (by decide) dX8_hangs_16 ?_
      exact gi_iret (pc := 17) (ti_c (v := 0) (a := 0) (by decide)) ⟨_, rfl, (ti_lo _), (ti_hi _), rfl, (by rw [show (0 : Int32).toInt = 0 from (ti_c (v := 0) (a := 0) (by decide))]; exact k51.symm.trans kf)⟩ hv dX8_hangs_17
def f_X8_begun2 (s : ST) (a2 : Int) : Int64 :=
  bd (f_X8_isProcedure2 s a2) fun v3 => if v3 = 0 then ((0 : Int64)) else (bd (s.2.1 107 (a2).toNat) fun v9 => v9)
set_option maxHeartbeats 4000000 in
set_option maxRecDepth 100000 in
theorem s_X8_begun2_f (l : Launch) (d : Nat) {P : PP} {h : HP} (hv : Iv P h) (a2 : Int32) : Mt l yX8_begun cX8_begun 2 (some .long) (d + 3) [.ref 70, .int a2] h 0 0 (fun r h' => ∃ v : Int64, r = some (.long v) ∧ h = h' ∧ (v = f_X8_begun2 (st h) a2.toInt)) := by
  refine Mt_iv hv (by decide) (Nat.le_of_ble_eq_true rfl) ?_
  show Go l RX8 cX8_begun 2 (g_rm (d + 3) 0 0) "begun" (some .long) 117 0 0 (fun _ _ => True) (fun r h' => ∃ v : Int64, r = some (.long v) ∧ h = h' ∧ (v = f_X8_begun2 (st h) a2.toInt)) 0 0 [(0, .ref 70), (1, .int a2)] [] h
  obtain ⟨fin, kf⟩ : ∃ z, z = f_X8_begun2 (st h) a2.toInt := ⟨_, _root_.rfl⟩
  have k0 := kf
  unfold f_X8_begun2 at k0
  refine go_aload_n (pc := 0) rfl dX8_begun_0 ?_
  refine go_iload_n (pc := 1) rfl dX8_begun_1 ?_
  refine go_invV (pc := 2) (sl := 0) (s_X8_isProcedure2_f l (d + 0) hv a2) mL_X8_395 iM_X8_isProcedure sM_X8_isProcedure (hv.sh rfl) rfl rfl rfl (Nat.le_of_ble_eq_true rfl) (show d + 0 + 2 + 1 ≤ d + 3 by omega) (show 8 + (2 + 11) + 40 * (d + 0 + 2) ≤ 40 * (d + 3) by omega) (g_c0 hv.ln) (Nat.le_of_ble_eq_true rfl) dX8_begun_2 ?_
  intro r h1 hq _
  obtain ⟨v3, rfl, v3l, v3u, rfl, f4, f2⟩ := hq
  replace f2 : PE _ _ := f2
  have k5 := bd_e k0 f2.symm
  refine gf_if_eq (pc := 5) (tgt := 17) (ti_rfl v3) (by decide) dX8_begun_5 (fun q6 => ?_) (fun q6 => ?_)
  ·
    have k7 := if_t k5 q6
    refine go_lconst (pc := 17) (v := 0) (by decide) dX8_begun_17 ?_
    exact gi_lret (pc := 18) ⟨_, rfl, rfl, (k7.symm.trans kf)⟩ hv dX8_begun_18
  ·
    have k8 := if_f k5 q6
    refine go_aload_n (pc := 8) rfl dX8_begun_8 ?_
    refine gi_getF (pc := 9) (q := 107) hv fL_X8_121 rfl (Nat.le_of_ble_eq_true rfl) rfl (hv.rf (by decide)) dX8_begun_9 ?_
    refine go_iload_n (pc := 12) rfl dX8_begun_12 ?_
    refine gi_lald (pc := 13) (len := 5) hv (ti_rfl a2) rfl (by omega) (by omega) dX8_begun_13 (fun v9 v9w => ?_)
    have k10 := bd_e k8 v9w.symm
    refine go_goto (pc := 14) (tgt := 18) (by decide) dX8_begun_14 ?_
    exact gi_lret (pc := 18) ⟨_, rfl, rfl, (k10.symm.trans kf)⟩ hv dX8_begun_18
def f_X8_summary2 (s : ST) (a2 : Int) (a3 : Int) (a4 : Int) : ST × Int :=
  bd (s.1 70 29) fun v1 => bd (sI s 70 6 v1) fun s3 => bd (f_X8_isStatement2 s3 a2) fun v7 => if v7 = 0 then ((s3, 0)) else (bd (f_X8_kindAt2 s3 a2) fun v16 => if ¬ v16 = 1 then ((s3, 0)) else (bd (f_X8_isIn s3 a3 0 5) fun v25 => if v25 = 0 then ((s3, 0)) else (bd (f_X8_isIn s3 a4 0 5) fun v34 => if ¬ v34 = 0 then (bd (f_X8_item2 s3 a2) fun v41 => bd (s3.1 84 (v41).toNat) fun v43 => bd (s3.1 108 (((6 * v43) + a4)).toNat) fun v50 => bd (o_ishr v50 a3) fun v52 => bd (o_iand v52 1) fun v54 => if ¬ v54 = 1 then ((s3, 0)) else ((s3, 1))) else ((s3, 0)))))
set_option maxHeartbeats 4000000 in
set_option maxRecDepth 100000 in
theorem s_X8_summary2_f (l : Launch) (d : Nat) {P : PP} {h : HP} (hv : Iv P h) (a2 : Int32) (a3 : Int32) (a4 : Int32) (ck : CK P) : Mt l yX8_summary cX8_summary 4 (some .boolean) (d + 3) [.ref 70, .int a2, .int a3, .int a4] h 0 0 (fun r h' => ∃ v : Int32, r = some (.int v) ∧ 0 ≤ v.toInt ∧ v.toInt ≤ 1 ∧ Iv (gs P) h' ∧ ((st h', v.toInt) = f_X8_summary2 (st h) a2.toInt a3.toInt a4.toInt) ∧ (FX KAq h h')) := by
  refine Mt_iv hv (by decide) (Nat.le_of_ble_eq_true rfl) ?_
  show Go l RX8 cX8_summary 4 (g_rm (d + 3) 0 0) "summary" (some .boolean) 117 0 0 (fun _ _ => True) (fun r h' => ∃ v : Int32, r = some (.int v) ∧ 0 ≤ v.toInt ∧ v.toInt ≤ 1 ∧ Iv (gs P) h' ∧ ((st h', v.toInt) = f_X8_summary2 (st h) a2.toInt a3.toInt a4.toInt) ∧ (FX KAq h h')) 0 0 [(0, .ref 70), (1, .int a2), (2, .int a3), (3, .int a4)] [] h
  have fx : FX KAq h h := FX.rfl
  obtain ⟨fin, kf⟩ : ∃ z, z = f_X8_summary2 (st h) a2.toInt a3.toInt a4.toInt := ⟨_, _root_.rfl⟩
  have k0 := kf
  unfold f_X8_summary2 at k0
  refine go_aload_n (pc := 0) rfl dX8_summary_0 ?_
  refine go_aload_n (pc := 1) rfl dX8_summary_1 ?_
  refine gi_get (pc := 2) (lo := 0) (hi := 1) hv fL_X8_228 rfl (Nat.le_of_ble_eq_true rfl) rfl rfl dX8_summary_2 (fun v1 v1l v1u v1w => ?_)
  have k2 := bd_e k0 (congrArg Int32.toInt v1w.symm)
  refine gi_putS (pc := 5) hv v1w (fP_X8_187 _) dX8_summary_5 (fun h3 hv3 hv3e => ?_)
  have fx3 : FX KAq h h3 := FX.pI fx hv3e (by unfold KAq; omega)
  have k4 := bd_e k2 (st_I hv3e (ti_rfl v1))
  refine go_aload_n (pc := 8) rfl dX8_summary_8 ?_
  refine go_iload_n (pc := 9) rfl dX8_summary_9 ?_
  refine go_invV (pc := 10) (sl := 0) (s_X8_isStatement2_f l (d + 0) hv3 a2) mL_X8_389 iM_X8_isStatement sM_X8_isStatement (hv3.sh rfl) rfl rfl rfl (Nat.le_of_ble_eq_true rfl) (show d + 0 + 2 + 1 ≤ d + 3 by omega) (show 8 + (2 + 11) + 40 * (d + 0 + 2) ≤ 40 * (d + 3) by omega) (g_c0 hv3.ln) (Nat.le_of_ble_eq_true rfl) dX8_summary_10 ?_
  intro r h5 hq _
  obtain ⟨v7, rfl, v7l, v7u, rfl, f8, f6⟩ := hq
  replace f6 : PE _ _ := f6
  have k9 := bd_e k4 f6.symm
  refine gf_if_eq (pc := 13) (tgt := 43) (ti_rfl v7) (by decide) dX8_summary_13 (fun q10 => ?_) (fun q10 => ?_)
  ·
    have k11 := if_t k9 q10
    refine go_iconst (pc := 43) (v := 0) (by decide) dX8_summary_43 ?_
    exact gi_zret (pc := 44) (ti_c (v := 0) (a := 0) (by decide)) (by omega) (by omega) ⟨_, rfl, (by rw [show (0 : Int32).toInt = 0 from (ti_c (v := 0) (a := 0) (by decide))]; omega), (by rw [show (0 : Int32).toInt = 0 from (ti_c (v := 0) (a := 0) (by decide))]; omega), hv3, (by rw [show (0 : Int32).toInt = 0 from (ti_c (v := 0) (a := 0) (by decide))]; exact k11.symm.trans kf), fx3⟩ hv3 dX8_summary_44
  ·
    have k12 := if_f k9 q10
    refine go_aload_n (pc := 16) rfl dX8_summary_16 ?_
    refine go_iload_n (pc := 17) rfl dX8_summary_17 ?_
    refine go_invV (pc := 18) (sl := 0) (s_X8_kindAt2_f l (d + 0) hv3 a2 (by rw [show (a2 : Int32).toInt = a2.toInt from (ti_rfl a2)]; omega) (by rw [show (a2 : Int32).toInt = a2.toInt from (ti_rfl a2)]; omega)) mL_X8_271 iM_X8_kindAt sM_X8_kindAt (hv3.sh rfl) rfl rfl rfl (Nat.le_of_ble_eq_true rfl) (show d + 0 + 2 + 1 ≤ d + 3 by omega) (show 8 + (2 + 11) + 40 * (d + 0 + 2) ≤ 40 * (d + 3) by omega) (g_c0 hv3.ln) (Nat.le_of_ble_eq_true rfl) dX8_summary_18 ?_
    intro r h13 hq _
    obtain ⟨v16, rfl, v16l, v16u, rfl, f14, f15⟩ := hq
    replace f15 : PE _ _ := f15
    have k17 := bd_e k12 f15.symm
    refine go_iconst (pc := 21) (v := 1) (by decide) dX8_summary_21 ?_
    refine gf_icmp_ne (pc := 22) (tgt := 43) (ti_rfl v16) (ti_c (v := 1) (a := 1) (by decide)) (by decide) dX8_summary_22 (fun q18 => ?_) (fun q18 => ?_)
    ·
      have k19 := if_t k17 q18
      refine go_iconst (pc := 43) (v := 0) (by decide) dX8_summary_43 ?_
      exact gi_zret (pc := 44) (ti_c (v := 0) (a := 0) (by decide)) (by omega) (by omega) ⟨_, rfl, (by rw [show (0 : Int32).toInt = 0 from (ti_c (v := 0) (a := 0) (by decide))]; omega), (by rw [show (0 : Int32).toInt = 0 from (ti_c (v := 0) (a := 0) (by decide))]; omega), hv3, (by rw [show (0 : Int32).toInt = 0 from (ti_c (v := 0) (a := 0) (by decide))]; exact k19.symm.trans kf), fx3⟩ hv3 dX8_summary_44
    ·
      have k20 := if_f k17 (fun z => z q18)
      refine go_iload_n (pc := 25) rfl dX8_summary_25 ?_
      refine go_iconst (pc := 26) (v := 0) (by decide) dX8_summary_26 ?_
      refine go_iconst (pc := 27) (v := 5) (by decide) dX8_summary_27 ?_
      refine go_invS (pc := 28) (sl := 0) (s_X8_isIn_f l (d + 1) hv3 a3 0 5) mL_X8_159 iM_X8_isIn rfl rfl (Nat.le_of_ble_eq_true rfl) (show d + 1 + 1 + 1 ≤ d + 3 by omega) (show 8 + (3 + 11) + 40 * (d + 1 + 1) ≤ 40 * (d + 3) by omega) (g_c0 hv3.ln) (Nat.le_of_ble_eq_true rfl) dX8_summary_28 ?_
      intro r h21 hq _
      obtain ⟨v25, rfl, v25l, v25u, rfl, f22, f23, f24⟩ := hq
      try rw [show (0 : Int32).toInt = 0 from (ti_c (v := 0) (a := 0) (by decide))] at f22
      try rw [show (5 : Int32).toInt = 5 from (ti_c (v := 5) (a := 5) (by decide))] at f22
      try rw [show (0 : Int32).toInt = 0 from (ti_c (v := 0) (a := 0) (by decide))] at f23
      try rw [show (5 : Int32).toInt = 5 from (ti_c (v := 5) (a := 5) (by decide))] at f23
      try rw [show (0 : Int32).toInt = 0 from (ti_c (v := 0) (a := 0) (by decide))] at f24
      try rw [show (5 : Int32).toInt = 5 from (ti_c (v := 5) (a := 5) (by decide))] at f24
      replace f24 : PE _ _ := f24
      have k26 := bd_e k20 f24.symm
      refine gf_if_eq (pc := 31) (tgt := 43) (ti_rfl v25) (by decide) dX8_summary_31 (fun q27 => ?_) (fun q27 => ?_)
      ·
        have k28 := if_t k26 q27
        refine go_iconst (pc := 43) (v := 0) (by decide) dX8_summary_43 ?_
        exact gi_zret (pc := 44) (ti_c (v := 0) (a := 0) (by decide)) (by omega) (by omega) ⟨_, rfl, (by rw [show (0 : Int32).toInt = 0 from (ti_c (v := 0) (a := 0) (by decide))]; omega), (by rw [show (0 : Int32).toInt = 0 from (ti_c (v := 0) (a := 0) (by decide))]; omega), hv3, (by rw [show (0 : Int32).toInt = 0 from (ti_c (v := 0) (a := 0) (by decide))]; exact k28.symm.trans kf), fx3⟩ hv3 dX8_summary_44
      ·
        have k29 := if_f k26 q27
        refine go_iload_n (pc := 34) rfl dX8_summary_34 ?_
        refine go_iconst (pc := 35) (v := 0) (by decide) dX8_summary_35 ?_
        refine go_iconst (pc := 36) (v := 5) (by decide) dX8_summary_36 ?_
        refine go_invS (pc := 37) (sl := 0) (s_X8_isIn_f l (d + 1) hv3 a4 0 5) mL_X8_159 iM_X8_isIn rfl rfl (Nat.le_of_ble_eq_true rfl) (show d + 1 + 1 + 1 ≤ d + 3 by omega) (show 8 + (3 + 11) + 40 * (d + 1 + 1) ≤ 40 * (d + 3) by omega) (g_c0 hv3.ln) (Nat.le_of_ble_eq_true rfl) dX8_summary_37 ?_
        intro r h30 hq _
        obtain ⟨v34, rfl, v34l, v34u, rfl, f31, f32, f33⟩ := hq
        try rw [show (0 : Int32).toInt = 0 from (ti_c (v := 0) (a := 0) (by decide))] at f31
        try rw [show (5 : Int32).toInt = 5 from (ti_c (v := 5) (a := 5) (by decide))] at f31
        try rw [show (0 : Int32).toInt = 0 from (ti_c (v := 0) (a := 0) (by decide))] at f32
        try rw [show (5 : Int32).toInt = 5 from (ti_c (v := 5) (a := 5) (by decide))] at f32
        try rw [show (0 : Int32).toInt = 0 from (ti_c (v := 0) (a := 0) (by decide))] at f33
        try rw [show (5 : Int32).toInt = 5 from (ti_c (v := 5) (a := 5) (by decide))] at f33
        replace f33 : PE _ _ := f33
        have k35 := bd_e k29 f33.symm
        refine gf_if_ne (pc := 40) (tgt := 45) (ti_rfl v34) (by decide) dX8_summary_40 (fun q36 => ?_) (fun q36 => ?_)
        ·
          have k37 := if_t k35 q36
          refine go_aload_n (pc := 45) rfl dX8_summary_45 ?_
          refine gi_getF (pc := 46) (q := 108) hv3 fL_X8_124 rfl (Nat.le_of_ble_eq_true rfl) rfl (hv3.rf (by decide)) dX8_summary_46 ?_
          refine go_bipush (pc := 49) (v := 6) (by decide) dX8_summary_49 ?_
          refine go_aload_n (pc := 51) rfl dX8_summary_51 ?_
          refine gi_getF (pc := 52) (q := 84) hv3 fL_X8_50 rfl (Nat.le_of_ble_eq_true rfl) rfl (hv3.rf (by decide)) dX8_summary_52 ?_
          refine go_aload_n (pc := 55) rfl dX8_summary_55 ?_
          refine go_iload_n (pc := 56) rfl dX8_summary_56 ?_
          refine go_invV (pc := 57) (sl := 0) (s_X8_item2_f l (d + 1) hv3 a2 (by rw [show (a2 : Int32).toInt = a2.toInt from (ti_rfl a2)]; omega) (by rw [show (a2 : Int32).toInt = a2.toInt from (ti_rfl a2)]; omega)) mL_X8_268 iM_X8_item sM_X8_item (hv3.sh rfl) rfl rfl rfl (Nat.le_of_ble_eq_true rfl) (show d + 1 + 1 + 1 ≤ d + 3 by omega) (show 8 + (2 + 11) + 40 * (d + 1 + 1) ≤ 40 * (d + 3) by omega) (g_c0 hv3.ln) (Nat.le_of_ble_eq_true rfl) dX8_summary_57 ?_
          intro r h38 hq _
          obtain ⟨v41, rfl, v41l, v41u, rfl, f39, f40⟩ := hq
          replace f40 : PE _ _ := f40
          have k42 := bd_e k37 f40.symm
          refine gi_iald (pc := 60) (lo := -2) (hi := 4) (len := 260) hv3 (ti_rfl v41) rfl (by omega) (by omega) (fun _ => rfl) dX8_summary_60 (fun v43 v43l v43u v43w => ?_)
          have k44 := bd_e k42 (congrArg Int32.toInt v43w.symm)
          have k45 : 0 ≤ v43.toInt := by
            rw [v43w]
            refine hv3.mc ck.gs ?_
            rw [f39]
            have e := f14
            unfold g_kd at e
            omega
          refine gf_imul (pc := 61) (ti_c (v := 6) (a := 6) (by decide)) (ti_rfl v43) (by omega) (by omega) dX8_summary_61 (fun v46 e47 => ?_)
          refine go_iload_n (pc := 62) rfl dX8_summary_62 ?_
          refine gf_iadd (pc := 63) e47 (ti_rfl a4) (by omega) (by omega) dX8_summary_63 (fun v48 e49 => ?_)
          refine gi_iald (pc := 64) (lo := -2147483648) (hi := 2147483647) (len := 30) hv3 e49 rfl (by omega) (by omega) (fun _ => rfl) dX8_summary_64 (fun v50 v50l v50u v50w => ?_)
          have k51 := bd_e k44 (congrArg Int32.toInt v50w.symm)
          refine go_iload_n (pc := 65) rfl dX8_summary_65 ?_
          refine gx_ishr (pc := 66) dX8_summary_66 (fun v52 v52x => ?_)
          have k53 := bd_e k51 (so_ishr (ti_rfl v50) (ti_rfl a3) v52x)
          refine go_iconst (pc := 67) (v := 1) (by decide) dX8_summary_67 ?_
          refine gx_iand (pc := 68) dX8_summary_68 (fun v54 v54x => ?_)
          have v54l : 0 ≤ v54.toInt := by rw [v54x]; exact (ti_mask (ti_c (v := 1) (a := 1) (by decide)) (by omega)).1
          have v54u : v54.toInt ≤ 1 := by rw [v54x]; exact (ti_mask (ti_c (v := 1) (a := 1) (by decide)) (by omega)).2
          have k55 := bd_e k53 (so_iand (ti_rfl v52) (ti_c (v := 1) (a := 1) (by decide)) v54x)
          refine go_iconst (pc := 69) (v := 1) (by decide) dX8_summary_69 ?_
          refine gf_icmp_ne (pc := 70) (tgt := 77) (ti_rfl v54) (ti_c (v := 1) (a := 1) (by decide)) (by decide) dX8_summary_70 (fun q56 => ?_) (fun q56 => ?_)
          ·
            have k57 := if_t k55 q56
            refine go_iconst (pc := 77) (v := 0) (by decide) dX8_summary_77 ?_
            exact gi_zret (pc := 78) (ti_c (v := 0) (a := 0) (by decide)) (by omega) (by omega) ⟨_, rfl, (by rw [show (0 : Int32).toInt = 0 from (ti_c (v := 0) (a := 0) (by decide))]; omega), (by rw [show (0 : Int32).toInt = 0 from (ti_c (v := 0) (a := 0) (by decide))]; omega), hv3, (by rw [show (0 : Int32).toInt = 0 from (ti_c (v := 0) (a := 0) (by decide))]; exact k57.symm.trans kf), fx3⟩ hv3 dX8_summary_78
          ·
            have k58 := if_f k55 (fun z => z q56)
            refine go_iconst (pc := 73) (v := 1) (by decide) dX8_summary_73 ?_
            refine go_goto (pc := 74) (tgt := 78) (by decide) dX8_summary_74 ?_
            exact gi_zret (pc := 78) (ti_c (v := 1) (a := 1) (by decide)) (by omega) (by omega) ⟨_, rfl, (by rw [show (1 : Int32).toInt = 1 from (ti_c (v := 1) (a := 1) (by decide))]; omega), (by rw [show (1 : Int32).toInt = 1 from (ti_c (v := 1) (a := 1) (by decide))]; omega), hv3, (by rw [show (1 : Int32).toInt = 1 from (ti_c (v := 1) (a := 1) (by decide))]; exact k58.symm.trans kf), fx3⟩ hv3 dX8_summary_78
        ·
          have k59 := if_f k35 (fun z => z q36)
          refine go_iconst (pc := 43) (v := 0) (by decide) dX8_summary_43 ?_
          exact gi_zret (pc := 44) (ti_c (v := 0) (a := 0) (by decide)) (by omega) (by omega) ⟨_, rfl, (by rw [show (0 : Int32).toInt = 0 from (ti_c (v := 0) (a := 0) (by decide))]; omega), (by rw [show (0 : Int32).toInt = 0 from (ti_c (v := 0) (a := 0) (by decide))]; omega), hv3, (by rw [show (0 : Int32).toInt = 0 from (ti_c (v := 0) (a := 0) (by decide))]; exact k59.symm.trans kf), fx3⟩ hv3 dX8_summary_44
def f_X8_back2 (s : ST) (a2 : Int) : Int64 :=
  bd (f_X8_isStatement2 s a2) fun v3 => if v3 = 0 then (((-1) : Int64)) else (bd (s.2.1 111 (a2).toNat) fun v9 => v9)
set_option maxHeartbeats 4000000 in
set_option maxRecDepth 100000 in
theorem s_X8_back2_f (l : Launch) (d : Nat) {P : PP} {h : HP} (hv : Iv P h) (a2 : Int32) : Mt l yX8_back cX8_back 2 (some .long) (d + 3) [.ref 70, .int a2] h 0 0 (fun r h' => ∃ v : Int64, r = some (.long v) ∧ h = h' ∧ (v = f_X8_back2 (st h) a2.toInt)) := by
  refine Mt_iv hv (by decide) (Nat.le_of_ble_eq_true rfl) ?_
  show Go l RX8 cX8_back 2 (g_rm (d + 3) 0 0) "back" (some .long) 117 0 0 (fun _ _ => True) (fun r h' => ∃ v : Int64, r = some (.long v) ∧ h = h' ∧ (v = f_X8_back2 (st h) a2.toInt)) 0 0 [(0, .ref 70), (1, .int a2)] [] h
  obtain ⟨fin, kf⟩ : ∃ z, z = f_X8_back2 (st h) a2.toInt := ⟨_, _root_.rfl⟩
  have k0 := kf
  unfold f_X8_back2 at k0
  refine go_aload_n (pc := 0) rfl dX8_back_0 ?_
  refine go_iload_n (pc := 1) rfl dX8_back_1 ?_
  refine go_invV (pc := 2) (sl := 0) (s_X8_isStatement2_f l (d + 0) hv a2) mL_X8_389 iM_X8_isStatement sM_X8_isStatement (hv.sh rfl) rfl rfl rfl (Nat.le_of_ble_eq_true rfl) (show d + 0 + 2 + 1 ≤ d + 3 by omega) (show 8 + (2 + 11) + 40 * (d + 0 + 2) ≤ 40 * (d + 3) by omega) (g_c0 hv.ln) (Nat.le_of_ble_eq_true rfl) dX8_back_2 ?_
  intro r h1 hq _
  obtain ⟨v3, rfl, v3l, v3u, rfl, f4, f2⟩ := hq
  replace f2 : PE _ _ := f2
  have k5 := bd_e k0 f2.symm
  refine gf_if_eq (pc := 5) (tgt := 17) (ti_rfl v3) (by decide) dX8_back_5 (fun q6 => ?_) (fun q6 => ?_)
  ·
    have k7 := if_t k5 q6
    refine go_ldc2 (pc := 17) kL_X8_329 dX8_back_17 ?_
    exact gi_lret (pc := 20) ⟨_, rfl, rfl, (k7.symm.trans kf)⟩ hv dX8_back_20
  ·
    have k8 := if_f k5 q6
    refine go_aload_n (pc := 8) rfl dX8_back_8 ?_
    refine gi_getF (pc := 9) (q := 111) hv fL_X8_133 rfl (Nat.le_of_ble_eq_true rfl) rfl (hv.rf (by decide)) dX8_back_9 ?_
    refine go_iload_n (pc := 12) rfl dX8_back_12 ?_
    refine gi_lald (pc := 13) (len := 40) hv (ti_rfl a2) rfl (by omega) (by omega) dX8_back_13 (fun v9 v9w => ?_)
    have k10 := bd_e k8 v9w.symm
    refine go_goto (pc := 14) (tgt := 20) (by decide) dX8_back_14 ?_
    exact gi_lret (pc := 20) ⟨_, rfl, rfl, (k10.symm.trans kf)⟩ hv dX8_back_20
def f_X8_forthOf2_ : Nat → Nat → Int → Int64 → Int → ST → Int64
  | 0, _, _, _, _, _ => 0
  | n + 1, _, l1, l2, l4, s => bd (s.1 70 29) fun v1 => bd (s.1 75 (v1).toNat) fun v3 => if v3 ≤ l4 then (l2) else (bd (s.2.1 111 (l4).toNat) fun v8 => bd (f_X8_has2 s v8 l1) fun v12 => if v12 = 0 then (bd (o_lor l2 (0 : Int64)) fun v16 => f_X8_forthOf2_ n 5 l1 v16 ((l4 + 1)) s) else (bd (o_lshl (1 : Int64) l4) fun v22 => bd (o_lor l2 v22) fun v24 => f_X8_forthOf2_ n 5 l1 v24 ((l4 + 1)) s))
def f_X8_forthOf2 (s : ST) (a2 : Int) : Int64 :=
  f_X8_forthOf2_ 139 5 a2 (0 : Int64) 0 s
set_option maxHeartbeats 4000000 in
set_option maxRecDepth 100000 in
theorem s_X8_forthOf2_f (l : Launch) (d : Nat) {P : PP} {h : HP} (hv : Iv P h) (a2 : Int32) : Mt l yX8_forthOf cX8_forthOf 5 (some .long) (d + 2) [.ref 70, .int a2] h 0 0 (fun r h' => ∃ v : Int64, r = some (.long v) ∧ h = h' ∧ (v = f_X8_forthOf2 (st h) a2.toInt)) := by
  refine Mt_iv hv (by decide) (Nat.le_of_ble_eq_true rfl) ?_
  show Go l RX8 cX8_forthOf 5 (g_rm (d + 2) 0 0) "forthOf" (some .long) 117 0 0 (fun _ _ => True) (fun r h' => ∃ v : Int64, r = some (.long v) ∧ h = h' ∧ (v = f_X8_forthOf2 (st h) a2.toInt)) 0 0 [(0, .ref 70), (1, .int a2)] [] h
  obtain ⟨fin, kf⟩ : ∃ z, z = f_X8_forthOf2 (st h) a2.toInt := ⟨_, _root_.rfl⟩
  have k0 := kf
  unfold f_X8_forthOf2 at k0
  have key : ∀ n : Nat, (∀ (l1 : Int32) (l2 : Int64) (l4 : Int32), 0 ≤ l4.toInt → l4.toInt ≤ 40 → fin = f_X8_forthOf2_ n 5 l1.toInt l2 l4.toInt (st h) → (3 * (40 - l4.toInt) + 2 : Int) < n → Go l RX8 cX8_forthOf 5 (g_rm (d + 2) 0 0) "forthOf" (some .long) 117 0 0 (fun _ _ => True) (fun r h' => ∃ v : Int64, r = some (.long v) ∧ h = h' ∧ (v = f_X8_forthOf2 (st h) a2.toInt)) 0 5 [(0, .ref 70), (1, .int l1), (2, .long l2), (4, .int l4)] [] h) := by
    intro n
    induction n with
    | zero => exact (by intros; omega)
    | succ n ih =>
      refine ?_
      ·
        intro l1 l2 l4 l4l l4u kL hm
        rw [f_X8_forthOf2_] at kL
        refine go_iload (pc := 5) rfl dX8_forthOf_5 ?_
        refine go_aload_n (pc := 7) rfl dX8_forthOf_7 ?_
        refine gi_getF (pc := 8) (q := 75) hv fL_X8_23 rfl (Nat.le_of_ble_eq_true rfl) rfl (hv.rf (by decide)) dX8_forthOf_8 ?_
        refine go_aload_n (pc := 11) rfl dX8_forthOf_11 ?_
        refine gi_get (pc := 12) (lo := 0) (hi := 1) hv fL_X8_228 rfl (Nat.le_of_ble_eq_true rfl) rfl rfl dX8_forthOf_12 (fun v1 v1l v1u v1w => ?_)
        have k2 := bd_e kL (congrArg Int32.toInt v1w.symm)
        refine gi_iald (pc := 15) (lo := 0) (hi := 40) (len := 2) hv (ti_rfl v1) rfl (by omega) (by omega) (fun _ => rfl) dX8_forthOf_15 (fun v3 v3l v3u v3w => ?_)
        have k4 := bd_e k2 (congrArg Int32.toInt v3w.symm)
        refine gf_icmp_ge (pc := 16) (tgt := 50) (ti_rfl l4) (ti_rfl v3) (by decide) dX8_forthOf_16 (fun q5 => ?_) (fun q5 => ?_)
        ·
          have k6 := if_t k4 q5
          refine go_lload_n (pc := 50) rfl dX8_forthOf_50 ?_
          exact gi_lret (pc := 51) ⟨_, rfl, rfl, (k6.symm.trans kf)⟩ hv dX8_forthOf_51
        ·
          have k7 := if_f k4 (Int.not_le.mpr q5)
          refine go_lload_n (pc := 19) rfl dX8_forthOf_19 ?_
          refine go_aload_n (pc := 20) rfl dX8_forthOf_20 ?_
          refine gi_getF (pc := 21) (q := 111) hv fL_X8_133 rfl (Nat.le_of_ble_eq_true rfl) rfl (hv.rf (by decide)) dX8_forthOf_21 ?_
          refine go_iload (pc := 24) rfl dX8_forthOf_24 ?_
          refine gi_lald (pc := 26) (len := 40) hv (ti_rfl l4) rfl (by omega) (by omega) dX8_forthOf_26 (fun v8 v8w => ?_)
          have k9 := bd_e k7 v8w.symm
          refine go_iload_n (pc := 27) rfl dX8_forthOf_27 ?_
          refine go_invS (pc := 28) (sl := 0) (s_X8_has2_f l (d + 0) hv v8 l1) mL_X8_280 iM_X8_has rfl rfl (Nat.le_of_ble_eq_true rfl) (show d + 0 + 1 + 1 ≤ d + 2 by omega) (show 8 + (3 + 11) + 40 * (d + 0 + 1) ≤ 40 * (d + 2) by omega) (g_c0 hv.ln) (Nat.le_of_ble_eq_true rfl) dX8_forthOf_28 ?_
          intro r h10 hq _
          obtain ⟨v12, rfl, v12l, v12u, rfl, f11⟩ := hq
          replace f11 : PE _ _ := f11
          have k13 := bd_e k9 f11.symm
          refine gf_if_eq (pc := 31) (tgt := 41) (ti_rfl v12) (by decide) dX8_forthOf_31 (fun q14 => ?_) (fun q14 => ?_)
          ·
            have k15 := if_t k13 q14
            refine go_lconst (pc := 41) (v := 0) (by decide) dX8_forthOf_41 ?_
            refine gx_lor (pc := 42) dX8_forthOf_42 (fun v16 v16x => ?_)
            have k17 := bd_e k15 (so_lor v16x)
            refine go_lstore_n (pc := 43) (Nat.le_of_ble_eq_true rfl) dX8_forthOf_43 (go_lv (lv2 := [(0, .ref 70), (1, .int l1), (2, .long v16), (4, .int l4)]) rfl ?_)
            refine gf_iinc (pc := 44) (Nat.le_of_ble_eq_true rfl) rfl (ti_rfl l4) (ti_c (by decide)) (by omega) (by omega) dX8_forthOf_44 (fun v18 e19 => ?_)
            refine go_lv (lv2 := [(0, .ref 70), (1, .int l1), (2, .long v16), (4, .int v18)]) rfl ?_
            refine go_goto (pc := 47) (tgt := 5) (by decide) dX8_forthOf_47 ?_
            have z20 : (v18 : Int32).toInt = (l4.toInt + 1) := e19
            exact go_lv rfl (ih l1 v16 v18  (by omega) (by omega) (by rw [show (v18 : Int32).toInt = (l4.toInt + 1) from e19]; exact k17) (by omega))
          ·
            have k21 := if_f k13 q14
            refine go_lconst (pc := 34) (v := 1) (by decide) dX8_forthOf_34 ?_
            refine go_iload (pc := 35) rfl dX8_forthOf_35 ?_
            refine gx_lshl (pc := 37) dX8_forthOf_37 (fun v22 v22x => ?_)
            have k23 := bd_e k21 (so_lshl (ti_rfl l4) v22x)
            refine go_goto (pc := 38) (tgt := 42) (by decide) dX8_forthOf_38 ?_
            refine gx_lor (pc := 42) dX8_forthOf_42 (fun v24 v24x => ?_)
            have k25 := bd_e k23 (so_lor v24x)
            refine go_lstore_n (pc := 43) (Nat.le_of_ble_eq_true rfl) dX8_forthOf_43 (go_lv (lv2 := [(0, .ref 70), (1, .int l1), (2, .long v24), (4, .int l4)]) rfl ?_)
            refine gf_iinc (pc := 44) (Nat.le_of_ble_eq_true rfl) rfl (ti_rfl l4) (ti_c (by decide)) (by omega) (by omega) dX8_forthOf_44 (fun v26 e27 => ?_)
            refine go_lv (lv2 := [(0, .ref 70), (1, .int l1), (2, .long v24), (4, .int v26)]) rfl ?_
            refine go_goto (pc := 47) (tgt := 5) (by decide) dX8_forthOf_47 ?_
            have z28 : (v26 : Int32).toInt = (l4.toInt + 1) := e27
            exact go_lv rfl (ih l1 v24 v26  (by omega) (by omega) (by rw [show (v26 : Int32).toInt = (l4.toInt + 1) from e27]; exact k25) (by omega))
  refine go_lconst (pc := 0) (v := 0) (by decide) dX8_forthOf_0 ?_
  refine go_lstore_n (pc := 1) (Nat.le_of_ble_eq_true rfl) dX8_forthOf_1 (go_lv (lv2 := [(0, .ref 70), (1, .int a2), (2, .long 0)]) rfl ?_)
  refine go_iconst (pc := 2) (v := 0) (by decide) dX8_forthOf_2 ?_
  refine go_istore (pc := 3) (Nat.le_of_ble_eq_true rfl) dX8_forthOf_3 (go_lv (lv2 := [(0, .ref 70), (1, .int a2), (2, .long 0), (4, .int 0)]) rfl ?_)
  have z29 : (0 : Int32).toInt = 0 := (ti_c (v := 0) (a := 0) (by decide))
  exact go_lv rfl ((key 139) a2 0 0  (by omega) (by omega) (by rw [show (0 : Int32).toInt = 0 from (ti_c (v := 0) (a := 0) (by decide))]; exact k0) (by omega))
def f_X8_forth2 (s : ST) (a2 : Int) : Int64 :=
  bd (f_X8_isStatement2 s a2) fun v3 => if v3 = 0 then (((-1) : Int64)) else (bd (f_X8_forthOf2 s a2) fun v11 => v11)
set_option maxHeartbeats 4000000 in
set_option maxRecDepth 100000 in
theorem s_X8_forth2_f (l : Launch) (d : Nat) {P : PP} {h : HP} (hv : Iv P h) (a2 : Int32) : Mt l yX8_forth cX8_forth 2 (some .long) (d + 3) [.ref 70, .int a2] h 0 0 (fun r h' => ∃ v : Int64, r = some (.long v) ∧ h = h' ∧ (v = f_X8_forth2 (st h) a2.toInt)) := by
  refine Mt_iv hv (by decide) (Nat.le_of_ble_eq_true rfl) ?_
  show Go l RX8 cX8_forth 2 (g_rm (d + 3) 0 0) "forth" (some .long) 117 0 0 (fun _ _ => True) (fun r h' => ∃ v : Int64, r = some (.long v) ∧ h = h' ∧ (v = f_X8_forth2 (st h) a2.toInt)) 0 0 [(0, .ref 70), (1, .int a2)] [] h
  obtain ⟨fin, kf⟩ : ∃ z, z = f_X8_forth2 (st h) a2.toInt := ⟨_, _root_.rfl⟩
  have k0 := kf
  unfold f_X8_forth2 at k0
  refine go_aload_n (pc := 0) rfl dX8_forth_0 ?_
  refine go_iload_n (pc := 1) rfl dX8_forth_1 ?_
  refine go_invV (pc := 2) (sl := 0) (s_X8_isStatement2_f l (d + 0) hv a2) mL_X8_389 iM_X8_isStatement sM_X8_isStatement (hv.sh rfl) rfl rfl rfl (Nat.le_of_ble_eq_true rfl) (show d + 0 + 2 + 1 ≤ d + 3 by omega) (show 8 + (2 + 11) + 40 * (d + 0 + 2) ≤ 40 * (d + 3) by omega) (g_c0 hv.ln) (Nat.le_of_ble_eq_true rfl) dX8_forth_2 ?_
  intro r h1 hq _
  obtain ⟨v3, rfl, v3l, v3u, rfl, f4, f2⟩ := hq
  replace f2 : PE _ _ := f2
  have k5 := bd_e k0 f2.symm
  refine gf_if_eq (pc := 5) (tgt := 16) (ti_rfl v3) (by decide) dX8_forth_5 (fun q6 => ?_) (fun q6 => ?_)
  ·
    have k7 := if_t k5 q6
    refine go_ldc2 (pc := 16) kL_X8_329 dX8_forth_16 ?_
    exact gi_lret (pc := 19) ⟨_, rfl, rfl, (k7.symm.trans kf)⟩ hv dX8_forth_19
  ·
    have k8 := if_f k5 q6
    refine go_aload_n (pc := 8) rfl dX8_forth_8 ?_
    refine go_iload_n (pc := 9) rfl dX8_forth_9 ?_
    refine go_invV (pc := 10) (sl := 0) (s_X8_forthOf2_f l (d + 0) hv a2) mL_X8_398 iM_X8_forthOf sM_X8_forthOf (hv.sh rfl) rfl rfl rfl (Nat.le_of_ble_eq_true rfl) (show d + 0 + 2 + 1 ≤ d + 3 by omega) (show 8 + (5 + 11) + 40 * (d + 0 + 2) ≤ 40 * (d + 3) by omega) (g_c0 hv.ln) (Nat.le_of_ble_eq_true rfl) dX8_forth_10 ?_
    intro r h9 hq _
    obtain ⟨v11, rfl, rfl, f10⟩ := hq
    have k12 := bd_e k8 f10.symm
    refine go_goto (pc := 13) (tgt := 19) (by decide) dX8_forth_13 ?_
    exact gi_lret (pc := 19) ⟨_, rfl, rfl, (k12.symm.trans kf)⟩ hv dX8_forth_19
def f_X8_between2 (s : ST) (a2 : Int) (a3 : Int) : Int64 :=
  bd (f_X8_isStatement2 s a2) fun v3 => if v3 = 0 then (((-1) : Int64)) else (bd (f_X8_isStatement2 s a3) fun v11 => if v11 = 0 then (((-1) : Int64)) else (bd (f_X8_forthOf2 s a2) fun v19 => bd (s.2.1 111 (a3).toNat) fun v21 => bd (o_land v19 v21) fun v23 => v23))
set_option maxHeartbeats 4000000 in
set_option maxRecDepth 100000 in
theorem s_X8_between2_f (l : Launch) (d : Nat) {P : PP} {h : HP} (hv : Iv P h) (a2 : Int32) (a3 : Int32) : Mt l yX8_between cX8_between 3 (some .long) (d + 3) [.ref 70, .int a2, .int a3] h 0 0 (fun r h' => ∃ v : Int64, r = some (.long v) ∧ h = h' ∧ (v = f_X8_between2 (st h) a2.toInt a3.toInt)) := by
  refine Mt_iv hv (by decide) (Nat.le_of_ble_eq_true rfl) ?_
  show Go l RX8 cX8_between 3 (g_rm (d + 3) 0 0) "between" (some .long) 117 0 0 (fun _ _ => True) (fun r h' => ∃ v : Int64, r = some (.long v) ∧ h = h' ∧ (v = f_X8_between2 (st h) a2.toInt a3.toInt)) 0 0 [(0, .ref 70), (1, .int a2), (2, .int a3)] [] h
  obtain ⟨fin, kf⟩ : ∃ z, z = f_X8_between2 (st h) a2.toInt a3.toInt := ⟨_, _root_.rfl⟩
  have k0 := kf
  unfold f_X8_between2 at k0
  refine go_aload_n (pc := 0) rfl dX8_between_0 ?_
  refine go_iload_n (pc := 1) rfl dX8_between_1 ?_
  refine go_invV (pc := 2) (sl := 0) (s_X8_isStatement2_f l (d + 0) hv a2) mL_X8_389 iM_X8_isStatement sM_X8_isStatement (hv.sh rfl) rfl rfl rfl (Nat.le_of_ble_eq_true rfl) (show d + 0 + 2 + 1 ≤ d + 3 by omega) (show 8 + (2 + 11) + 40 * (d + 0 + 2) ≤ 40 * (d + 3) by omega) (g_c0 hv.ln) (Nat.le_of_ble_eq_true rfl) dX8_between_2 ?_
  intro r h1 hq _
  obtain ⟨v3, rfl, v3l, v3u, rfl, f4, f2⟩ := hq
  replace f2 : PE _ _ := f2
  have k5 := bd_e k0 f2.symm
  refine gf_if_eq (pc := 5) (tgt := 31) (ti_rfl v3) (by decide) dX8_between_5 (fun q6 => ?_) (fun q6 => ?_)
  ·
    have k7 := if_t k5 q6
    refine go_ldc2 (pc := 31) kL_X8_329 dX8_between_31 ?_
    exact gi_lret (pc := 34) ⟨_, rfl, rfl, (k7.symm.trans kf)⟩ hv dX8_between_34
  ·
    have k8 := if_f k5 q6
    refine go_aload_n (pc := 8) rfl dX8_between_8 ?_
    refine go_iload_n (pc := 9) rfl dX8_between_9 ?_
    refine go_invV (pc := 10) (sl := 0) (s_X8_isStatement2_f l (d + 0) hv a3) mL_X8_389 iM_X8_isStatement sM_X8_isStatement (hv.sh rfl) rfl rfl rfl (Nat.le_of_ble_eq_true rfl) (show d + 0 + 2 + 1 ≤ d + 3 by omega) (show 8 + (2 + 11) + 40 * (d + 0 + 2) ≤ 40 * (d + 3) by omega) (g_c0 hv.ln) (Nat.le_of_ble_eq_true rfl) dX8_between_10 ?_
    intro r h9 hq _
    obtain ⟨v11, rfl, v11l, v11u, rfl, f12, f10⟩ := hq
    replace f10 : PE _ _ := f10
    have k13 := bd_e k8 f10.symm
    refine gf_if_eq (pc := 13) (tgt := 31) (ti_rfl v11) (by decide) dX8_between_13 (fun q14 => ?_) (fun q14 => ?_)
    ·
      have k15 := if_t k13 q14
      refine go_ldc2 (pc := 31) kL_X8_329 dX8_between_31 ?_
      exact gi_lret (pc := 34) ⟨_, rfl, rfl, (k15.symm.trans kf)⟩ hv dX8_between_34
    ·
      have k16 := if_f k13 q14
      refine go_aload_n (pc := 16) rfl dX8_between_16 ?_
      refine go_iload_n (pc := 17) rfl dX8_between_17 ?_
      refine go_invV (pc := 18) (sl := 0) (s_X8_forthOf2_f l (d + 0) hv a2) mL_X8_398 iM_X8_forthOf sM_X8_forthOf (hv.sh rfl) rfl rfl rfl (Nat.le_of_ble_eq_true rfl) (show d + 0 + 2 + 1 ≤ d + 3 by omega) (show 8 + (5 + 11) + 40 * (d + 0 + 2) ≤ 40 * (d + 3) by omega) (g_c0 hv.ln) (Nat.le_of_ble_eq_true rfl) dX8_between_18 ?_
      intro r h17 hq _
      obtain ⟨v19, rfl, rfl, f18⟩ := hq
      have k20 := bd_e k16 f18.symm
      refine go_aload_n (pc := 21) rfl dX8_between_21 ?_
      refine gi_getF (pc := 22) (q := 111) hv fL_X8_133 rfl (Nat.le_of_ble_eq_true rfl) rfl (hv.rf (by decide)) dX8_between_22 ?_
      refine go_iload_n (pc := 25) rfl dX8_between_25 ?_
      refine gi_lald (pc := 26) (len := 40) hv (ti_rfl a3) rfl (by omega) (by omega) dX8_between_26 (fun v21 v21w => ?_)
      have k22 := bd_e k20 v21w.symm
      refine gx_land (pc := 27) dX8_between_27 (fun v23 v23x => ?_)
      have k24 := bd_e k22 (so_land v23x)
      refine go_goto (pc := 28) (tgt := 34) (by decide) dX8_between_28 ?_
      exact gi_lret (pc := 34) ⟨_, rfl, rfl, (k24.symm.trans kf)⟩ hv dX8_between_34
noncomputable def f_X8_backOf2 (s : ST) (a2 : Int) (a3 : Int) : ST × Int64 :=
  bd (s.1 70 29) fun v1 => bd (sI s 70 6 v1) fun s3 => bd (f_X8_isProcedure2 s3 a2) fun v7 => if v7 = 0 then ((s3, ((-1) : Int64))) else (bd (f_X8_isIn s3 a3 0 5) fun v17 => if ¬ v17 = 0 then (bd (f_X8_empties_x2 s3) fun s21 => bd (f_X8_procedurePlace2 s21 a2 ((7 + a3))) fun v31 => bd (f_X8_reach2 s21 v31) fun s33 => bd (f_X8_goesBack2 s33) fun s38 => bd (f_X8_inSet2 s38) fun v46 => (s38, v46)) else ((s3, ((-1) : Int64))))
set_option maxHeartbeats 4000000 in
set_option maxRecDepth 100000 in
theorem s_X8_backOf2_f (l : Launch) (d : Nat) {P : PP} {h : HP} (hv : Iv P h) (a2 : Int32) (a3 : Int32) (ckf : CKF h.2.1) : Mt l yX8_backOf cX8_backOf 3 (some .long) (d + 6) [.ref 70, .int a2, .int a3] h 0 0 (fun r h' => ∃ v : Int64, r = some (.long v) ∧ Iv (gs P) h' ∧ ((st h', v) = f_X8_backOf2 (st h) a2.toInt a3.toInt) ∧ (FX KAq h h')) := by
  refine Mt_iv hv (by decide) (Nat.le_of_ble_eq_true rfl) ?_
  show Go l RX8 cX8_backOf 3 (g_rm (d + 6) 0 0) "backOf" (some .long) 117 0 0 (fun _ _ => True) (fun r h' => ∃ v : Int64, r = some (.long v) ∧ Iv (gs P) h' ∧ ((st h', v) = f_X8_backOf2 (st h) a2.toInt a3.toInt) ∧ (FX KAq h h')) 0 0 [(0, .ref 70), (1, .int a2), (2, .int a3)] [] h
  have fx : FX KAq h h := FX.rfl
  obtain ⟨fin, kf⟩ : ∃ z, z = f_X8_backOf2 (st h) a2.toInt a3.toInt := ⟨_, _root_.rfl⟩
  have k0 := kf
  unfold f_X8_backOf2 at k0
  refine go_aload_n (pc := 0) rfl dX8_backOf_0 ?_
  refine go_aload_n (pc := 1) rfl dX8_backOf_1 ?_
  refine gi_get (pc := 2) (lo := 0) (hi := 1) hv fL_X8_228 rfl (Nat.le_of_ble_eq_true rfl) rfl rfl dX8_backOf_2 (fun v1 v1l v1u v1w => ?_)
  have k2 := bd_e k0 (congrArg Int32.toInt v1w.symm)
  refine gi_putS (pc := 5) hv v1w (fP_X8_187 _) dX8_backOf_5 (fun h3 hv3 hv3e => ?_)
  have fx3 : FX KAq h h3 := FX.pI fx hv3e (by unfold KAq; omega)
  have k4 := bd_e k2 (st_I hv3e (ti_rfl v1))
  refine go_aload_n (pc := 8) rfl dX8_backOf_8 ?_
  refine go_iload_n (pc := 9) rfl dX8_backOf_9 ?_
  refine go_invV (pc := 10) (sl := 0) (s_X8_isProcedure2_f l (d + 3) hv3 a2) mL_X8_395 iM_X8_isProcedure sM_X8_isProcedure (hv3.sh rfl) rfl rfl rfl (Nat.le_of_ble_eq_true rfl) (show d + 3 + 2 + 1 ≤ d + 6 by omega) (show 8 + (2 + 11) + 40 * (d + 3 + 2) ≤ 40 * (d + 6) by omega) (g_c0 hv3.ln) (Nat.le_of_ble_eq_true rfl) dX8_backOf_10 ?_
  intro r h5 hq _
  obtain ⟨v7, rfl, v7l, v7u, rfl, f8, f6⟩ := hq
  replace f6 : PE _ _ := f6
  have k9 := bd_e k4 f6.symm
  refine gf_if_eq (pc := 13) (tgt := 25) (ti_rfl v7) (by decide) dX8_backOf_13 (fun q10 => ?_) (fun q10 => ?_)
  ·
    have k11 := if_t k9 q10
    refine go_ldc2 (pc := 25) kL_X8_329 dX8_backOf_25 ?_
    exact gi_lret (pc := 28) ⟨_, rfl, hv3, (k11.symm.trans kf), fx3⟩ hv3 dX8_backOf_28
  ·
    have k12 := if_f k9 q10
    refine go_iload_n (pc := 16) rfl dX8_backOf_16 ?_
    refine go_iconst (pc := 17) (v := 0) (by decide) dX8_backOf_17 ?_
    refine go_iconst (pc := 18) (v := 5) (by decide) dX8_backOf_18 ?_
    refine go_invS (pc := 19) (sl := 0) (s_X8_isIn_f l (d + 4) hv3 a3 0 5) mL_X8_159 iM_X8_isIn rfl rfl (Nat.le_of_ble_eq_true rfl) (show d + 4 + 1 + 1 ≤ d + 6 by omega) (show 8 + (3 + 11) + 40 * (d + 4 + 1) ≤ 40 * (d + 6) by omega) (g_c0 hv3.ln) (Nat.le_of_ble_eq_true rfl) dX8_backOf_19 ?_
    intro r h13 hq _
    obtain ⟨v17, rfl, v17l, v17u, rfl, f14, f15, f16⟩ := hq
    try rw [show (0 : Int32).toInt = 0 from (ti_c (v := 0) (a := 0) (by decide))] at f14
    try rw [show (5 : Int32).toInt = 5 from (ti_c (v := 5) (a := 5) (by decide))] at f14
    try rw [show (0 : Int32).toInt = 0 from (ti_c (v := 0) (a := 0) (by decide))] at f15
    try rw [show (5 : Int32).toInt = 5 from (ti_c (v := 5) (a := 5) (by decide))] at f15
    try rw [show (0 : Int32).toInt = 0 from (ti_c (v := 0) (a := 0) (by decide))] at f16
    try rw [show (5 : Int32).toInt = 5 from (ti_c (v := 5) (a := 5) (by decide))] at f16
    replace f16 : PE _ _ := f16
    have k18 := bd_e k12 f16.symm
    refine gf_if_ne (pc := 22) (tgt := 29) (ti_rfl v17) (by decide) dX8_backOf_22 (fun q19 => ?_) (fun q19 => ?_)
    ·
      have k20 := if_t k18 q19
      refine go_aload_n (pc := 29) rfl dX8_backOf_29 ?_
      refine go_invV (pc := 30) (sl := 0) (s_X8_empties_x2_f l (d + 4) hv3 ) mL_X8_356 iM_X8_empties sM_X8_empties (hv3.sh rfl) rfl rfl rfl (Nat.le_of_ble_eq_true rfl) (show d + 4 + 1 + 1 ≤ d + 6 by omega) (show 8 + (2 + 11) + 40 * (d + 4 + 1) ≤ 40 * (d + 6) by omega) (g_c0 hv3.ln) (Nat.le_of_ble_eq_true rfl) dX8_backOf_30 ?_
      intro r h21 hq _
      obtain ⟨rfl, hv21, f22, f23, f24, f25⟩ := hq
      have fx21 : FX KAq h h21 := FX.tr fx3 f25
      have k26 := bd_e k20 f24.symm
      refine go_aload_n (pc := 33) rfl dX8_backOf_33 ?_
      refine go_iload_n (pc := 34) rfl dX8_backOf_34 ?_
      refine go_bipush (pc := 35) (v := 7) (by decide) dX8_backOf_35 ?_
      refine go_iload_n (pc := 37) rfl dX8_backOf_37 ?_
      refine gf_iadd (pc := 38) (ti_c (v := 7) (a := 7) (by decide)) (ti_rfl a3) (by omega) (by omega) dX8_backOf_38 (fun v27 e28 => ?_)
      refine go_invS (pc := 39) (sl := 0) (s_X8_procedurePlace2_f l (d + 4) hv21 a2 (by rw [show (a2 : Int32).toInt = a2.toInt from (ti_rfl a2)]; omega) (by rw [show (a2 : Int32).toInt = a2.toInt from (ti_rfl a2)]; omega) v27 (by rw [show (v27 : Int32).toInt = (7 + a3.toInt) from e28]; omega) (by rw [show (v27 : Int32).toInt = (7 + a3.toInt) from e28]; omega)) mL_X8_300 iM_X8_procedurePlace rfl rfl (Nat.le_of_ble_eq_true rfl) (show d + 4 + 1 + 1 ≤ d + 6 by omega) (show 8 + (2 + 11) + 40 * (d + 4 + 1) ≤ 40 * (d + 6) by omega) (g_c0 hv21.ln) (Nat.le_of_ble_eq_true rfl) dX8_backOf_39 ?_
      intro r h29 hq _
      obtain ⟨v31, rfl, v31l, v31u, rfl, f30⟩ := hq
      try rw [show (v27 : Int32).toInt = (7 + a3.toInt) from e28] at f30
      replace f30 : PE _ _ := f30
      have k32 := bd_e k26 f30.symm
      refine go_invV (pc := 42) (sl := 0) (s_X8_reach2_f l (d + 3) hv21 v31 (by rw [show (v31 : Int32).toInt = v31.toInt from (ti_rfl v31)]; omega) (by rw [show (v31 : Int32).toInt = v31.toInt from (ti_rfl v31)]; omega) (EM.hw f22)) mL_X8_347 iM_X8_reach sM_X8_reach (hv21.sh rfl) rfl rfl rfl (Nat.le_of_ble_eq_true rfl) (show d + 3 + 2 + 1 ≤ d + 6 by omega) (show 8 + (2 + 11) + 40 * (d + 3 + 2) ≤ 40 * (d + 6) by omega) (g_c0 hv21.ln) (Nat.le_of_ble_eq_true rfl) dX8_backOf_42 ?_
      intro r h33 hq _
      obtain ⟨rfl, hv33, f34, f35, f36⟩ := hq
      have fx33 : FX KAq h h33 := FX.tr fx21 f36
      have k37 := bd_e k32 f35.symm
      refine go_aload_n (pc := 45) rfl dX8_backOf_45 ?_
      refine go_invV (pc := 46) (sl := 0) (s_X8_goesBack2_f l (d + 0) hv33 (RC.ph f34 (by omega) (by omega) (EM.hw f22)).1 (CKF.ve (VE.ofgs hv hv33) ckf)) mL_X8_375 iM_X8_goesBack sM_X8_goesBack (hv33.sh rfl) rfl rfl rfl (Nat.le_of_ble_eq_true rfl) (show d + 0 + 5 + 1 ≤ d + 6 by omega) (show 8 + (2 + 11) + 40 * (d + 0 + 5) ≤ 40 * (d + 6) by omega) (g_c0 hv33.ln) (Nat.le_of_ble_eq_true rfl) dX8_backOf_46 ?_
      intro r h38 hq _
      obtain ⟨rfl, hv38, f39, f40, f41, f42⟩ := hq
      have fx38 : FX KAq h h38 := FX.tr fx33 f42
      have k43 := bd_e k37 f41.symm
      refine go_aload_n (pc := 49) rfl dX8_backOf_49 ?_
      refine go_invV (pc := 50) (sl := 0) (s_X8_inSet2_f l (d + 3) hv38 ) mL_X8_378 iM_X8_inSet sM_X8_inSet (hv38.sh rfl) rfl rfl rfl (Nat.le_of_ble_eq_true rfl) (show d + 3 + 2 + 1 ≤ d + 6 by omega) (show 8 + (5 + 11) + 40 * (d + 3 + 2) ≤ 40 * (d + 6) by omega) (g_c0 hv38.ln) (Nat.le_of_ble_eq_true rfl) dX8_backOf_50 ?_
      intro r h44 hq _
      obtain ⟨v46, rfl, rfl, f45⟩ := hq
      have k47 := bd_e k43 f45.symm
      exact gi_lret (pc := 53) ⟨_, rfl, hv38, (k47.symm.trans kf), fx38⟩ hv38 dX8_backOf_53
    ·
      have k48 := if_f k18 (fun z => z q19)
      refine go_ldc2 (pc := 25) kL_X8_329 dX8_backOf_25 ?_
      exact gi_lret (pc := 28) ⟨_, rfl, hv3, (k48.symm.trans kf), fx3⟩ hv3 dX8_backOf_28

