theorem fz_ne {a : Int} (h : -1 ≤ a) (n : ¬ a = -1) : 0 ≤ a := by omega

def f_X8_item2 (s : ST) (a2 : Int) : Int :=
  bd (s.1 70 6) fun v1 => bd (s.1 93 (((40 * v1) + a2)).toNat) fun v7 => v7
set_option maxHeartbeats 4000000 in
set_option maxRecDepth 100000 in
theorem s_X8_item2_f (l : Launch) (d : Nat) {P : PP} {h : HP} (hv : Iv P h) (a2 : Int32) (a2l : 0 ≤ a2.toInt) (a2u : a2.toInt ≤ 39) : Mt l yX8_item cX8_item 2 (some .int) (d + 1) [.ref 70, .int a2] h 0 0 (fun r h' => ∃ v : Int32, r = some (.int v) ∧ 0 ≤ v.toInt ∧ v.toInt ≤ 259 ∧ h = h' ∧ (v.toInt = g_it h a2.toInt) ∧ (v.toInt = f_X8_item2 (st h) a2.toInt)) := by
  refine Mt_iv hv (by decide) (Nat.le_of_ble_eq_true rfl) ?_
  show Go l RX8 cX8_item 2 (g_rm (d + 1) 0 0) "item" (some .int) 117 0 0 (fun _ _ => True) (fun r h' => ∃ v : Int32, r = some (.int v) ∧ 0 ≤ v.toInt ∧ v.toInt ≤ 259 ∧ h = h' ∧ (v.toInt = g_it h a2.toInt) ∧ (v.toInt = f_X8_item2 (st h) a2.toInt)) 0 0 [(0, .ref 70), (1, .int a2)] [] h
  obtain ⟨fin, kf⟩ : ∃ z, z = f_X8_item2 (st h) a2.toInt := ⟨_, _root_.rfl⟩
  have k0 := kf
  unfold f_X8_item2 at k0
  refine go_aload_n (pc := 0) rfl dX8_item_0 ?_
  refine gi_getF (pc := 1) (q := 93) hv fL_X8_77 rfl (Nat.le_of_ble_eq_true rfl) rfl (hv.rf (by decide)) dX8_item_1 ?_
  refine go_bipush (pc := 4) (v := 40) (by decide) dX8_item_4 ?_
  refine go_aload_n (pc := 6) rfl dX8_item_6 ?_
  refine gi_get (pc := 7) (lo := 0) (hi := 1) hv fL_X8_187 rfl (Nat.le_of_ble_eq_true rfl) rfl rfl dX8_item_7 (fun v1 v1l v1u v1w => ?_)
  have k2 := bd_e k0 (congrArg Int32.toInt v1w.symm)
  refine gf_imul (pc := 10) (ti_c (v := 40) (a := 40) (by decide)) (ti_rfl v1) (by omega) (by omega) dX8_item_10 (fun v3 e4 => ?_)
  refine go_iload_n (pc := 11) rfl dX8_item_11 ?_
  refine gf_iadd (pc := 12) e4 (ti_rfl a2) (by omega) (by omega) dX8_item_12 (fun v5 e6 => ?_)
  refine gi_iald (pc := 13) (lo := 0) (hi := 259) (len := 80) hv e6 rfl (by omega) (by omega) (fun _ => rfl) dX8_item_13 (fun v7 v7l v7u v7w => ?_)
  have k8 := bd_e k2 (congrArg Int32.toInt v7w.symm)
  exact gi_iret (pc := 14) (ti_rfl v7) ⟨_, rfl, (by rw [show (v7 : Int32).toInt = v7.toInt from (ti_rfl v7)]; omega), (by rw [show (v7 : Int32).toInt = v7.toInt from (ti_rfl v7)]; omega), rfl, (by show v7.toInt = g_it h a2.toInt; unfold g_it; rw [v7w, v1w]), (k8.symm.trans kf)⟩ hv dX8_item_14
def f_X8_kindAt2 (s : ST) (a2 : Int) : Int :=
  bd (f_X8_item2 s a2) fun v4 => bd (s.1 77 (v4).toNat) fun v6 => v6
set_option maxHeartbeats 4000000 in
set_option maxRecDepth 100000 in
theorem s_X8_kindAt2_f (l : Launch) (d : Nat) {P : PP} {h : HP} (hv : Iv P h) (a2 : Int32) (a2l : 0 ≤ a2.toInt) (a2u : a2.toInt ≤ 39) : Mt l yX8_kindAt cX8_kindAt 2 (some .int) (d + 2) [.ref 70, .int a2] h 0 0 (fun r h' => ∃ v : Int32, r = some (.int v) ∧ 0 ≤ v.toInt ∧ v.toInt ≤ 6 ∧ h = h' ∧ (v.toInt = g_kd h a2.toInt) ∧ (v.toInt = f_X8_kindAt2 (st h) a2.toInt)) := by
  refine Mt_iv hv (by decide) (Nat.le_of_ble_eq_true rfl) ?_
  show Go l RX8 cX8_kindAt 2 (g_rm (d + 2) 0 0) "kindAt" (some .int) 117 0 0 (fun _ _ => True) (fun r h' => ∃ v : Int32, r = some (.int v) ∧ 0 ≤ v.toInt ∧ v.toInt ≤ 6 ∧ h = h' ∧ (v.toInt = g_kd h a2.toInt) ∧ (v.toInt = f_X8_kindAt2 (st h) a2.toInt)) 0 0 [(0, .ref 70), (1, .int a2)] [] h
  obtain ⟨fin, kf⟩ : ∃ z, z = f_X8_kindAt2 (st h) a2.toInt := ⟨_, _root_.rfl⟩
  have k0 := kf
  unfold f_X8_kindAt2 at k0
  refine go_aload_n (pc := 0) rfl dX8_kindAt_0 ?_
  refine gi_getF (pc := 1) (q := 77) hv fL_X8_29 rfl (Nat.le_of_ble_eq_true rfl) rfl (hv.rf (by decide)) dX8_kindAt_1 ?_
  refine go_aload_n (pc := 4) rfl dX8_kindAt_4 ?_
  refine go_iload_n (pc := 5) rfl dX8_kindAt_5 ?_
  refine go_invV (pc := 6) (sl := 0) (s_X8_item2_f l (d + 0) hv a2 (by rw [show (a2 : Int32).toInt = a2.toInt from (ti_rfl a2)]; omega) (by rw [show (a2 : Int32).toInt = a2.toInt from (ti_rfl a2)]; omega)) mL_X8_268 iM_X8_item sM_X8_item (hv.sh rfl) rfl rfl rfl (Nat.le_of_ble_eq_true rfl) (show d + 0 + 1 + 1 ≤ d + 2 by omega) (show 8 + (2 + 11) + 40 * (d + 0 + 1) ≤ 40 * (d + 2) by omega) (g_c0 hv.ln) (Nat.le_of_ble_eq_true rfl) dX8_kindAt_6 ?_
  intro r h1 hq _
  obtain ⟨v4, rfl, v4l, v4u, rfl, f2, f3⟩ := hq
  replace f3 : PE _ _ := f3
  have k5 := bd_e k0 f3.symm
  refine gi_iald (pc := 9) (lo := 0) (hi := 6) (len := 260) hv (ti_rfl v4) rfl (by omega) (by omega) (fun _ => rfl) dX8_kindAt_9 (fun v6 v6l v6u v6w => ?_)
  have k7 := bd_e k5 (congrArg Int32.toInt v6w.symm)
  exact gi_iret (pc := 10) (ti_rfl v6) ⟨_, rfl, (by rw [show (v6 : Int32).toInt = v6.toInt from (ti_rfl v6)]; omega), (by rw [show (v6 : Int32).toInt = v6.toInt from (ti_rfl v6)]; omega), rfl, (by show v6.toInt = g_kd h a2.toInt; unfold g_kd; rw [v6w, f2]), (k7.symm.trans kf)⟩ hv dX8_kindAt_10
def f_X8_has2 (s : ST) (a1 : Int64) (a2 : Int) : Int :=
  bd (o_lshr a1 a2) fun v1 => bd (o_land v1 (1 : Int64)) fun v3 => bd (o_lcmp v3 (1 : Int64)) fun v5 => if ¬ v5 = 0 then (0) else (1)
set_option maxHeartbeats 4000000 in
set_option maxRecDepth 100000 in
theorem s_X8_has2_f (l : Launch) (d : Nat) {P : PP} {h : HP} (hv : Iv P h) (a1 : Int64) (a2 : Int32) : Mt l yX8_has cX8_has 3 (some .boolean) (d + 1) [.long a1, .int a2] h 0 0 (fun r h' => ∃ v : Int32, r = some (.int v) ∧ 0 ≤ v.toInt ∧ v.toInt ≤ 1 ∧ h = h' ∧ (v.toInt = f_X8_has2 (st h) a1 a2.toInt)) := by
  refine Mt_iv hv (by decide) (Nat.le_of_ble_eq_true rfl) ?_
  show Go l RX8 cX8_has 3 (g_rm (d + 1) 0 0) "has" (some .boolean) 117 0 0 (fun _ _ => True) (fun r h' => ∃ v : Int32, r = some (.int v) ∧ 0 ≤ v.toInt ∧ v.toInt ≤ 1 ∧ h = h' ∧ (v.toInt = f_X8_has2 (st h) a1 a2.toInt)) 0 0 [(0, .long a1), (2, .int a2)] [] h
  obtain ⟨fin, kf⟩ : ∃ z, z = f_X8_has2 (st h) a1 a2.toInt := ⟨_, _root_.rfl⟩
  have k0 := kf
  unfold f_X8_has2 at k0
  refine go_lload_n (pc := 0) rfl dX8_has_0 ?_
  refine go_iload_n (pc := 1) rfl dX8_has_1 ?_
  refine gx_lshr (pc := 2) dX8_has_2 (fun v1 v1x => ?_)
  have k2 := bd_e k0 (so_lshr (ti_rfl a2) v1x)
  refine go_lconst (pc := 3) (v := 1) (by decide) dX8_has_3 ?_
  refine gx_land (pc := 4) dX8_has_4 (fun v3 v3x => ?_)
  have k4 := bd_e k2 (so_land v3x)
  refine go_lconst (pc := 5) (v := 1) (by decide) dX8_has_5 ?_
  refine gx_lcmp (pc := 6) dX8_has_6 (fun v5 v5x => ?_)
  have k6 := bd_e k4 (so_lcmp v5x)
  refine gf_if_ne (pc := 7) (tgt := 14) (ti_rfl v5) (by decide) dX8_has_7 (fun q7 => ?_) (fun q7 => ?_)
  ·
    have k8 := if_t k6 q7
    refine go_iconst (pc := 14) (v := 0) (by decide) dX8_has_14 ?_
    exact gi_zret (pc := 15) (ti_c (v := 0) (a := 0) (by decide)) (by omega) (by omega) ⟨_, rfl, (by rw [show (0 : Int32).toInt = 0 from (ti_c (v := 0) (a := 0) (by decide))]; omega), (by rw [show (0 : Int32).toInt = 0 from (ti_c (v := 0) (a := 0) (by decide))]; omega), rfl, (by rw [show (0 : Int32).toInt = 0 from (ti_c (v := 0) (a := 0) (by decide))]; exact k8.symm.trans kf)⟩ hv dX8_has_15
  ·
    have k9 := if_f k6 (fun z => z q7)
    refine go_iconst (pc := 10) (v := 1) (by decide) dX8_has_10 ?_
    refine go_goto (pc := 11) (tgt := 15) (by decide) dX8_has_11 ?_
    exact gi_zret (pc := 15) (ti_c (v := 1) (a := 1) (by decide)) (by omega) (by omega) ⟨_, rfl, (by rw [show (1 : Int32).toInt = 1 from (ti_c (v := 1) (a := 1) (by decide))]; omega), (by rw [show (1 : Int32).toInt = 1 from (ti_c (v := 1) (a := 1) (by decide))]; omega), rfl, (by rw [show (1 : Int32).toInt = 1 from (ti_c (v := 1) (a := 1) (by decide))]; exact k9.symm.trans kf)⟩ hv dX8_has_15
def f_X8_has_x2 (s : ST) (a1 : Int64) (a2 : Int) : Int :=
  bd (o_lshr a1 a2) fun v1 => bd (o_land v1 (1 : Int64)) fun v3 => bd (o_lcmp v3 (1 : Int64)) fun v5 => if ¬ v5 = 0 then (0) else (1)
set_option maxHeartbeats 4000000 in
set_option maxRecDepth 100000 in
theorem s_X8_has_x2_f (l : Launch) (d : Nat) {P : PP} {h : HP} (hv : Iv P h) (a1 : Int64) (a2 : Int32) (a2l : 0 ≤ a2.toInt) (a2u : a2.toInt ≤ 63) : Mt l yX8_has cX8_has 3 (some .boolean) (d + 1) [.long a1, .int a2] h 0 0 (fun r h' => ∃ v : Int32, r = some (.int v) ∧ 0 ≤ v.toInt ∧ v.toInt ≤ 1 ∧ h = h' ∧ ((v.toInt = 1 → bt a1 a2.toInt) ∧ (v.toInt = 0 → ¬ bt a1 a2.toInt)) ∧ (v.toInt = f_X8_has_x2 (st h) a1 a2.toInt)) := by
  refine Mt_iv hv (by decide) (Nat.le_of_ble_eq_true rfl) ?_
  show Go l RX8 cX8_has 3 (g_rm (d + 1) 0 0) "has" (some .boolean) 117 0 0 (fun _ _ => True) (fun r h' => ∃ v : Int32, r = some (.int v) ∧ 0 ≤ v.toInt ∧ v.toInt ≤ 1 ∧ h = h' ∧ ((v.toInt = 1 → bt a1 a2.toInt) ∧ (v.toInt = 0 → ¬ bt a1 a2.toInt)) ∧ (v.toInt = f_X8_has_x2 (st h) a1 a2.toInt)) 0 0 [(0, .long a1), (2, .int a2)] [] h
  obtain ⟨fin, kf⟩ : ∃ z, z = f_X8_has_x2 (st h) a1 a2.toInt := ⟨_, _root_.rfl⟩
  have k0 := kf
  unfold f_X8_has_x2 at k0
  refine go_lload_n (pc := 0) rfl dX8_has_0 ?_
  refine go_iload_n (pc := 1) rfl dX8_has_1 ?_
  refine gx_lshr (pc := 2) dX8_has_2 (fun v1 v1x => ?_)
  have k2 := bd_e k0 (so_lshr (ti_rfl a2) v1x)
  refine go_lconst (pc := 3) (v := 1) (by decide) dX8_has_3 ?_
  refine gx_land (pc := 4) dX8_has_4 (fun v3 v3x => ?_)
  have k4 := bd_e k2 (so_land v3x)
  refine go_lconst (pc := 5) (v := 1) (by decide) dX8_has_5 ?_
  refine gx_lcmp (pc := 6) dX8_has_6 (fun v5 v5x => ?_)
  have k6 := bd_e k4 (so_lcmp v5x)
  refine gf_if_ne (pc := 7) (tgt := 14) (ti_rfl v5) (by decide) dX8_has_7 (fun q7 => ?_) (fun q7 => ?_)
  ·
    have k8 := if_t k6 q7
    refine go_iconst (pc := 14) (v := 0) (by decide) dX8_has_14 ?_
    exact gi_zret (pc := 15) (ti_c (v := 0) (a := 0) (by decide)) (by omega) (by omega) ⟨_, rfl, (by rw [show (0 : Int32).toInt = 0 from (ti_c (v := 0) (a := 0) (by decide))]; omega), (by rw [show (0 : Int32).toInt = 0 from (ti_c (v := 0) (a := 0) (by decide))]; omega), rfl, ⟨fun q => absurd q (by decide), fun _ q => absurd (show (v5 : Int32).toInt = 0 from by rw [v5x]; exact (cmp_eq v3 1).mpr (by rw [v3x, v1x]; exact (has_bit (by omega) (by omega)).mpr q)) (by omega)⟩, (by rw [show (0 : Int32).toInt = 0 from (ti_c (v := 0) (a := 0) (by decide))]; exact k8.symm.trans kf)⟩ hv dX8_has_15
  ·
    have k9 := if_f k6 (fun z => z q7)
    refine go_iconst (pc := 10) (v := 1) (by decide) dX8_has_10 ?_
    refine go_goto (pc := 11) (tgt := 15) (by decide) dX8_has_11 ?_
    exact gi_zret (pc := 15) (ti_c (v := 1) (a := 1) (by decide)) (by omega) (by omega) ⟨_, rfl, (by rw [show (1 : Int32).toInt = 1 from (ti_c (v := 1) (a := 1) (by decide))]; omega), (by rw [show (1 : Int32).toInt = 1 from (ti_c (v := 1) (a := 1) (by decide))]; omega), rfl, ⟨fun _ => by have e := (cmp_eq v3 1).mp (by rw [← v5x]; omega); rw [v3x, v1x] at e; exact (has_bit (by omega) (by omega)).mp e, fun q => absurd q (by decide)⟩, (by rw [show (1 : Int32).toInt = 1 from (ti_c (v := 1) (a := 1) (by decide))]; exact k9.symm.trans kf)⟩ hv dX8_has_15
def f_X8_statementPlace2 (s : ST) (a1 : Int) (a2 : Int) : Int :=
  ((13 * a1) + a2)
set_option maxHeartbeats 4000000 in
set_option maxRecDepth 100000 in
theorem s_X8_statementPlace2_f (l : Launch) (d : Nat) {P : PP} {h : HP} (hv : Iv P h) (a1 : Int32) (a1l : 0 ≤ a1.toInt) (a1u : a1.toInt ≤ 39) (a2 : Int32) (a2l : 0 ≤ a2.toInt) (a2u : a2.toInt ≤ 12) : Mt l yX8_statementPlace cX8_statementPlace 2 (some .int) (d + 1) [.int a1, .int a2] h 0 0 (fun r h' => ∃ v : Int32, r = some (.int v) ∧ 0 ≤ v.toInt ∧ v.toInt ≤ 519 ∧ h = h' ∧ (v.toInt = f_X8_statementPlace2 (st h) a1.toInt a2.toInt)) := by
  refine Mt_iv hv (by decide) (Nat.le_of_ble_eq_true rfl) ?_
  show Go l RX8 cX8_statementPlace 2 (g_rm (d + 1) 0 0) "statementPlace" (some .int) 117 0 0 (fun _ _ => True) (fun r h' => ∃ v : Int32, r = some (.int v) ∧ 0 ≤ v.toInt ∧ v.toInt ≤ 519 ∧ h = h' ∧ (v.toInt = f_X8_statementPlace2 (st h) a1.toInt a2.toInt)) 0 0 [(0, .int a1), (1, .int a2)] [] h
  obtain ⟨fin, kf⟩ : ∃ z, z = f_X8_statementPlace2 (st h) a1.toInt a2.toInt := ⟨_, _root_.rfl⟩
  have k0 := kf
  unfold f_X8_statementPlace2 at k0
  refine go_bipush (pc := 0) (v := 13) (by decide) dX8_statementPlace_0 ?_
  refine go_iload_n (pc := 2) rfl dX8_statementPlace_2 ?_
  refine gf_imul (pc := 3) (ti_c (v := 13) (a := 13) (by decide)) (ti_rfl a1) (by omega) (by omega) dX8_statementPlace_3 (fun v1 e2 => ?_)
  refine go_iload_n (pc := 4) rfl dX8_statementPlace_4 ?_
  refine gf_iadd (pc := 5) e2 (ti_rfl a2) (by omega) (by omega) dX8_statementPlace_5 (fun v3 e4 => ?_)
  exact gi_iret (pc := 6) e4 ⟨_, rfl, (by rw [show (v3 : Int32).toInt = ((13 * a1.toInt) + a2.toInt) from e4]; omega), (by rw [show (v3 : Int32).toInt = ((13 * a1.toInt) + a2.toInt) from e4]; omega), rfl, (by rw [show (v3 : Int32).toInt = ((13 * a1.toInt) + a2.toInt) from e4]; exact k0.symm.trans kf)⟩ hv dX8_statementPlace_6
def f_X8_procedurePlace2 (s : ST) (a1 : Int) (a2 : Int) : Int :=
  ((520 + (13 * a1)) + a2)
set_option maxHeartbeats 4000000 in
set_option maxRecDepth 100000 in
theorem s_X8_procedurePlace2_f (l : Launch) (d : Nat) {P : PP} {h : HP} (hv : Iv P h) (a1 : Int32) (a1l : 0 ≤ a1.toInt) (a1u : a1.toInt ≤ 4) (a2 : Int32) (a2l : 0 ≤ a2.toInt) (a2u : a2.toInt ≤ 12) : Mt l yX8_procedurePlace cX8_procedurePlace 2 (some .int) (d + 1) [.int a1, .int a2] h 0 0 (fun r h' => ∃ v : Int32, r = some (.int v) ∧ 520 ≤ v.toInt ∧ v.toInt ≤ 584 ∧ h = h' ∧ (v.toInt = f_X8_procedurePlace2 (st h) a1.toInt a2.toInt)) := by
  refine Mt_iv hv (by decide) (Nat.le_of_ble_eq_true rfl) ?_
  show Go l RX8 cX8_procedurePlace 2 (g_rm (d + 1) 0 0) "procedurePlace" (some .int) 117 0 0 (fun _ _ => True) (fun r h' => ∃ v : Int32, r = some (.int v) ∧ 520 ≤ v.toInt ∧ v.toInt ≤ 584 ∧ h = h' ∧ (v.toInt = f_X8_procedurePlace2 (st h) a1.toInt a2.toInt)) 0 0 [(0, .int a1), (1, .int a2)] [] h
  obtain ⟨fin, kf⟩ : ∃ z, z = f_X8_procedurePlace2 (st h) a1.toInt a2.toInt := ⟨_, _root_.rfl⟩
  have k0 := kf
  unfold f_X8_procedurePlace2 at k0
  refine go_sipush (pc := 0) (v := 520) (by decide) dX8_procedurePlace_0 ?_
  refine go_bipush (pc := 3) (v := 13) (by decide) dX8_procedurePlace_3 ?_
  refine go_iload_n (pc := 5) rfl dX8_procedurePlace_5 ?_
  refine gf_imul (pc := 6) (ti_c (v := 13) (a := 13) (by decide)) (ti_rfl a1) (by omega) (by omega) dX8_procedurePlace_6 (fun v1 e2 => ?_)
  refine gf_iadd (pc := 7) (ti_c (v := 520) (a := 520) (by decide)) e2 (by omega) (by omega) dX8_procedurePlace_7 (fun v3 e4 => ?_)
  refine go_iload_n (pc := 8) rfl dX8_procedurePlace_8 ?_
  refine gf_iadd (pc := 9) e4 (ti_rfl a2) (by omega) (by omega) dX8_procedurePlace_9 (fun v5 e6 => ?_)
  exact gi_iret (pc := 10) e6 ⟨_, rfl, (by rw [show (v5 : Int32).toInt = ((520 + (13 * a1.toInt)) + a2.toInt) from e6]; omega), (by rw [show (v5 : Int32).toInt = ((520 + (13 * a1.toInt)) + a2.toInt) from e6]; omega), rfl, (by rw [show (v5 : Int32).toInt = ((520 + (13 * a1.toInt)) + a2.toInt) from e6]; exact k0.symm.trans kf)⟩ hv dX8_procedurePlace_10
def f_X8_isThrowing2 (s : ST) (a2 : Int) : Int :=
  bd (f_X8_kindAt2 s a2) fun v4 => if ¬ v4 = 1 then (0) else (bd (s.1 70 6) fun v9 => bd (f_X8_item2 s a2) fun v16 => bd (s.1 84 (v16).toNat) fun v18 => bd (s.1 102 (((5 * v9) + v18)).toNat) fun v23 => if v23 = 0 then (0) else (1))
set_option maxHeartbeats 4000000 in
set_option maxRecDepth 100000 in
theorem s_X8_isThrowing2_f (l : Launch) (d : Nat) {P : PP} {h : HP} (hv : Iv P h) (a2 : Int32) (a2l : 0 ≤ a2.toInt) (a2u : a2.toInt ≤ 39) (ck : CK P) : Mt l yX8_isThrowing cX8_isThrowing 2 (some .boolean) (d + 3) [.ref 70, .int a2] h 0 0 (fun r h' => ∃ v : Int32, r = some (.int v) ∧ 0 ≤ v.toInt ∧ v.toInt ≤ 1 ∧ h = h' ∧ (v.toInt = f_X8_isThrowing2 (st h) a2.toInt)) := by
  refine Mt_iv hv (by decide) (Nat.le_of_ble_eq_true rfl) ?_
  show Go l RX8 cX8_isThrowing 2 (g_rm (d + 3) 0 0) "isThrowing" (some .boolean) 117 0 0 (fun _ _ => True) (fun r h' => ∃ v : Int32, r = some (.int v) ∧ 0 ≤ v.toInt ∧ v.toInt ≤ 1 ∧ h = h' ∧ (v.toInt = f_X8_isThrowing2 (st h) a2.toInt)) 0 0 [(0, .ref 70), (1, .int a2)] [] h
  obtain ⟨fin, kf⟩ : ∃ z, z = f_X8_isThrowing2 (st h) a2.toInt := ⟨_, _root_.rfl⟩
  have k0 := kf
  unfold f_X8_isThrowing2 at k0
  refine go_aload_n (pc := 0) rfl dX8_isThrowing_0 ?_
  refine go_iload_n (pc := 1) rfl dX8_isThrowing_1 ?_
  refine go_invV (pc := 2) (sl := 0) (s_X8_kindAt2_f l (d + 0) hv a2 (by rw [show (a2 : Int32).toInt = a2.toInt from (ti_rfl a2)]; omega) (by rw [show (a2 : Int32).toInt = a2.toInt from (ti_rfl a2)]; omega)) mL_X8_271 iM_X8_kindAt sM_X8_kindAt (hv.sh rfl) rfl rfl rfl (Nat.le_of_ble_eq_true rfl) (show d + 0 + 2 + 1 ≤ d + 3 by omega) (show 8 + (2 + 11) + 40 * (d + 0 + 2) ≤ 40 * (d + 3) by omega) (g_c0 hv.ln) (Nat.le_of_ble_eq_true rfl) dX8_isThrowing_2 ?_
  intro r h1 hq _
  obtain ⟨v4, rfl, v4l, v4u, rfl, f2, f3⟩ := hq
  replace f3 : PE _ _ := f3
  have k5 := bd_e k0 f3.symm
  refine go_iconst (pc := 5) (v := 1) (by decide) dX8_isThrowing_5 ?_
  refine gf_icmp_ne (pc := 6) (tgt := 38) (ti_rfl v4) (ti_c (v := 1) (a := 1) (by decide)) (by decide) dX8_isThrowing_6 (fun q6 => ?_) (fun q6 => ?_)
  ·
    have k7 := if_t k5 q6
    refine go_iconst (pc := 38) (v := 0) (by decide) dX8_isThrowing_38 ?_
    exact gi_zret (pc := 39) (ti_c (v := 0) (a := 0) (by decide)) (by omega) (by omega) ⟨_, rfl, (by rw [show (0 : Int32).toInt = 0 from (ti_c (v := 0) (a := 0) (by decide))]; omega), (by rw [show (0 : Int32).toInt = 0 from (ti_c (v := 0) (a := 0) (by decide))]; omega), rfl, (by rw [show (0 : Int32).toInt = 0 from (ti_c (v := 0) (a := 0) (by decide))]; exact k7.symm.trans kf)⟩ hv dX8_isThrowing_39
  ·
    have k8 := if_f k5 (fun z => z q6)
    refine go_aload_n (pc := 9) rfl dX8_isThrowing_9 ?_
    refine gi_getF (pc := 10) (q := 102) hv fL_X8_105 rfl (Nat.le_of_ble_eq_true rfl) rfl (hv.rf (by decide)) dX8_isThrowing_10 ?_
    refine go_iconst (pc := 13) (v := 5) (by decide) dX8_isThrowing_13 ?_
    refine go_aload_n (pc := 14) rfl dX8_isThrowing_14 ?_
    refine gi_get (pc := 15) (lo := 0) (hi := 1) hv fL_X8_187 rfl (Nat.le_of_ble_eq_true rfl) rfl rfl dX8_isThrowing_15 (fun v9 v9l v9u v9w => ?_)
    have k10 := bd_e k8 (congrArg Int32.toInt v9w.symm)
    refine gf_imul (pc := 18) (ti_c (v := 5) (a := 5) (by decide)) (ti_rfl v9) (by omega) (by omega) dX8_isThrowing_18 (fun v11 e12 => ?_)
    refine go_aload_n (pc := 19) rfl dX8_isThrowing_19 ?_
    refine gi_getF (pc := 20) (q := 84) hv fL_X8_50 rfl (Nat.le_of_ble_eq_true rfl) rfl (hv.rf (by decide)) dX8_isThrowing_20 ?_
    refine go_aload_n (pc := 23) rfl dX8_isThrowing_23 ?_
    refine go_iload_n (pc := 24) rfl dX8_isThrowing_24 ?_
    refine go_invV (pc := 25) (sl := 0) (s_X8_item2_f l (d + 1) hv a2 (by rw [show (a2 : Int32).toInt = a2.toInt from (ti_rfl a2)]; omega) (by rw [show (a2 : Int32).toInt = a2.toInt from (ti_rfl a2)]; omega)) mL_X8_268 iM_X8_item sM_X8_item (hv.sh rfl) rfl rfl rfl (Nat.le_of_ble_eq_true rfl) (show d + 1 + 1 + 1 ≤ d + 3 by omega) (show 8 + (2 + 11) + 40 * (d + 1 + 1) ≤ 40 * (d + 3) by omega) (g_c0 hv.ln) (Nat.le_of_ble_eq_true rfl) dX8_isThrowing_25 ?_
    intro r h13 hq _
    obtain ⟨v16, rfl, v16l, v16u, rfl, f14, f15⟩ := hq
    replace f15 : PE _ _ := f15
    have k17 := bd_e k10 f15.symm
    refine gi_iald (pc := 28) (lo := -2) (hi := 4) (len := 260) hv (ti_rfl v16) rfl (by omega) (by omega) (fun _ => rfl) dX8_isThrowing_28 (fun v18 v18l v18u v18w => ?_)
    have k19 := bd_e k17 (congrArg Int32.toInt v18w.symm)
    have k20 : 0 ≤ v18.toInt := by
      rw [v18w]
      refine hv.mc ck ?_
      rw [f14]
      have e := f2
      unfold g_kd at e
      omega
    refine gf_iadd (pc := 29) e12 (ti_rfl v18) (by omega) (by omega) dX8_isThrowing_29 (fun v21 e22 => ?_)
    refine gi_zald (pc := 30) (lo := 0) (hi := 1) (len := 10) hv e22 rfl (by omega) (by omega) (fun _ => rfl) dX8_isThrowing_30 (fun v23 v23l v23u v23w => ?_)
    have k24 := bd_e k19 (congrArg Int32.toInt v23w.symm)
    refine gf_if_eq (pc := 31) (tgt := 38) (ti_rfl v23) (by decide) dX8_isThrowing_31 (fun q25 => ?_) (fun q25 => ?_)
    ·
      have k26 := if_t k24 q25
      refine go_iconst (pc := 38) (v := 0) (by decide) dX8_isThrowing_38 ?_
      exact gi_zret (pc := 39) (ti_c (v := 0) (a := 0) (by decide)) (by omega) (by omega) ⟨_, rfl, (by rw [show (0 : Int32).toInt = 0 from (ti_c (v := 0) (a := 0) (by decide))]; omega), (by rw [show (0 : Int32).toInt = 0 from (ti_c (v := 0) (a := 0) (by decide))]; omega), rfl, (by rw [show (0 : Int32).toInt = 0 from (ti_c (v := 0) (a := 0) (by decide))]; exact k26.symm.trans kf)⟩ hv dX8_isThrowing_39
    ·
      have k27 := if_f k24 q25
      refine go_iconst (pc := 34) (v := 1) (by decide) dX8_isThrowing_34 ?_
      refine go_goto (pc := 35) (tgt := 39) (by decide) dX8_isThrowing_35 ?_
      exact gi_zret (pc := 39) (ti_c (v := 1) (a := 1) (by decide)) (by omega) (by omega) ⟨_, rfl, (by rw [show (1 : Int32).toInt = 1 from (ti_c (v := 1) (a := 1) (by decide))]; omega), (by rw [show (1 : Int32).toInt = 1 from (ti_c (v := 1) (a := 1) (by decide))]; omega), rfl, (by rw [show (1 : Int32).toInt = 1 from (ti_c (v := 1) (a := 1) (by decide))]; exact k27.symm.trans kf)⟩ hv dX8_isThrowing_39
def f_X8_isReturning_x2 (s : ST) (a2 : Int) : Int :=
  bd (f_X8_kindAt2 s a2) fun v4 => if ¬ v4 = 1 then (0) else (bd (s.1 70 6) fun v9 => bd (f_X8_item2 s a2) fun v16 => bd (s.1 84 (v16).toNat) fun v18 => bd (s.1 101 (((5 * v9) + v18)).toNat) fun v22 => if v22 = 0 then (0) else (1))
set_option maxHeartbeats 4000000 in
set_option maxRecDepth 100000 in
theorem s_X8_isReturning_x2_f (l : Launch) (d : Nat) {P : PP} {h : HP} (hv : Iv P h) (a2 : Int32) (a2l : 0 ≤ a2.toInt) (a2u : a2.toInt ≤ 39) (ckf : CKF h.2.1) : Mt l yX8_isReturning cX8_isReturning 2 (some .boolean) (d + 3) [.ref 70, .int a2] h 0 0 (fun r h' => ∃ v : Int32, r = some (.int v) ∧ 0 ≤ v.toInt ∧ v.toInt ≤ 1 ∧ h = h' ∧ ((v.toInt = 1 → V h.2.1 77 (V h.2.1 93 (40 * (h.2.1 70 6).toInt + a2.toInt)) = 1 ∧ V h.2.1 101 (5 * (h.2.1 70 6).toInt + V h.2.1 84 (V h.2.1 93 (40 * (h.2.1 70 6).toInt + a2.toInt))) = 1) ∧ (v.toInt = 0 → ¬ (V h.2.1 77 (V h.2.1 93 (40 * (h.2.1 70 6).toInt + a2.toInt)) = 1 ∧ V h.2.1 101 (5 * (h.2.1 70 6).toInt + V h.2.1 84 (V h.2.1 93 (40 * (h.2.1 70 6).toInt + a2.toInt))) = 1))) ∧ (v.toInt = f_X8_isReturning_x2 (st h) a2.toInt)) := by
  refine Mt_iv hv (by decide) (Nat.le_of_ble_eq_true rfl) ?_
  show Go l RX8 cX8_isReturning 2 (g_rm (d + 3) 0 0) "isReturning" (some .boolean) 117 0 0 (fun _ _ => True) (fun r h' => ∃ v : Int32, r = some (.int v) ∧ 0 ≤ v.toInt ∧ v.toInt ≤ 1 ∧ h = h' ∧ ((v.toInt = 1 → V h.2.1 77 (V h.2.1 93 (40 * (h.2.1 70 6).toInt + a2.toInt)) = 1 ∧ V h.2.1 101 (5 * (h.2.1 70 6).toInt + V h.2.1 84 (V h.2.1 93 (40 * (h.2.1 70 6).toInt + a2.toInt))) = 1) ∧ (v.toInt = 0 → ¬ (V h.2.1 77 (V h.2.1 93 (40 * (h.2.1 70 6).toInt + a2.toInt)) = 1 ∧ V h.2.1 101 (5 * (h.2.1 70 6).toInt + V h.2.1 84 (V h.2.1 93 (40 * (h.2.1 70 6).toInt + a2.toInt))) = 1))) ∧ (v.toInt = f_X8_isReturning_x2 (st h) a2.toInt)) 0 0 [(0, .ref 70), (1, .int a2)] [] h
  obtain ⟨S, hS⟩ : ∃ S : Int, S = (h.2.1 70 6).toInt := ⟨_, rfl⟩
  have S0 : 0 ≤ S := by rw [hS]; exact (hv.2.1 70 6).1
  have S1 : S ≤ 1 := by rw [hS]; exact (hv.2.1 70 6).2
  obtain ⟨fin, kf⟩ : ∃ z, z = f_X8_isReturning_x2 (st h) a2.toInt := ⟨_, _root_.rfl⟩
  have k0 := kf
  unfold f_X8_isReturning_x2 at k0
  refine go_aload_n (pc := 0) rfl dX8_isReturning_0 ?_
  refine go_iload_n (pc := 1) rfl dX8_isReturning_1 ?_
  refine go_invV (pc := 2) (sl := 0) (s_X8_kindAt2_f l (d + 0) hv a2 (by rw [show (a2 : Int32).toInt = a2.toInt from (ti_rfl a2)]; omega) (by rw [show (a2 : Int32).toInt = a2.toInt from (ti_rfl a2)]; omega)) mL_X8_271 iM_X8_kindAt sM_X8_kindAt (hv.sh rfl) rfl rfl rfl (Nat.le_of_ble_eq_true rfl) (show d + 0 + 2 + 1 ≤ d + 3 by omega) (show 8 + (2 + 11) + 40 * (d + 0 + 2) ≤ 40 * (d + 3) by omega) (g_c0 hv.ln) (Nat.le_of_ble_eq_true rfl) dX8_isReturning_2 ?_
  intro r h1 hq _
  obtain ⟨v4, rfl, v4l, v4u, rfl, f2, f3⟩ := hq
  have v4K : v4.toInt = V h.2.1 77 (V h.2.1 93 (40 * S + a2.toInt)) := by rw [f2]; unfold g_kd g_it; rw [← hS]; rfl
  replace f3 : PE _ _ := f3
  have k5 := bd_e k0 f3.symm
  refine go_iconst (pc := 5) (v := 1) (by decide) dX8_isReturning_5 ?_
  refine gf_icmp_ne (pc := 6) (tgt := 38) (ti_rfl v4) (ti_c (v := 1) (a := 1) (by decide)) (by decide) dX8_isReturning_6 (fun q6 => ?_) (fun q6 => ?_)
  ·
    have k7 := if_t k5 q6
    refine go_iconst (pc := 38) (v := 0) (by decide) dX8_isReturning_38 ?_
    exact gi_zret (pc := 39) (ti_c (v := 0) (a := 0) (by decide)) (by omega) (by omega) ⟨_, rfl, (by rw [show (0 : Int32).toInt = 0 from (ti_c (v := 0) (a := 0) (by decide))]; omega), (by rw [show (0 : Int32).toInt = 0 from (ti_c (v := 0) (a := 0) (by decide))]; omega), rfl, (by rw [← hS]; exact ⟨fun q => absurd q (by decide), fun _ q => by omega⟩), (by rw [show (0 : Int32).toInt = 0 from (ti_c (v := 0) (a := 0) (by decide))]; exact k7.symm.trans kf)⟩ hv dX8_isReturning_39
  ·
    have k8 := if_f k5 (fun z => z q6)
    refine go_aload_n (pc := 9) rfl dX8_isReturning_9 ?_
    refine gi_getF (pc := 10) (q := 101) hv fL_X8_101 rfl (Nat.le_of_ble_eq_true rfl) rfl (hv.rf (by decide)) dX8_isReturning_10 ?_
    refine go_iconst (pc := 13) (v := 5) (by decide) dX8_isReturning_13 ?_
    refine go_aload_n (pc := 14) rfl dX8_isReturning_14 ?_
    refine gi_get (pc := 15) (lo := 0) (hi := 1) hv fL_X8_187 rfl (Nat.le_of_ble_eq_true rfl) rfl rfl dX8_isReturning_15 (fun v9 v9l v9u v9w => ?_)
    have k10 := bd_e k8 (congrArg Int32.toInt v9w.symm)
    have v9S : v9.toInt = S := by rw [v9w, hv.fy (j := 6) (by omega), ← hv.fy (j := 6) (by omega)]; exact hS.symm
    refine gf_imul (pc := 18) (ti_c (v := 5) (a := 5) (by decide)) (ti_rfl v9) (by omega) (by omega) dX8_isReturning_18 (fun v11 e12 => ?_)
    refine go_aload_n (pc := 19) rfl dX8_isReturning_19 ?_
    refine gi_getF (pc := 20) (q := 84) hv fL_X8_50 rfl (Nat.le_of_ble_eq_true rfl) rfl (hv.rf (by decide)) dX8_isReturning_20 ?_
    refine go_aload_n (pc := 23) rfl dX8_isReturning_23 ?_
    refine go_iload_n (pc := 24) rfl dX8_isReturning_24 ?_
    refine go_invV (pc := 25) (sl := 0) (s_X8_item2_f l (d + 1) hv a2 (by rw [show (a2 : Int32).toInt = a2.toInt from (ti_rfl a2)]; omega) (by rw [show (a2 : Int32).toInt = a2.toInt from (ti_rfl a2)]; omega)) mL_X8_268 iM_X8_item sM_X8_item (hv.sh rfl) rfl rfl rfl (Nat.le_of_ble_eq_true rfl) (show d + 1 + 1 + 1 ≤ d + 3 by omega) (show 8 + (2 + 11) + 40 * (d + 1 + 1) ≤ 40 * (d + 3) by omega) (g_c0 hv.ln) (Nat.le_of_ble_eq_true rfl) dX8_isReturning_25 ?_
    intro r h13 hq _
    obtain ⟨v16, rfl, v16l, v16u, rfl, f14, f15⟩ := hq
    have v16K : v16.toInt = V h.2.1 93 (40 * S + a2.toInt) := by rw [f14]; unfold g_it; rw [← hS]; rfl
    replace f15 : PE _ _ := f15
    have k17 := bd_e k10 f15.symm
    refine gi_iald (pc := 28) (lo := -2) (hi := 4) (len := 260) hv (ti_rfl v16) rfl (by omega) (by omega) (fun _ => rfl) dX8_isReturning_28 (fun v18 v18l v18u v18w => ?_)
    have k19 := bd_e k17 (congrArg Int32.toInt v18w.symm)
    have v18V : v18.toInt = V h.2.1 84 v16.toInt := by rw [v18w]; rfl
    have kk : 0 ≤ v18.toInt := by
      rw [v18w]
      refine ckf _ ?_
      have e : v4.toInt = V h.2.1 77 (V h.2.1 93 (40 * S + a2.toInt)) := v4K
      rw [← v16K] at e
      exact (show V h.2.1 77 v16.toInt = 1 by omega)
    refine gf_iadd (pc := 29) e12 (ti_rfl v18) (by omega) (by omega) dX8_isReturning_29 (fun v20 e21 => ?_)
    refine gi_zald (pc := 30) (lo := 0) (hi := 1) (len := 10) hv e21 rfl (by omega) (by omega) (fun _ => rfl) dX8_isReturning_30 (fun v22 v22l v22u v22w => ?_)
    have k23 := bd_e k19 (congrArg Int32.toInt v22w.symm)
    have v22V : v22.toInt = V h.2.1 101 (((5 * S) + v18.toInt)) := by rw [v22w, v9S]; rfl
    refine gf_if_eq (pc := 31) (tgt := 38) (ti_rfl v22) (by decide) dX8_isReturning_31 (fun q24 => ?_) (fun q24 => ?_)
    ·
      have k25 := if_t k23 q24
      refine go_iconst (pc := 38) (v := 0) (by decide) dX8_isReturning_38 ?_
      exact gi_zret (pc := 39) (ti_c (v := 0) (a := 0) (by decide)) (by omega) (by omega) ⟨_, rfl, (by rw [show (0 : Int32).toInt = 0 from (ti_c (v := 0) (a := 0) (by decide))]; omega), (by rw [show (0 : Int32).toInt = 0 from (ti_c (v := 0) (a := 0) (by decide))]; omega), rfl, (by rw [← hS]; have kq := v4K; rw [← v16K] at kq ⊢; rw [← v18V]; exact ⟨fun q => absurd q (by decide), fun _ q => by omega⟩), (by rw [show (0 : Int32).toInt = 0 from (ti_c (v := 0) (a := 0) (by decide))]; exact k25.symm.trans kf)⟩ hv dX8_isReturning_39
    ·
      have k26 := if_f k23 q24
      refine go_iconst (pc := 34) (v := 1) (by decide) dX8_isReturning_34 ?_
      refine go_goto (pc := 35) (tgt := 39) (by decide) dX8_isReturning_35 ?_
      exact gi_zret (pc := 39) (ti_c (v := 1) (a := 1) (by decide)) (by omega) (by omega) ⟨_, rfl, (by rw [show (1 : Int32).toInt = 1 from (ti_c (v := 1) (a := 1) (by decide))]; omega), (by rw [show (1 : Int32).toInt = 1 from (ti_c (v := 1) (a := 1) (by decide))]; omega), rfl, (by rw [← hS]; have kq := v4K; rw [← v16K] at kq ⊢; rw [← v18V]; exact ⟨fun _ => by omega, fun q => absurd q (by decide)⟩), (by rw [show (1 : Int32).toInt = 1 from (ti_c (v := 1) (a := 1) (by decide))]; exact k26.symm.trans kf)⟩ hv dX8_isReturning_39
def f_X8_isThrowing_x2 (s : ST) (a2 : Int) : Int :=
  bd (f_X8_kindAt2 s a2) fun v4 => if ¬ v4 = 1 then (0) else (bd (s.1 70 6) fun v9 => bd (f_X8_item2 s a2) fun v16 => bd (s.1 84 (v16).toNat) fun v18 => bd (s.1 102 (((5 * v9) + v18)).toNat) fun v22 => if v22 = 0 then (0) else (1))
set_option maxHeartbeats 4000000 in
set_option maxRecDepth 100000 in
theorem s_X8_isThrowing_x2_f (l : Launch) (d : Nat) {P : PP} {h : HP} (hv : Iv P h) (a2 : Int32) (a2l : 0 ≤ a2.toInt) (a2u : a2.toInt ≤ 39) (ckf : CKF h.2.1) : Mt l yX8_isThrowing cX8_isThrowing 2 (some .boolean) (d + 3) [.ref 70, .int a2] h 0 0 (fun r h' => ∃ v : Int32, r = some (.int v) ∧ 0 ≤ v.toInt ∧ v.toInt ≤ 1 ∧ h = h' ∧ ((v.toInt = 1 → V h.2.1 77 (V h.2.1 93 (40 * (h.2.1 70 6).toInt + a2.toInt)) = 1 ∧ V h.2.1 102 (5 * (h.2.1 70 6).toInt + V h.2.1 84 (V h.2.1 93 (40 * (h.2.1 70 6).toInt + a2.toInt))) = 1) ∧ (v.toInt = 0 → ¬ (V h.2.1 77 (V h.2.1 93 (40 * (h.2.1 70 6).toInt + a2.toInt)) = 1 ∧ V h.2.1 102 (5 * (h.2.1 70 6).toInt + V h.2.1 84 (V h.2.1 93 (40 * (h.2.1 70 6).toInt + a2.toInt))) = 1))) ∧ (v.toInt = f_X8_isThrowing_x2 (st h) a2.toInt)) := by
  refine Mt_iv hv (by decide) (Nat.le_of_ble_eq_true rfl) ?_
  show Go l RX8 cX8_isThrowing 2 (g_rm (d + 3) 0 0) "isThrowing" (some .boolean) 117 0 0 (fun _ _ => True) (fun r h' => ∃ v : Int32, r = some (.int v) ∧ 0 ≤ v.toInt ∧ v.toInt ≤ 1 ∧ h = h' ∧ ((v.toInt = 1 → V h.2.1 77 (V h.2.1 93 (40 * (h.2.1 70 6).toInt + a2.toInt)) = 1 ∧ V h.2.1 102 (5 * (h.2.1 70 6).toInt + V h.2.1 84 (V h.2.1 93 (40 * (h.2.1 70 6).toInt + a2.toInt))) = 1) ∧ (v.toInt = 0 → ¬ (V h.2.1 77 (V h.2.1 93 (40 * (h.2.1 70 6).toInt + a2.toInt)) = 1 ∧ V h.2.1 102 (5 * (h.2.1 70 6).toInt + V h.2.1 84 (V h.2.1 93 (40 * (h.2.1 70 6).toInt + a2.toInt))) = 1))) ∧ (v.toInt = f_X8_isThrowing_x2 (st h) a2.toInt)) 0 0 [(0, .ref 70), (1, .int a2)] [] h
  obtain ⟨S, hS⟩ : ∃ S : Int, S = (h.2.1 70 6).toInt := ⟨_, rfl⟩
  have S0 : 0 ≤ S := by rw [hS]; exact (hv.2.1 70 6).1
  have S1 : S ≤ 1 := by rw [hS]; exact (hv.2.1 70 6).2
  obtain ⟨fin, kf⟩ : ∃ z, z = f_X8_isThrowing_x2 (st h) a2.toInt := ⟨_, _root_.rfl⟩
  have k0 := kf
  unfold f_X8_isThrowing_x2 at k0
  refine go_aload_n (pc := 0) rfl dX8_isThrowing_0 ?_
  refine go_iload_n (pc := 1) rfl dX8_isThrowing_1 ?_
  refine go_invV (pc := 2) (sl := 0) (s_X8_kindAt2_f l (d + 0) hv a2 (by rw [show (a2 : Int32).toInt = a2.toInt from (ti_rfl a2)]; omega) (by rw [show (a2 : Int32).toInt = a2.toInt from (ti_rfl a2)]; omega)) mL_X8_271 iM_X8_kindAt sM_X8_kindAt (hv.sh rfl) rfl rfl rfl (Nat.le_of_ble_eq_true rfl) (show d + 0 + 2 + 1 ≤ d + 3 by omega) (show 8 + (2 + 11) + 40 * (d + 0 + 2) ≤ 40 * (d + 3) by omega) (g_c0 hv.ln) (Nat.le_of_ble_eq_true rfl) dX8_isThrowing_2 ?_
  intro r h1 hq _
  obtain ⟨v4, rfl, v4l, v4u, rfl, f2, f3⟩ := hq
  have v4K : v4.toInt = V h.2.1 77 (V h.2.1 93 (40 * S + a2.toInt)) := by rw [f2]; unfold g_kd g_it; rw [← hS]; rfl
  replace f3 : PE _ _ := f3
  have k5 := bd_e k0 f3.symm
  refine go_iconst (pc := 5) (v := 1) (by decide) dX8_isThrowing_5 ?_
  refine gf_icmp_ne (pc := 6) (tgt := 38) (ti_rfl v4) (ti_c (v := 1) (a := 1) (by decide)) (by decide) dX8_isThrowing_6 (fun q6 => ?_) (fun q6 => ?_)
  ·
    have k7 := if_t k5 q6
    refine go_iconst (pc := 38) (v := 0) (by decide) dX8_isThrowing_38 ?_
    exact gi_zret (pc := 39) (ti_c (v := 0) (a := 0) (by decide)) (by omega) (by omega) ⟨_, rfl, (by rw [show (0 : Int32).toInt = 0 from (ti_c (v := 0) (a := 0) (by decide))]; omega), (by rw [show (0 : Int32).toInt = 0 from (ti_c (v := 0) (a := 0) (by decide))]; omega), rfl, (by rw [← hS]; exact ⟨fun q => absurd q (by decide), fun _ q => by omega⟩), (by rw [show (0 : Int32).toInt = 0 from (ti_c (v := 0) (a := 0) (by decide))]; exact k7.symm.trans kf)⟩ hv dX8_isThrowing_39
  ·
    have k8 := if_f k5 (fun z => z q6)
    refine go_aload_n (pc := 9) rfl dX8_isThrowing_9 ?_
    refine gi_getF (pc := 10) (q := 102) hv fL_X8_105 rfl (Nat.le_of_ble_eq_true rfl) rfl (hv.rf (by decide)) dX8_isThrowing_10 ?_
    refine go_iconst (pc := 13) (v := 5) (by decide) dX8_isThrowing_13 ?_
    refine go_aload_n (pc := 14) rfl dX8_isThrowing_14 ?_
    refine gi_get (pc := 15) (lo := 0) (hi := 1) hv fL_X8_187 rfl (Nat.le_of_ble_eq_true rfl) rfl rfl dX8_isThrowing_15 (fun v9 v9l v9u v9w => ?_)
    have k10 := bd_e k8 (congrArg Int32.toInt v9w.symm)
    have v9S : v9.toInt = S := by rw [v9w, hv.fy (j := 6) (by omega), ← hv.fy (j := 6) (by omega)]; exact hS.symm
    refine gf_imul (pc := 18) (ti_c (v := 5) (a := 5) (by decide)) (ti_rfl v9) (by omega) (by omega) dX8_isThrowing_18 (fun v11 e12 => ?_)
    refine go_aload_n (pc := 19) rfl dX8_isThrowing_19 ?_
    refine gi_getF (pc := 20) (q := 84) hv fL_X8_50 rfl (Nat.le_of_ble_eq_true rfl) rfl (hv.rf (by decide)) dX8_isThrowing_20 ?_
    refine go_aload_n (pc := 23) rfl dX8_isThrowing_23 ?_
    refine go_iload_n (pc := 24) rfl dX8_isThrowing_24 ?_
    refine go_invV (pc := 25) (sl := 0) (s_X8_item2_f l (d + 1) hv a2 (by rw [show (a2 : Int32).toInt = a2.toInt from (ti_rfl a2)]; omega) (by rw [show (a2 : Int32).toInt = a2.toInt from (ti_rfl a2)]; omega)) mL_X8_268 iM_X8_item sM_X8_item (hv.sh rfl) rfl rfl rfl (Nat.le_of_ble_eq_true rfl) (show d + 1 + 1 + 1 ≤ d + 3 by omega) (show 8 + (2 + 11) + 40 * (d + 1 + 1) ≤ 40 * (d + 3) by omega) (g_c0 hv.ln) (Nat.le_of_ble_eq_true rfl) dX8_isThrowing_25 ?_
    intro r h13 hq _
    obtain ⟨v16, rfl, v16l, v16u, rfl, f14, f15⟩ := hq
    have v16K : v16.toInt = V h.2.1 93 (40 * S + a2.toInt) := by rw [f14]; unfold g_it; rw [← hS]; rfl
    replace f15 : PE _ _ := f15
    have k17 := bd_e k10 f15.symm
    refine gi_iald (pc := 28) (lo := -2) (hi := 4) (len := 260) hv (ti_rfl v16) rfl (by omega) (by omega) (fun _ => rfl) dX8_isThrowing_28 (fun v18 v18l v18u v18w => ?_)
    have k19 := bd_e k17 (congrArg Int32.toInt v18w.symm)
    have v18V : v18.toInt = V h.2.1 84 v16.toInt := by rw [v18w]; rfl
    have kk : 0 ≤ v18.toInt := by
      rw [v18w]
      refine ckf _ ?_
      have e : v4.toInt = V h.2.1 77 (V h.2.1 93 (40 * S + a2.toInt)) := v4K
      rw [← v16K] at e
      exact (show V h.2.1 77 v16.toInt = 1 by omega)
    refine gf_iadd (pc := 29) e12 (ti_rfl v18) (by omega) (by omega) dX8_isThrowing_29 (fun v20 e21 => ?_)
    refine gi_zald (pc := 30) (lo := 0) (hi := 1) (len := 10) hv e21 rfl (by omega) (by omega) (fun _ => rfl) dX8_isThrowing_30 (fun v22 v22l v22u v22w => ?_)
    have k23 := bd_e k19 (congrArg Int32.toInt v22w.symm)
    have v22V : v22.toInt = V h.2.1 102 (((5 * S) + v18.toInt)) := by rw [v22w, v9S]; rfl
    refine gf_if_eq (pc := 31) (tgt := 38) (ti_rfl v22) (by decide) dX8_isThrowing_31 (fun q24 => ?_) (fun q24 => ?_)
    ·
      have k25 := if_t k23 q24
      refine go_iconst (pc := 38) (v := 0) (by decide) dX8_isThrowing_38 ?_
      exact gi_zret (pc := 39) (ti_c (v := 0) (a := 0) (by decide)) (by omega) (by omega) ⟨_, rfl, (by rw [show (0 : Int32).toInt = 0 from (ti_c (v := 0) (a := 0) (by decide))]; omega), (by rw [show (0 : Int32).toInt = 0 from (ti_c (v := 0) (a := 0) (by decide))]; omega), rfl, (by rw [← hS]; have kq := v4K; rw [← v16K] at kq ⊢; rw [← v18V]; exact ⟨fun q => absurd q (by decide), fun _ q => by omega⟩), (by rw [show (0 : Int32).toInt = 0 from (ti_c (v := 0) (a := 0) (by decide))]; exact k25.symm.trans kf)⟩ hv dX8_isThrowing_39
    ·
      have k26 := if_f k23 q24
      refine go_iconst (pc := 34) (v := 1) (by decide) dX8_isThrowing_34 ?_
      refine go_goto (pc := 35) (tgt := 39) (by decide) dX8_isThrowing_35 ?_
      exact gi_zret (pc := 39) (ti_c (v := 1) (a := 1) (by decide)) (by omega) (by omega) ⟨_, rfl, (by rw [show (1 : Int32).toInt = 1 from (ti_c (v := 1) (a := 1) (by decide))]; omega), (by rw [show (1 : Int32).toInt = 1 from (ti_c (v := 1) (a := 1) (by decide))]; omega), rfl, (by rw [← hS]; have kq := v4K; rw [← v16K] at kq ⊢; rw [← v18V]; exact ⟨fun _ => by omega, fun q => absurd q (by decide)⟩), (by rw [show (1 : Int32).toInt = 1 from (ti_c (v := 1) (a := 1) (by decide))]; exact k26.symm.trans kf)⟩ hv dX8_isThrowing_39
def f_X8_way_x2 (s : ST) (a2 : Int) (a3 : Int) : Int :=
  bd (s.1 70 6) fun v1 => bd (f_X8_kindAt2 s a2) fun v10 => if v10 = 0 then (if ¬ a3 = 0 then ((-2)) else (bd (s.1 95 (((40 * v1) + a2)).toNat) fun v17 => v17)) else if v10 = 1 then (if ¬ a3 = 0 then (bd (f_X8_isThrowing_x2 s a2) fun v28 => if v28 = 0 then ((-2)) else (bd (s.1 98 (((40 * v1) + a2)).toNat) fun v33 => v33)) else (bd (f_X8_isReturning_x2 s a2) fun v40 => if v40 = 0 then ((-2)) else (bd (s.1 95 (((40 * v1) + a2)).toNat) fun v45 => v45))) else if v10 = 2 then (if ¬ a3 = 0 then (bd (s.1 97 (((40 * v1) + a2)).toNat) fun v52 => v52) else (bd (s.1 96 (((40 * v1) + a2)).toNat) fun v55 => v55)) else if v10 = 3 then (if ¬ a3 = 0 then (bd (s.1 95 (((40 * v1) + a2)).toNat) fun v62 => v62) else (bd (s.1 96 (((40 * v1) + a2)).toNat) fun v65 => v65)) else if v10 = 4 then (if ¬ a3 = 0 then (bd (s.1 98 (((40 * v1) + a2)).toNat) fun v72 => v72) else ((-2))) else if ¬ a3 = 0 then ((-2)) else ((-1))
set_option maxHeartbeats 4000000 in
set_option maxRecDepth 100000 in
theorem s_X8_way_x2_f (l : Launch) (d : Nat) {P : PP} {h : HP} (hv : Iv P h) (a2 : Int32) (a2l : 0 ≤ a2.toInt) (a2u : a2.toInt ≤ 39) (a3 : Int32) (a3l : 0 ≤ a3.toInt) (a3u : a3.toInt ≤ 1) (ckf : CKF h.2.1) : Mt l yX8_way cX8_way 4 (some .int) (d + 4) [.ref 70, .int a2, .int a3] h 0 0 (fun r h' => ∃ v : Int32, r = some (.int v) ∧ -2 ≤ v.toInt ∧ v.toInt ≤ 39 ∧ h = h' ∧ (v.toInt = wy h.2.1 (h.2.1 70 6).toInt a2.toInt a3.toInt) ∧ (v.toInt = f_X8_way_x2 (st h) a2.toInt a3.toInt)) := by
  refine Mt_iv hv (by decide) (Nat.le_of_ble_eq_true rfl) ?_
  show Go l RX8 cX8_way 4 (g_rm (d + 4) 0 0) "way" (some .int) 117 0 0 (fun _ _ => True) (fun r h' => ∃ v : Int32, r = some (.int v) ∧ -2 ≤ v.toInt ∧ v.toInt ≤ 39 ∧ h = h' ∧ (v.toInt = wy h.2.1 (h.2.1 70 6).toInt a2.toInt a3.toInt) ∧ (v.toInt = f_X8_way_x2 (st h) a2.toInt a3.toInt)) 0 0 [(0, .ref 70), (1, .int a2), (2, .int a3)] [] h
  obtain ⟨S, hS⟩ : ∃ S : Int, S = (h.2.1 70 6).toInt := ⟨_, rfl⟩
  have S0 : 0 ≤ S := by rw [hS]; exact (hv.2.1 70 6).1
  have S1 : S ≤ 1 := by rw [hS]; exact (hv.2.1 70 6).2
  obtain ⟨fin, kf⟩ : ∃ z, z = f_X8_way_x2 (st h) a2.toInt a3.toInt := ⟨_, _root_.rfl⟩
  have k0 := kf
  unfold f_X8_way_x2 at k0
  refine go_bipush (pc := 0) (v := 40) (by decide) dX8_way_0 ?_
  refine go_aload_n (pc := 2) rfl dX8_way_2 ?_
  refine gi_get (pc := 3) (lo := 0) (hi := 1) hv fL_X8_187 rfl (Nat.le_of_ble_eq_true rfl) rfl rfl dX8_way_3 (fun v1 v1l v1u v1w => ?_)
  have k2 := bd_e k0 (congrArg Int32.toInt v1w.symm)
  have v1S : v1.toInt = S := by rw [v1w, hv.fy (j := 6) (by omega), ← hv.fy (j := 6) (by omega)]; exact hS.symm
  refine gf_imul (pc := 6) (ti_c (v := 40) (a := 40) (by decide)) (ti_rfl v1) (by omega) (by omega) dX8_way_6 (fun v3 e4 => ?_)
  refine go_iload_n (pc := 7) rfl dX8_way_7 ?_
  refine gf_iadd (pc := 8) e4 (ti_rfl a2) (by omega) (by omega) dX8_way_8 (fun v5 e6 => ?_)
  refine go_istore_n (pc := 9) (Nat.le_of_ble_eq_true rfl) dX8_way_9 (go_lv (lv2 := [(0, .ref 70), (1, .int a2), (2, .int a3), (3, .int v5)]) rfl ?_)
  refine go_aload_n (pc := 10) rfl dX8_way_10 ?_
  refine go_iload_n (pc := 11) rfl dX8_way_11 ?_
  refine go_invV (pc := 12) (sl := 0) (s_X8_kindAt2_f l (d + 1) hv a2 (by rw [show (a2 : Int32).toInt = a2.toInt from (ti_rfl a2)]; omega) (by rw [show (a2 : Int32).toInt = a2.toInt from (ti_rfl a2)]; omega)) mL_X8_271 iM_X8_kindAt sM_X8_kindAt (hv.sh rfl) rfl rfl rfl (Nat.le_of_ble_eq_true rfl) (show d + 1 + 2 + 1 ≤ d + 4 by omega) (show 8 + (2 + 11) + 40 * (d + 1 + 2) ≤ 40 * (d + 4) by omega) (g_c0 hv.ln) (Nat.le_of_ble_eq_true rfl) dX8_way_12 ?_
  intro r h7 hq _
  obtain ⟨v10, rfl, v10l, v10u, rfl, f8, f9⟩ := hq
  have v10K : v10.toInt = V h.2.1 77 (V h.2.1 93 (40 * S + a2.toInt)) := by rw [f8]; unfold g_kd g_it; rw [← hS]; rfl
  replace f9 : PE _ _ := f9
  have k11 := bd_e k2 f9.symm
  by_cases q12 : v10.toInt = 0
  ·
    refine go_tableIn (pc := 15) (tgt := 48) (off := 33) (by rw [show (v10 : Int32).toInt = v10.toInt from (ti_rfl v10)]; omega) (by rw [show (v10 : Int32).toInt = v10.toInt from (ti_rfl v10)]; omega) (by rw [show (v10 : Int32).toInt = v10.toInt from (ti_rfl v10), q12]; rfl) (by decide) dX8_way_15 ?_
    have k13 := if_t k11 q12
    refine go_iload_n (pc := 48) rfl dX8_way_48 ?_
    refine gf_if_ne (pc := 49) (tgt := 61) (ti_rfl a3) (by decide) dX8_way_49 (fun q14 => ?_) (fun q14 => ?_)
    ·
      have k15 := if_t k13 q14
      refine go_bipush (pc := 61) (v := (-2)) (by decide) dX8_way_61 ?_
      exact gi_iret (pc := 63) (ti_c (v := (-2)) (a := (-2)) (by decide)) ⟨_, rfl, (by rw [show ((-2) : Int32).toInt = (-2) from (ti_c (v := (-2)) (a := (-2)) (by decide))]; omega), (by rw [show ((-2) : Int32).toInt = (-2) from (ti_c (v := (-2)) (a := (-2)) (by decide))]; omega), rfl, (by rw [← hS, show ((-2) : Int32).toInt = (-2) from (ti_c (v := (-2)) (a := (-2)) (by decide))]; unfold wy; (repeat' split) <;> omega), (by rw [show ((-2) : Int32).toInt = (-2) from (ti_c (v := (-2)) (a := (-2)) (by decide))]; exact k15.symm.trans kf)⟩ hv dX8_way_63
    ·
      have k16 := if_f k13 (fun z => z q14)
      refine go_aload_n (pc := 52) rfl dX8_way_52 ?_
      refine gi_getF (pc := 53) (q := 95) hv fL_X8_83 rfl (Nat.le_of_ble_eq_true rfl) rfl (hv.rf (by decide)) dX8_way_53 ?_
      refine go_iload_n (pc := 56) rfl dX8_way_56 ?_
      refine gi_iald (pc := 57) (lo := -1) (hi := 39) (len := 80) hv e6 rfl (by omega) (by omega) (fun _ => rfl) dX8_way_57 (fun v17 v17l v17u v17w => ?_)
      have k18 := bd_e k16 (congrArg Int32.toInt v17w.symm)
      have v17V : v17.toInt = V h.2.1 95 (((40 * S) + a2.toInt)) := by rw [v17w, v1S]; rfl
      refine go_goto (pc := 58) (tgt := 63) (by decide) dX8_way_58 ?_
      exact gi_iret (pc := 63) (ti_rfl v17) ⟨_, rfl, (by rw [show (v17 : Int32).toInt = v17.toInt from (ti_rfl v17)]; omega), (by rw [show (v17 : Int32).toInt = v17.toInt from (ti_rfl v17)]; omega), rfl, (by rw [← hS, show (v17 : Int32).toInt = v17.toInt from (ti_rfl v17)]; unfold wy; (repeat' split) <;> omega), (k18.symm.trans kf)⟩ hv dX8_way_63
  have k19 := if_f k11 q12
  by_cases q20 : v10.toInt = 1
  ·
    refine go_tableIn (pc := 15) (tgt := 64) (off := 49) (by rw [show (v10 : Int32).toInt = v10.toInt from (ti_rfl v10)]; omega) (by rw [show (v10 : Int32).toInt = v10.toInt from (ti_rfl v10)]; omega) (by rw [show (v10 : Int32).toInt = v10.toInt from (ti_rfl v10), q20]; rfl) (by decide) dX8_way_15 ?_
    have k21 := if_t k19 q20
    refine go_iload_n (pc := 64) rfl dX8_way_64 ?_
    refine gf_if_ne (pc := 65) (tgt := 90) (ti_rfl a3) (by decide) dX8_way_65 (fun q22 => ?_) (fun q22 => ?_)
    ·
      have k23 := if_t k21 q22
      refine go_aload_n (pc := 90) rfl dX8_way_90 ?_
      refine go_iload_n (pc := 91) rfl dX8_way_91 ?_
      have sM24 : (h.2.1 70 6).toInt = S := by rw [hv.fy (j := 6) (by omega), ← hv.fy (j := 6) (by omega)]; exact hS.symm
      refine go_invV (pc := 92) (sl := 0) (s_X8_isThrowing_x2_f l (d + 0) hv a2 (by rw [show (a2 : Int32).toInt = a2.toInt from (ti_rfl a2)]; omega) (by rw [show (a2 : Int32).toInt = a2.toInt from (ti_rfl a2)]; omega) ckf) mL_X8_277 iM_X8_isThrowing sM_X8_isThrowing (hv.sh rfl) rfl rfl rfl (Nat.le_of_ble_eq_true rfl) (show d + 0 + 3 + 1 ≤ d + 4 by omega) (show 8 + (2 + 11) + 40 * (d + 0 + 3) ≤ 40 * (d + 4) by omega) (g_c0 hv.ln) (Nat.le_of_ble_eq_true rfl) dX8_way_92 ?_
      intro r h25 hq _
      obtain ⟨v28, rfl, v28l, v28u, rfl, f26, f27⟩ := hq
      rw [sM24] at f26
      replace f27 : PE _ _ := f27
      have k29 := bd_e k23 f27.symm
      refine gf_if_eq (pc := 95) (tgt := 107) (ti_rfl v28) (by decide) dX8_way_95 (fun q30 => ?_) (fun q30 => ?_)
      ·
        have k31 := if_t k29 q30
        refine go_bipush (pc := 107) (v := (-2)) (by decide) dX8_way_107 ?_
        exact gi_iret (pc := 109) (ti_c (v := (-2)) (a := (-2)) (by decide)) ⟨_, rfl, (by rw [show ((-2) : Int32).toInt = (-2) from (ti_c (v := (-2)) (a := (-2)) (by decide))]; omega), (by rw [show ((-2) : Int32).toInt = (-2) from (ti_c (v := (-2)) (a := (-2)) (by decide))]; omega), rfl, (by rw [← hS, show ((-2) : Int32).toInt = (-2) from (ti_c (v := (-2)) (a := (-2)) (by decide))]; unfold wy; (repeat' split) <;> omega), (by rw [show ((-2) : Int32).toInt = (-2) from (ti_c (v := (-2)) (a := (-2)) (by decide))]; exact k31.symm.trans kf)⟩ hv dX8_way_109
      ·
        have k32 := if_f k29 q30
        refine go_aload_n (pc := 98) rfl dX8_way_98 ?_
        refine gi_getF (pc := 99) (q := 98) hv fL_X8_92 rfl (Nat.le_of_ble_eq_true rfl) rfl (hv.rf (by decide)) dX8_way_99 ?_
        refine go_iload_n (pc := 102) rfl dX8_way_102 ?_
        refine gi_iald (pc := 103) (lo := -1) (hi := 39) (len := 80) hv e6 rfl (by omega) (by omega) (fun _ => rfl) dX8_way_103 (fun v33 v33l v33u v33w => ?_)
        have k34 := bd_e k32 (congrArg Int32.toInt v33w.symm)
        have v33V : v33.toInt = V h.2.1 98 (((40 * S) + a2.toInt)) := by rw [v33w, v1S]; rfl
        refine go_goto (pc := 104) (tgt := 109) (by decide) dX8_way_104 ?_
        exact gi_iret (pc := 109) (ti_rfl v33) ⟨_, rfl, (by rw [show (v33 : Int32).toInt = v33.toInt from (ti_rfl v33)]; omega), (by rw [show (v33 : Int32).toInt = v33.toInt from (ti_rfl v33)]; omega), rfl, (by rw [← hS, show (v33 : Int32).toInt = v33.toInt from (ti_rfl v33)]; unfold wy; (repeat' split) <;> omega), (k34.symm.trans kf)⟩ hv dX8_way_109
    ·
      have k35 := if_f k21 (fun z => z q22)
      refine go_aload_n (pc := 68) rfl dX8_way_68 ?_
      refine go_iload_n (pc := 69) rfl dX8_way_69 ?_
      have sM36 : (h.2.1 70 6).toInt = S := by rw [hv.fy (j := 6) (by omega), ← hv.fy (j := 6) (by omega)]; exact hS.symm
      refine go_invV (pc := 70) (sl := 0) (s_X8_isReturning_x2_f l (d + 0) hv a2 (by rw [show (a2 : Int32).toInt = a2.toInt from (ti_rfl a2)]; omega) (by rw [show (a2 : Int32).toInt = a2.toInt from (ti_rfl a2)]; omega) ckf) mL_X8_274 iM_X8_isReturning sM_X8_isReturning (hv.sh rfl) rfl rfl rfl (Nat.le_of_ble_eq_true rfl) (show d + 0 + 3 + 1 ≤ d + 4 by omega) (show 8 + (2 + 11) + 40 * (d + 0 + 3) ≤ 40 * (d + 4) by omega) (g_c0 hv.ln) (Nat.le_of_ble_eq_true rfl) dX8_way_70 ?_
      intro r h37 hq _
      obtain ⟨v40, rfl, v40l, v40u, rfl, f38, f39⟩ := hq
      rw [sM36] at f38
      replace f39 : PE _ _ := f39
      have k41 := bd_e k35 f39.symm
      refine gf_if_eq (pc := 73) (tgt := 85) (ti_rfl v40) (by decide) dX8_way_73 (fun q42 => ?_) (fun q42 => ?_)
      ·
        have k43 := if_t k41 q42
        refine go_bipush (pc := 85) (v := (-2)) (by decide) dX8_way_85 ?_
        refine go_goto (pc := 87) (tgt := 109) (by decide) dX8_way_87 ?_
        exact gi_iret (pc := 109) (ti_c (v := (-2)) (a := (-2)) (by decide)) ⟨_, rfl, (by rw [show ((-2) : Int32).toInt = (-2) from (ti_c (v := (-2)) (a := (-2)) (by decide))]; omega), (by rw [show ((-2) : Int32).toInt = (-2) from (ti_c (v := (-2)) (a := (-2)) (by decide))]; omega), rfl, (by rw [← hS, show ((-2) : Int32).toInt = (-2) from (ti_c (v := (-2)) (a := (-2)) (by decide))]; unfold wy; (repeat' split) <;> omega), (by rw [show ((-2) : Int32).toInt = (-2) from (ti_c (v := (-2)) (a := (-2)) (by decide))]; exact k43.symm.trans kf)⟩ hv dX8_way_109
      ·
        have k44 := if_f k41 q42
        refine go_aload_n (pc := 76) rfl dX8_way_76 ?_
        refine gi_getF (pc := 77) (q := 95) hv fL_X8_83 rfl (Nat.le_of_ble_eq_true rfl) rfl (hv.rf (by decide)) dX8_way_77 ?_
        refine go_iload_n (pc := 80) rfl dX8_way_80 ?_
        refine gi_iald (pc := 81) (lo := -1) (hi := 39) (len := 80) hv e6 rfl (by omega) (by omega) (fun _ => rfl) dX8_way_81 (fun v45 v45l v45u v45w => ?_)
        have k46 := bd_e k44 (congrArg Int32.toInt v45w.symm)
        have v45V : v45.toInt = V h.2.1 95 (((40 * S) + a2.toInt)) := by rw [v45w, v1S]; rfl
        refine go_goto (pc := 82) (tgt := 109) (by decide) dX8_way_82 ?_
        exact gi_iret (pc := 109) (ti_rfl v45) ⟨_, rfl, (by rw [show (v45 : Int32).toInt = v45.toInt from (ti_rfl v45)]; omega), (by rw [show (v45 : Int32).toInt = v45.toInt from (ti_rfl v45)]; omega), rfl, (by rw [← hS, show (v45 : Int32).toInt = v45.toInt from (ti_rfl v45)]; unfold wy; (repeat' split) <;> omega), (k46.symm.trans kf)⟩ hv dX8_way_109
  have k47 := if_f k19 q20
  by_cases q48 : v10.toInt = 2
  ·
    refine go_tableIn (pc := 15) (tgt := 110) (off := 95) (by rw [show (v10 : Int32).toInt = v10.toInt from (ti_rfl v10)]; omega) (by rw [show (v10 : Int32).toInt = v10.toInt from (ti_rfl v10)]; omega) (by rw [show (v10 : Int32).toInt = v10.toInt from (ti_rfl v10), q48]; rfl) (by decide) dX8_way_15 ?_
    have k49 := if_t k47 q48
    refine go_iload_n (pc := 110) rfl dX8_way_110 ?_
    refine gf_if_ne (pc := 111) (tgt := 123) (ti_rfl a3) (by decide) dX8_way_111 (fun q50 => ?_) (fun q50 => ?_)
    ·
      have k51 := if_t k49 q50
      refine go_aload_n (pc := 123) rfl dX8_way_123 ?_
      refine gi_getF (pc := 124) (q := 97) hv fL_X8_89 rfl (Nat.le_of_ble_eq_true rfl) rfl (hv.rf (by decide)) dX8_way_124 ?_
      refine go_iload_n (pc := 127) rfl dX8_way_127 ?_
      refine gi_iald (pc := 128) (lo := -1) (hi := 39) (len := 80) hv e6 rfl (by omega) (by omega) (fun _ => rfl) dX8_way_128 (fun v52 v52l v52u v52w => ?_)
      have k53 := bd_e k51 (congrArg Int32.toInt v52w.symm)
      have v52V : v52.toInt = V h.2.1 97 (((40 * S) + a2.toInt)) := by rw [v52w, v1S]; rfl
      exact gi_iret (pc := 129) (ti_rfl v52) ⟨_, rfl, (by rw [show (v52 : Int32).toInt = v52.toInt from (ti_rfl v52)]; omega), (by rw [show (v52 : Int32).toInt = v52.toInt from (ti_rfl v52)]; omega), rfl, (by rw [← hS, show (v52 : Int32).toInt = v52.toInt from (ti_rfl v52)]; unfold wy; (repeat' split) <;> omega), (k53.symm.trans kf)⟩ hv dX8_way_129
    ·
      have k54 := if_f k49 (fun z => z q50)
      refine go_aload_n (pc := 114) rfl dX8_way_114 ?_
      refine gi_getF (pc := 115) (q := 96) hv fL_X8_86 rfl (Nat.le_of_ble_eq_true rfl) rfl (hv.rf (by decide)) dX8_way_115 ?_
      refine go_iload_n (pc := 118) rfl dX8_way_118 ?_
      refine gi_iald (pc := 119) (lo := -2) (hi := 39) (len := 80) hv e6 rfl (by omega) (by omega) (fun _ => rfl) dX8_way_119 (fun v55 v55l v55u v55w => ?_)
      have k56 := bd_e k54 (congrArg Int32.toInt v55w.symm)
      have v55V : v55.toInt = V h.2.1 96 (((40 * S) + a2.toInt)) := by rw [v55w, v1S]; rfl
      refine go_goto (pc := 120) (tgt := 129) (by decide) dX8_way_120 ?_
      exact gi_iret (pc := 129) (ti_rfl v55) ⟨_, rfl, (by rw [show (v55 : Int32).toInt = v55.toInt from (ti_rfl v55)]; omega), (by rw [show (v55 : Int32).toInt = v55.toInt from (ti_rfl v55)]; omega), rfl, (by rw [← hS, show (v55 : Int32).toInt = v55.toInt from (ti_rfl v55)]; unfold wy; (repeat' split) <;> omega), (k56.symm.trans kf)⟩ hv dX8_way_129
  have k57 := if_f k47 q48
  by_cases q58 : v10.toInt = 3
  ·
    refine go_tableIn (pc := 15) (tgt := 130) (off := 115) (by rw [show (v10 : Int32).toInt = v10.toInt from (ti_rfl v10)]; omega) (by rw [show (v10 : Int32).toInt = v10.toInt from (ti_rfl v10)]; omega) (by rw [show (v10 : Int32).toInt = v10.toInt from (ti_rfl v10), q58]; rfl) (by decide) dX8_way_15 ?_
    have k59 := if_t k57 q58
    refine go_iload_n (pc := 130) rfl dX8_way_130 ?_
    refine gf_if_ne (pc := 131) (tgt := 143) (ti_rfl a3) (by decide) dX8_way_131 (fun q60 => ?_) (fun q60 => ?_)
    ·
      have k61 := if_t k59 q60
      refine go_aload_n (pc := 143) rfl dX8_way_143 ?_
      refine gi_getF (pc := 144) (q := 95) hv fL_X8_83 rfl (Nat.le_of_ble_eq_true rfl) rfl (hv.rf (by decide)) dX8_way_144 ?_
      refine go_iload_n (pc := 147) rfl dX8_way_147 ?_
      refine gi_iald (pc := 148) (lo := -1) (hi := 39) (len := 80) hv e6 rfl (by omega) (by omega) (fun _ => rfl) dX8_way_148 (fun v62 v62l v62u v62w => ?_)
      have k63 := bd_e k61 (congrArg Int32.toInt v62w.symm)
      have v62V : v62.toInt = V h.2.1 95 (((40 * S) + a2.toInt)) := by rw [v62w, v1S]; rfl
      exact gi_iret (pc := 149) (ti_rfl v62) ⟨_, rfl, (by rw [show (v62 : Int32).toInt = v62.toInt from (ti_rfl v62)]; omega), (by rw [show (v62 : Int32).toInt = v62.toInt from (ti_rfl v62)]; omega), rfl, (by rw [← hS, show (v62 : Int32).toInt = v62.toInt from (ti_rfl v62)]; unfold wy; (repeat' split) <;> omega), (k63.symm.trans kf)⟩ hv dX8_way_149
    ·
      have k64 := if_f k59 (fun z => z q60)
      refine go_aload_n (pc := 134) rfl dX8_way_134 ?_
      refine gi_getF (pc := 135) (q := 96) hv fL_X8_86 rfl (Nat.le_of_ble_eq_true rfl) rfl (hv.rf (by decide)) dX8_way_135 ?_
      refine go_iload_n (pc := 138) rfl dX8_way_138 ?_
      refine gi_iald (pc := 139) (lo := -2) (hi := 39) (len := 80) hv e6 rfl (by omega) (by omega) (fun _ => rfl) dX8_way_139 (fun v65 v65l v65u v65w => ?_)
      have k66 := bd_e k64 (congrArg Int32.toInt v65w.symm)
      have v65V : v65.toInt = V h.2.1 96 (((40 * S) + a2.toInt)) := by rw [v65w, v1S]; rfl
      refine go_goto (pc := 140) (tgt := 149) (by decide) dX8_way_140 ?_
      exact gi_iret (pc := 149) (ti_rfl v65) ⟨_, rfl, (by rw [show (v65 : Int32).toInt = v65.toInt from (ti_rfl v65)]; omega), (by rw [show (v65 : Int32).toInt = v65.toInt from (ti_rfl v65)]; omega), rfl, (by rw [← hS, show (v65 : Int32).toInt = v65.toInt from (ti_rfl v65)]; unfold wy; (repeat' split) <;> omega), (k66.symm.trans kf)⟩ hv dX8_way_149
  have k67 := if_f k57 q58
  by_cases q68 : v10.toInt = 4
  ·
    refine go_tableIn (pc := 15) (tgt := 150) (off := 135) (by rw [show (v10 : Int32).toInt = v10.toInt from (ti_rfl v10)]; omega) (by rw [show (v10 : Int32).toInt = v10.toInt from (ti_rfl v10)]; omega) (by rw [show (v10 : Int32).toInt = v10.toInt from (ti_rfl v10), q68]; rfl) (by decide) dX8_way_15 ?_
    have k69 := if_t k67 q68
    refine go_iload_n (pc := 150) rfl dX8_way_150 ?_
    refine gf_if_ne (pc := 151) (tgt := 159) (ti_rfl a3) (by decide) dX8_way_151 (fun q70 => ?_) (fun q70 => ?_)
    ·
      have k71 := if_t k69 q70
      refine go_aload_n (pc := 159) rfl dX8_way_159 ?_
      refine gi_getF (pc := 160) (q := 98) hv fL_X8_92 rfl (Nat.le_of_ble_eq_true rfl) rfl (hv.rf (by decide)) dX8_way_160 ?_
      refine go_iload_n (pc := 163) rfl dX8_way_163 ?_
      refine gi_iald (pc := 164) (lo := -1) (hi := 39) (len := 80) hv e6 rfl (by omega) (by omega) (fun _ => rfl) dX8_way_164 (fun v72 v72l v72u v72w => ?_)
      have k73 := bd_e k71 (congrArg Int32.toInt v72w.symm)
      have v72V : v72.toInt = V h.2.1 98 (((40 * S) + a2.toInt)) := by rw [v72w, v1S]; rfl
      exact gi_iret (pc := 165) (ti_rfl v72) ⟨_, rfl, (by rw [show (v72 : Int32).toInt = v72.toInt from (ti_rfl v72)]; omega), (by rw [show (v72 : Int32).toInt = v72.toInt from (ti_rfl v72)]; omega), rfl, (by rw [← hS, show (v72 : Int32).toInt = v72.toInt from (ti_rfl v72)]; unfold wy; (repeat' split) <;> omega), (k73.symm.trans kf)⟩ hv dX8_way_165
    ·
      have k74 := if_f k69 (fun z => z q70)
      refine go_bipush (pc := 154) (v := (-2)) (by decide) dX8_way_154 ?_
      refine go_goto (pc := 156) (tgt := 165) (by decide) dX8_way_156 ?_
      exact gi_iret (pc := 165) (ti_c (v := (-2)) (a := (-2)) (by decide)) ⟨_, rfl, (by rw [show ((-2) : Int32).toInt = (-2) from (ti_c (v := (-2)) (a := (-2)) (by decide))]; omega), (by rw [show ((-2) : Int32).toInt = (-2) from (ti_c (v := (-2)) (a := (-2)) (by decide))]; omega), rfl, (by rw [← hS, show ((-2) : Int32).toInt = (-2) from (ti_c (v := (-2)) (a := (-2)) (by decide))]; unfold wy; (repeat' split) <;> omega), (by rw [show ((-2) : Int32).toInt = (-2) from (ti_c (v := (-2)) (a := (-2)) (by decide))]; exact k74.symm.trans kf)⟩ hv dX8_way_165
  have k75 := if_f k67 q68
  refine go_tableOut (pc := 15) (tgt := 166) (by rw [show (v10 : Int32).toInt = v10.toInt from (ti_rfl v10)]; omega) (by decide) dX8_way_15 ?_
  refine go_iload_n (pc := 166) rfl dX8_way_166 ?_
  refine gf_if_ne (pc := 167) (tgt := 174) (ti_rfl a3) (by decide) dX8_way_167 (fun q76 => ?_) (fun q76 => ?_)
  ·
    have k77 := if_t k75 q76
    refine go_bipush (pc := 174) (v := (-2)) (by decide) dX8_way_174 ?_
    exact gi_iret (pc := 176) (ti_c (v := (-2)) (a := (-2)) (by decide)) ⟨_, rfl, (by rw [show ((-2) : Int32).toInt = (-2) from (ti_c (v := (-2)) (a := (-2)) (by decide))]; omega), (by rw [show ((-2) : Int32).toInt = (-2) from (ti_c (v := (-2)) (a := (-2)) (by decide))]; omega), rfl, (by rw [← hS, show ((-2) : Int32).toInt = (-2) from (ti_c (v := (-2)) (a := (-2)) (by decide))]; unfold wy; (repeat' split) <;> omega), (by rw [show ((-2) : Int32).toInt = (-2) from (ti_c (v := (-2)) (a := (-2)) (by decide))]; exact k77.symm.trans kf)⟩ hv dX8_way_176
  ·
    have k78 := if_f k75 (fun z => z q76)
    refine go_iconst (pc := 170) (v := (-1)) (by decide) dX8_way_170 ?_
    refine go_goto (pc := 171) (tgt := 176) (by decide) dX8_way_171 ?_
    exact gi_iret (pc := 176) (ti_c (v := (-1)) (a := (-1)) (by decide)) ⟨_, rfl, (by rw [show ((-1) : Int32).toInt = (-1) from (ti_c (v := (-1)) (a := (-1)) (by decide))]; omega), (by rw [show ((-1) : Int32).toInt = (-1) from (ti_c (v := (-1)) (a := (-1)) (by decide))]; omega), rfl, (by rw [← hS, show ((-1) : Int32).toInt = (-1) from (ti_c (v := (-1)) (a := (-1)) (by decide))]; unfold wy; (repeat' split) <;> omega), (by rw [show ((-1) : Int32).toInt = (-1) from (ti_c (v := (-1)) (a := (-1)) (by decide))]; exact k78.symm.trans kf)⟩ hv dX8_way_176
def f_X8_wayOf_x2 (s : ST) (a2 : Int) (a3 : Int) : Int :=
  bd (s.1 70 6) fun v1 => bd (f_X8_kindAt2 s a2) fun v10 => if v10 = 1 then (if ¬ a3 = 0 then (bd (f_X8_isThrowing_x2 s a2) fun v20 => if v20 = 0 then ((-2)) else (bd (s.1 98 (((40 * v1) + a2)).toNat) fun v25 => v25)) else (bd (s.1 95 (((40 * v1) + a2)).toNat) fun v28 => v28)) else if v10 = 2 then (bd (f_X8_way_x2 s a2 a3) fun v37 => v37) else if v10 = 3 then (bd (f_X8_way_x2 s a2 a3) fun v46 => v46) else if v10 = 4 then (if ¬ a3 = 0 then (bd (s.1 95 (((40 * v1) + a2)).toNat) fun v53 => v53) else (bd (s.1 98 (((40 * v1) + a2)).toNat) fun v56 => v56)) else if v10 = 5 then (if ¬ a3 = 0 then (bd (s.1 95 (((40 * v1) + a2)).toNat) fun v63 => v63) else ((-1))) else if ¬ a3 = 0 then ((-2)) else (bd (s.1 95 (((40 * v1) + a2)).toNat) fun v70 => v70)
set_option maxHeartbeats 4000000 in
set_option maxRecDepth 100000 in
theorem s_X8_wayOf_x2_f (l : Launch) (d : Nat) {P : PP} {h : HP} (hv : Iv P h) (a2 : Int32) (a2l : 0 ≤ a2.toInt) (a2u : a2.toInt ≤ 39) (a3 : Int32) (a3l : 0 ≤ a3.toInt) (a3u : a3.toInt ≤ 1) (ckf : CKF h.2.1) : Mt l yX8_wayOf cX8_wayOf 4 (some .int) (d + 5) [.ref 70, .int a2, .int a3] h 0 0 (fun r h' => ∃ v : Int32, r = some (.int v) ∧ -2 ≤ v.toInt ∧ v.toInt ≤ 39 ∧ h = h' ∧ (v.toInt = wo h.2.1 (h.2.1 70 6).toInt a2.toInt a3.toInt) ∧ (v.toInt = f_X8_wayOf_x2 (st h) a2.toInt a3.toInt)) := by
  refine Mt_iv hv (by decide) (Nat.le_of_ble_eq_true rfl) ?_
  show Go l RX8 cX8_wayOf 4 (g_rm (d + 5) 0 0) "wayOf" (some .int) 117 0 0 (fun _ _ => True) (fun r h' => ∃ v : Int32, r = some (.int v) ∧ -2 ≤ v.toInt ∧ v.toInt ≤ 39 ∧ h = h' ∧ (v.toInt = wo h.2.1 (h.2.1 70 6).toInt a2.toInt a3.toInt) ∧ (v.toInt = f_X8_wayOf_x2 (st h) a2.toInt a3.toInt)) 0 0 [(0, .ref 70), (1, .int a2), (2, .int a3)] [] h
  obtain ⟨S, hS⟩ : ∃ S : Int, S = (h.2.1 70 6).toInt := ⟨_, rfl⟩
  have S0 : 0 ≤ S := by rw [hS]; exact (hv.2.1 70 6).1
  have S1 : S ≤ 1 := by rw [hS]; exact (hv.2.1 70 6).2
  obtain ⟨fin, kf⟩ : ∃ z, z = f_X8_wayOf_x2 (st h) a2.toInt a3.toInt := ⟨_, _root_.rfl⟩
  have k0 := kf
  unfold f_X8_wayOf_x2 at k0
  refine go_bipush (pc := 0) (v := 40) (by decide) dX8_wayOf_0 ?_
  refine go_aload_n (pc := 2) rfl dX8_wayOf_2 ?_
  refine gi_get (pc := 3) (lo := 0) (hi := 1) hv fL_X8_187 rfl (Nat.le_of_ble_eq_true rfl) rfl rfl dX8_wayOf_3 (fun v1 v1l v1u v1w => ?_)
  have k2 := bd_e k0 (congrArg Int32.toInt v1w.symm)
  have v1S : v1.toInt = S := by rw [v1w, hv.fy (j := 6) (by omega), ← hv.fy (j := 6) (by omega)]; exact hS.symm
  refine gf_imul (pc := 6) (ti_c (v := 40) (a := 40) (by decide)) (ti_rfl v1) (by omega) (by omega) dX8_wayOf_6 (fun v3 e4 => ?_)
  refine go_iload_n (pc := 7) rfl dX8_wayOf_7 ?_
  refine gf_iadd (pc := 8) e4 (ti_rfl a2) (by omega) (by omega) dX8_wayOf_8 (fun v5 e6 => ?_)
  refine go_istore_n (pc := 9) (Nat.le_of_ble_eq_true rfl) dX8_wayOf_9 (go_lv (lv2 := [(0, .ref 70), (1, .int a2), (2, .int a3), (3, .int v5)]) rfl ?_)
  refine go_aload_n (pc := 10) rfl dX8_wayOf_10 ?_
  refine go_iload_n (pc := 11) rfl dX8_wayOf_11 ?_
  refine go_invV (pc := 12) (sl := 0) (s_X8_kindAt2_f l (d + 2) hv a2 (by rw [show (a2 : Int32).toInt = a2.toInt from (ti_rfl a2)]; omega) (by rw [show (a2 : Int32).toInt = a2.toInt from (ti_rfl a2)]; omega)) mL_X8_271 iM_X8_kindAt sM_X8_kindAt (hv.sh rfl) rfl rfl rfl (Nat.le_of_ble_eq_true rfl) (show d + 2 + 2 + 1 ≤ d + 5 by omega) (show 8 + (2 + 11) + 40 * (d + 2 + 2) ≤ 40 * (d + 5) by omega) (g_c0 hv.ln) (Nat.le_of_ble_eq_true rfl) dX8_wayOf_12 ?_
  intro r h7 hq _
  obtain ⟨v10, rfl, v10l, v10u, rfl, f8, f9⟩ := hq
  have v10K : v10.toInt = V h.2.1 77 (V h.2.1 93 (40 * S + a2.toInt)) := by rw [f8]; unfold g_kd g_it; rw [← hS]; rfl
  replace f9 : PE _ _ := f9
  have k11 := bd_e k2 f9.symm
  by_cases q12 : v10.toInt = 1
  ·
    refine go_tableIn (pc := 15) (tgt := 90) (off := 75) (by rw [show (v10 : Int32).toInt = v10.toInt from (ti_rfl v10)]; omega) (by rw [show (v10 : Int32).toInt = v10.toInt from (ti_rfl v10)]; omega) (by rw [show (v10 : Int32).toInt = v10.toInt from (ti_rfl v10), q12]; rfl) (by decide) dX8_wayOf_15 ?_
    have k13 := if_t k11 q12
    refine go_iload_n (pc := 90) rfl dX8_wayOf_90 ?_
    refine gf_if_ne (pc := 91) (tgt := 103) (ti_rfl a3) (by decide) dX8_wayOf_91 (fun q14 => ?_) (fun q14 => ?_)
    ·
      have k15 := if_t k13 q14
      refine go_aload_n (pc := 103) rfl dX8_wayOf_103 ?_
      refine go_iload_n (pc := 104) rfl dX8_wayOf_104 ?_
      have sM16 : (h.2.1 70 6).toInt = S := by rw [hv.fy (j := 6) (by omega), ← hv.fy (j := 6) (by omega)]; exact hS.symm
      refine go_invV (pc := 105) (sl := 0) (s_X8_isThrowing_x2_f l (d + 1) hv a2 (by rw [show (a2 : Int32).toInt = a2.toInt from (ti_rfl a2)]; omega) (by rw [show (a2 : Int32).toInt = a2.toInt from (ti_rfl a2)]; omega) ckf) mL_X8_277 iM_X8_isThrowing sM_X8_isThrowing (hv.sh rfl) rfl rfl rfl (Nat.le_of_ble_eq_true rfl) (show d + 1 + 3 + 1 ≤ d + 5 by omega) (show 8 + (2 + 11) + 40 * (d + 1 + 3) ≤ 40 * (d + 5) by omega) (g_c0 hv.ln) (Nat.le_of_ble_eq_true rfl) dX8_wayOf_105 ?_
      intro r h17 hq _
      obtain ⟨v20, rfl, v20l, v20u, rfl, f18, f19⟩ := hq
      rw [sM16] at f18
      replace f19 : PE _ _ := f19
      have k21 := bd_e k15 f19.symm
      refine gf_if_eq (pc := 108) (tgt := 120) (ti_rfl v20) (by decide) dX8_wayOf_108 (fun q22 => ?_) (fun q22 => ?_)
      ·
        have k23 := if_t k21 q22
        refine go_bipush (pc := 120) (v := (-2)) (by decide) dX8_wayOf_120 ?_
        exact gi_iret (pc := 122) (ti_c (v := (-2)) (a := (-2)) (by decide)) ⟨_, rfl, (by rw [show ((-2) : Int32).toInt = (-2) from (ti_c (v := (-2)) (a := (-2)) (by decide))]; omega), (by rw [show ((-2) : Int32).toInt = (-2) from (ti_c (v := (-2)) (a := (-2)) (by decide))]; omega), rfl, (by rw [← hS, show ((-2) : Int32).toInt = (-2) from (ti_c (v := (-2)) (a := (-2)) (by decide))]; unfold wo; (repeat' split) <;> omega), (by rw [show ((-2) : Int32).toInt = (-2) from (ti_c (v := (-2)) (a := (-2)) (by decide))]; exact k23.symm.trans kf)⟩ hv dX8_wayOf_122
      ·
        have k24 := if_f k21 q22
        refine go_aload_n (pc := 111) rfl dX8_wayOf_111 ?_
        refine gi_getF (pc := 112) (q := 98) hv fL_X8_92 rfl (Nat.le_of_ble_eq_true rfl) rfl (hv.rf (by decide)) dX8_wayOf_112 ?_
        refine go_iload_n (pc := 115) rfl dX8_wayOf_115 ?_
        refine gi_iald (pc := 116) (lo := -1) (hi := 39) (len := 80) hv e6 rfl (by omega) (by omega) (fun _ => rfl) dX8_wayOf_116 (fun v25 v25l v25u v25w => ?_)
        have k26 := bd_e k24 (congrArg Int32.toInt v25w.symm)
        have v25V : v25.toInt = V h.2.1 98 (((40 * S) + a2.toInt)) := by rw [v25w, v1S]; rfl
        refine go_goto (pc := 117) (tgt := 122) (by decide) dX8_wayOf_117 ?_
        exact gi_iret (pc := 122) (ti_rfl v25) ⟨_, rfl, (by rw [show (v25 : Int32).toInt = v25.toInt from (ti_rfl v25)]; omega), (by rw [show (v25 : Int32).toInt = v25.toInt from (ti_rfl v25)]; omega), rfl, (by rw [← hS, show (v25 : Int32).toInt = v25.toInt from (ti_rfl v25)]; unfold wo; (repeat' split) <;> omega), (k26.symm.trans kf)⟩ hv dX8_wayOf_122
    ·
      have k27 := if_f k13 (fun z => z q14)
      refine go_aload_n (pc := 94) rfl dX8_wayOf_94 ?_
      refine gi_getF (pc := 95) (q := 95) hv fL_X8_83 rfl (Nat.le_of_ble_eq_true rfl) rfl (hv.rf (by decide)) dX8_wayOf_95 ?_
      refine go_iload_n (pc := 98) rfl dX8_wayOf_98 ?_
      refine gi_iald (pc := 99) (lo := -1) (hi := 39) (len := 80) hv e6 rfl (by omega) (by omega) (fun _ => rfl) dX8_wayOf_99 (fun v28 v28l v28u v28w => ?_)
      have k29 := bd_e k27 (congrArg Int32.toInt v28w.symm)
      have v28V : v28.toInt = V h.2.1 95 (((40 * S) + a2.toInt)) := by rw [v28w, v1S]; rfl
      refine go_goto (pc := 100) (tgt := 122) (by decide) dX8_wayOf_100 ?_
      exact gi_iret (pc := 122) (ti_rfl v28) ⟨_, rfl, (by rw [show (v28 : Int32).toInt = v28.toInt from (ti_rfl v28)]; omega), (by rw [show (v28 : Int32).toInt = v28.toInt from (ti_rfl v28)]; omega), rfl, (by rw [← hS, show (v28 : Int32).toInt = v28.toInt from (ti_rfl v28)]; unfold wo; (repeat' split) <;> omega), (k29.symm.trans kf)⟩ hv dX8_wayOf_122
  have k30 := if_f k11 q12
  by_cases q31 : v10.toInt = 2
  ·
    refine go_tableIn (pc := 15) (tgt := 48) (off := 33) (by rw [show (v10 : Int32).toInt = v10.toInt from (ti_rfl v10)]; omega) (by rw [show (v10 : Int32).toInt = v10.toInt from (ti_rfl v10)]; omega) (by rw [show (v10 : Int32).toInt = v10.toInt from (ti_rfl v10), q31]; rfl) (by decide) dX8_wayOf_15 ?_
    have k32 := if_t k30 q31
    refine go_aload_n (pc := 48) rfl dX8_wayOf_48 ?_
    refine go_iload_n (pc := 49) rfl dX8_wayOf_49 ?_
    refine go_iload_n (pc := 50) rfl dX8_wayOf_50 ?_
    have sM33 : (h.2.1 70 6).toInt = S := by rw [hv.fy (j := 6) (by omega), ← hv.fy (j := 6) (by omega)]; exact hS.symm
    refine go_invV (pc := 51) (sl := 0) (s_X8_way_x2_f l (d + 0) hv a2 (by rw [show (a2 : Int32).toInt = a2.toInt from (ti_rfl a2)]; omega) (by rw [show (a2 : Int32).toInt = a2.toInt from (ti_rfl a2)]; omega) a3 (by rw [show (a3 : Int32).toInt = a3.toInt from (ti_rfl a3)]; omega) (by rw [show (a3 : Int32).toInt = a3.toInt from (ti_rfl a3)]; omega) ckf) mL_X8_284 iM_X8_way sM_X8_way (hv.sh rfl) rfl rfl rfl (Nat.le_of_ble_eq_true rfl) (show d + 0 + 4 + 1 ≤ d + 5 by omega) (show 8 + (4 + 11) + 40 * (d + 0 + 4) ≤ 40 * (d + 5) by omega) (g_c0 hv.ln) (Nat.le_of_ble_eq_true rfl) dX8_wayOf_51 ?_
    intro r h34 hq _
    obtain ⟨v37, rfl, v37l, v37u, rfl, f35, f36⟩ := hq
    rw [sM33] at f35
    replace f36 : PE _ _ := f36
    have k38 := bd_e k32 f36.symm
    exact gi_iret (pc := 54) (ti_rfl v37) ⟨_, rfl, (by rw [show (v37 : Int32).toInt = v37.toInt from (ti_rfl v37)]; omega), (by rw [show (v37 : Int32).toInt = v37.toInt from (ti_rfl v37)]; omega), rfl, (by rw [← hS, show (v37 : Int32).toInt = v37.toInt from (ti_rfl v37)]; unfold wo; (repeat' split) <;> omega), (k38.symm.trans kf)⟩ hv dX8_wayOf_54
  have k39 := if_f k30 q31
  by_cases q40 : v10.toInt = 3
  ·
    refine go_tableIn (pc := 15) (tgt := 48) (off := 33) (by rw [show (v10 : Int32).toInt = v10.toInt from (ti_rfl v10)]; omega) (by rw [show (v10 : Int32).toInt = v10.toInt from (ti_rfl v10)]; omega) (by rw [show (v10 : Int32).toInt = v10.toInt from (ti_rfl v10), q40]; rfl) (by decide) dX8_wayOf_15 ?_
    have k41 := if_t k39 q40
    refine go_aload_n (pc := 48) rfl dX8_wayOf_48 ?_
    refine go_iload_n (pc := 49) rfl dX8_wayOf_49 ?_
    refine go_iload_n (pc := 50) rfl dX8_wayOf_50 ?_
    have sM42 : (h.2.1 70 6).toInt = S := by rw [hv.fy (j := 6) (by omega), ← hv.fy (j := 6) (by omega)]; exact hS.symm
    refine go_invV (pc := 51) (sl := 0) (s_X8_way_x2_f l (d + 0) hv a2 (by rw [show (a2 : Int32).toInt = a2.toInt from (ti_rfl a2)]; omega) (by rw [show (a2 : Int32).toInt = a2.toInt from (ti_rfl a2)]; omega) a3 (by rw [show (a3 : Int32).toInt = a3.toInt from (ti_rfl a3)]; omega) (by rw [show (a3 : Int32).toInt = a3.toInt from (ti_rfl a3)]; omega) ckf) mL_X8_284 iM_X8_way sM_X8_way (hv.sh rfl) rfl rfl rfl (Nat.le_of_ble_eq_true rfl) (show d + 0 + 4 + 1 ≤ d + 5 by omega) (show 8 + (4 + 11) + 40 * (d + 0 + 4) ≤ 40 * (d + 5) by omega) (g_c0 hv.ln) (Nat.le_of_ble_eq_true rfl) dX8_wayOf_51 ?_
    intro r h43 hq _
    obtain ⟨v46, rfl, v46l, v46u, rfl, f44, f45⟩ := hq
    rw [sM42] at f44
    replace f45 : PE _ _ := f45
    have k47 := bd_e k41 f45.symm
    exact gi_iret (pc := 54) (ti_rfl v46) ⟨_, rfl, (by rw [show (v46 : Int32).toInt = v46.toInt from (ti_rfl v46)]; omega), (by rw [show (v46 : Int32).toInt = v46.toInt from (ti_rfl v46)]; omega), rfl, (by rw [← hS, show (v46 : Int32).toInt = v46.toInt from (ti_rfl v46)]; unfold wo; (repeat' split) <;> omega), (k47.symm.trans kf)⟩ hv dX8_wayOf_54
  have k48 := if_f k39 q40
  by_cases q49 : v10.toInt = 4
  ·
    refine go_tableIn (pc := 15) (tgt := 70) (off := 55) (by rw [show (v10 : Int32).toInt = v10.toInt from (ti_rfl v10)]; omega) (by rw [show (v10 : Int32).toInt = v10.toInt from (ti_rfl v10)]; omega) (by rw [show (v10 : Int32).toInt = v10.toInt from (ti_rfl v10), q49]; rfl) (by decide) dX8_wayOf_15 ?_
    have k50 := if_t k48 q49
    refine go_iload_n (pc := 70) rfl dX8_wayOf_70 ?_
    refine gf_if_ne (pc := 71) (tgt := 83) (ti_rfl a3) (by decide) dX8_wayOf_71 (fun q51 => ?_) (fun q51 => ?_)
    ·
      have k52 := if_t k50 q51
      refine go_aload_n (pc := 83) rfl dX8_wayOf_83 ?_
      refine gi_getF (pc := 84) (q := 95) hv fL_X8_83 rfl (Nat.le_of_ble_eq_true rfl) rfl (hv.rf (by decide)) dX8_wayOf_84 ?_
      refine go_iload_n (pc := 87) rfl dX8_wayOf_87 ?_
      refine gi_iald (pc := 88) (lo := -1) (hi := 39) (len := 80) hv e6 rfl (by omega) (by omega) (fun _ => rfl) dX8_wayOf_88 (fun v53 v53l v53u v53w => ?_)
      have k54 := bd_e k52 (congrArg Int32.toInt v53w.symm)
      have v53V : v53.toInt = V h.2.1 95 (((40 * S) + a2.toInt)) := by rw [v53w, v1S]; rfl
      exact gi_iret (pc := 89) (ti_rfl v53) ⟨_, rfl, (by rw [show (v53 : Int32).toInt = v53.toInt from (ti_rfl v53)]; omega), (by rw [show (v53 : Int32).toInt = v53.toInt from (ti_rfl v53)]; omega), rfl, (by rw [← hS, show (v53 : Int32).toInt = v53.toInt from (ti_rfl v53)]; unfold wo; (repeat' split) <;> omega), (k54.symm.trans kf)⟩ hv dX8_wayOf_89
    ·
      have k55 := if_f k50 (fun z => z q51)
      refine go_aload_n (pc := 74) rfl dX8_wayOf_74 ?_
      refine gi_getF (pc := 75) (q := 98) hv fL_X8_92 rfl (Nat.le_of_ble_eq_true rfl) rfl (hv.rf (by decide)) dX8_wayOf_75 ?_
      refine go_iload_n (pc := 78) rfl dX8_wayOf_78 ?_
      refine gi_iald (pc := 79) (lo := -1) (hi := 39) (len := 80) hv e6 rfl (by omega) (by omega) (fun _ => rfl) dX8_wayOf_79 (fun v56 v56l v56u v56w => ?_)
      have k57 := bd_e k55 (congrArg Int32.toInt v56w.symm)
      have v56V : v56.toInt = V h.2.1 98 (((40 * S) + a2.toInt)) := by rw [v56w, v1S]; rfl
      refine go_goto (pc := 80) (tgt := 89) (by decide) dX8_wayOf_80 ?_
      exact gi_iret (pc := 89) (ti_rfl v56) ⟨_, rfl, (by rw [show (v56 : Int32).toInt = v56.toInt from (ti_rfl v56)]; omega), (by rw [show (v56 : Int32).toInt = v56.toInt from (ti_rfl v56)]; omega), rfl, (by rw [← hS, show (v56 : Int32).toInt = v56.toInt from (ti_rfl v56)]; unfold wo; (repeat' split) <;> omega), (k57.symm.trans kf)⟩ hv dX8_wayOf_89
  have k58 := if_f k48 q49
  by_cases q59 : v10.toInt = 5
  ·
    refine go_tableIn (pc := 15) (tgt := 55) (off := 40) (by rw [show (v10 : Int32).toInt = v10.toInt from (ti_rfl v10)]; omega) (by rw [show (v10 : Int32).toInt = v10.toInt from (ti_rfl v10)]; omega) (by rw [show (v10 : Int32).toInt = v10.toInt from (ti_rfl v10), q59]; rfl) (by decide) dX8_wayOf_15 ?_
    have k60 := if_t k58 q59
    refine go_iload_n (pc := 55) rfl dX8_wayOf_55 ?_
    refine gf_if_ne (pc := 56) (tgt := 63) (ti_rfl a3) (by decide) dX8_wayOf_56 (fun q61 => ?_) (fun q61 => ?_)
    ·
      have k62 := if_t k60 q61
      refine go_aload_n (pc := 63) rfl dX8_wayOf_63 ?_
      refine gi_getF (pc := 64) (q := 95) hv fL_X8_83 rfl (Nat.le_of_ble_eq_true rfl) rfl (hv.rf (by decide)) dX8_wayOf_64 ?_
      refine go_iload_n (pc := 67) rfl dX8_wayOf_67 ?_
      refine gi_iald (pc := 68) (lo := -1) (hi := 39) (len := 80) hv e6 rfl (by omega) (by omega) (fun _ => rfl) dX8_wayOf_68 (fun v63 v63l v63u v63w => ?_)
      have k64 := bd_e k62 (congrArg Int32.toInt v63w.symm)
      have v63V : v63.toInt = V h.2.1 95 (((40 * S) + a2.toInt)) := by rw [v63w, v1S]; rfl
      exact gi_iret (pc := 69) (ti_rfl v63) ⟨_, rfl, (by rw [show (v63 : Int32).toInt = v63.toInt from (ti_rfl v63)]; omega), (by rw [show (v63 : Int32).toInt = v63.toInt from (ti_rfl v63)]; omega), rfl, (by rw [← hS, show (v63 : Int32).toInt = v63.toInt from (ti_rfl v63)]; unfold wo; (repeat' split) <;> omega), (k64.symm.trans kf)⟩ hv dX8_wayOf_69
    ·
      have k65 := if_f k60 (fun z => z q61)
      refine go_iconst (pc := 59) (v := (-1)) (by decide) dX8_wayOf_59 ?_
      refine go_goto (pc := 60) (tgt := 69) (by decide) dX8_wayOf_60 ?_
      exact gi_iret (pc := 69) (ti_c (v := (-1)) (a := (-1)) (by decide)) ⟨_, rfl, (by rw [show ((-1) : Int32).toInt = (-1) from (ti_c (v := (-1)) (a := (-1)) (by decide))]; omega), (by rw [show ((-1) : Int32).toInt = (-1) from (ti_c (v := (-1)) (a := (-1)) (by decide))]; omega), rfl, (by rw [← hS, show ((-1) : Int32).toInt = (-1) from (ti_c (v := (-1)) (a := (-1)) (by decide))]; unfold wo; (repeat' split) <;> omega), (by rw [show ((-1) : Int32).toInt = (-1) from (ti_c (v := (-1)) (a := (-1)) (by decide))]; exact k65.symm.trans kf)⟩ hv dX8_wayOf_69
  have k66 := if_f k58 q59
  refine go_tableOut (pc := 15) (tgt := 123) (by rw [show (v10 : Int32).toInt = v10.toInt from (ti_rfl v10)]; omega) (by decide) dX8_wayOf_15 ?_
  refine go_iload_n (pc := 123) rfl dX8_wayOf_123 ?_
  refine gf_if_ne (pc := 124) (tgt := 136) (ti_rfl a3) (by decide) dX8_wayOf_124 (fun q67 => ?_) (fun q67 => ?_)
  ·
    have k68 := if_t k66 q67
    refine go_bipush (pc := 136) (v := (-2)) (by decide) dX8_wayOf_136 ?_
    exact gi_iret (pc := 138) (ti_c (v := (-2)) (a := (-2)) (by decide)) ⟨_, rfl, (by rw [show ((-2) : Int32).toInt = (-2) from (ti_c (v := (-2)) (a := (-2)) (by decide))]; omega), (by rw [show ((-2) : Int32).toInt = (-2) from (ti_c (v := (-2)) (a := (-2)) (by decide))]; omega), rfl, (by rw [← hS, show ((-2) : Int32).toInt = (-2) from (ti_c (v := (-2)) (a := (-2)) (by decide))]; unfold wo; (repeat' split) <;> omega), (by rw [show ((-2) : Int32).toInt = (-2) from (ti_c (v := (-2)) (a := (-2)) (by decide))]; exact k68.symm.trans kf)⟩ hv dX8_wayOf_138
  ·
    have k69 := if_f k66 (fun z => z q67)
    refine go_aload_n (pc := 127) rfl dX8_wayOf_127 ?_
    refine gi_getF (pc := 128) (q := 95) hv fL_X8_83 rfl (Nat.le_of_ble_eq_true rfl) rfl (hv.rf (by decide)) dX8_wayOf_128 ?_
    refine go_iload_n (pc := 131) rfl dX8_wayOf_131 ?_
    refine gi_iald (pc := 132) (lo := -1) (hi := 39) (len := 80) hv e6 rfl (by omega) (by omega) (fun _ => rfl) dX8_wayOf_132 (fun v70 v70l v70u v70w => ?_)
    have k71 := bd_e k69 (congrArg Int32.toInt v70w.symm)
    have v70V : v70.toInt = V h.2.1 95 (((40 * S) + a2.toInt)) := by rw [v70w, v1S]; rfl
    refine go_goto (pc := 133) (tgt := 138) (by decide) dX8_wayOf_133 ?_
    exact gi_iret (pc := 138) (ti_rfl v70) ⟨_, rfl, (by rw [show (v70 : Int32).toInt = v70.toInt from (ti_rfl v70)]; omega), (by rw [show (v70 : Int32).toInt = v70.toInt from (ti_rfl v70)]; omega), rfl, (by rw [← hS, show (v70 : Int32).toInt = v70.toInt from (ti_rfl v70)]; unfold wo; (repeat' split) <;> omega), (k71.symm.trans kf)⟩ hv dX8_wayOf_138
def f_X8_statementPlace_x2 (s : ST) (a1 : Int) (a2 : Int) : Int :=
  ((13 * a1) + a2)
set_option maxHeartbeats 4000000 in
set_option maxRecDepth 100000 in
theorem s_X8_statementPlace_x2_f (l : Launch) (d : Nat) {P : PP} {h : HP} (hv : Iv P h) (a1 : Int32) (a1l : 0 ≤ a1.toInt) (a1u : a1.toInt ≤ 39) (a2 : Int32) (a2l : 0 ≤ a2.toInt) (a2u : a2.toInt ≤ 12) : Mt l yX8_statementPlace cX8_statementPlace 2 (some .int) (d + 1) [.int a1, .int a2] h 0 0 (fun r h' => ∃ v : Int32, r = some (.int v) ∧ 0 ≤ v.toInt ∧ v.toInt ≤ 519 ∧ h = h' ∧ (v.toInt = 13 * a1.toInt + a2.toInt) ∧ (v.toInt = f_X8_statementPlace_x2 (st h) a1.toInt a2.toInt)) := by
  refine Mt_iv hv (by decide) (Nat.le_of_ble_eq_true rfl) ?_
  show Go l RX8 cX8_statementPlace 2 (g_rm (d + 1) 0 0) "statementPlace" (some .int) 117 0 0 (fun _ _ => True) (fun r h' => ∃ v : Int32, r = some (.int v) ∧ 0 ≤ v.toInt ∧ v.toInt ≤ 519 ∧ h = h' ∧ (v.toInt = 13 * a1.toInt + a2.toInt) ∧ (v.toInt = f_X8_statementPlace_x2 (st h) a1.toInt a2.toInt)) 0 0 [(0, .int a1), (1, .int a2)] [] h
  obtain ⟨fin, kf⟩ : ∃ z, z = f_X8_statementPlace_x2 (st h) a1.toInt a2.toInt := ⟨_, _root_.rfl⟩
  have k0 := kf
  unfold f_X8_statementPlace_x2 at k0
  refine go_bipush (pc := 0) (v := 13) (by decide) dX8_statementPlace_0 ?_
  refine go_iload_n (pc := 2) rfl dX8_statementPlace_2 ?_
  refine gf_imul (pc := 3) (ti_c (v := 13) (a := 13) (by decide)) (ti_rfl a1) (by omega) (by omega) dX8_statementPlace_3 (fun v1 e2 => ?_)
  refine go_iload_n (pc := 4) rfl dX8_statementPlace_4 ?_
  refine gf_iadd (pc := 5) e2 (ti_rfl a2) (by omega) (by omega) dX8_statementPlace_5 (fun v3 e4 => ?_)
  exact gi_iret (pc := 6) e4 ⟨_, rfl, (by rw [show (v3 : Int32).toInt = ((13 * a1.toInt) + a2.toInt) from e4]; omega), (by rw [show (v3 : Int32).toInt = ((13 * a1.toInt) + a2.toInt) from e4]; omega), rfl, (by have z : (v3 : Int32).toInt = ((13 * a1.toInt) + a2.toInt) := e4; omega), (by rw [show (v3 : Int32).toInt = ((13 * a1.toInt) + a2.toInt) from e4]; exact k0.symm.trans kf)⟩ hv dX8_statementPlace_6
def f_X8_procedurePlace_x2 (s : ST) (a1 : Int) (a2 : Int) : Int :=
  ((520 + (13 * a1)) + a2)
set_option maxHeartbeats 4000000 in
set_option maxRecDepth 100000 in
theorem s_X8_procedurePlace_x2_f (l : Launch) (d : Nat) {P : PP} {h : HP} (hv : Iv P h) (a1 : Int32) (a1l : 0 ≤ a1.toInt) (a1u : a1.toInt ≤ 4) (a2 : Int32) (a2l : 0 ≤ a2.toInt) (a2u : a2.toInt ≤ 12) : Mt l yX8_procedurePlace cX8_procedurePlace 2 (some .int) (d + 1) [.int a1, .int a2] h 0 0 (fun r h' => ∃ v : Int32, r = some (.int v) ∧ 520 ≤ v.toInt ∧ v.toInt ≤ 584 ∧ h = h' ∧ (v.toInt = 520 + 13 * a1.toInt + a2.toInt) ∧ (v.toInt = f_X8_procedurePlace_x2 (st h) a1.toInt a2.toInt)) := by
  refine Mt_iv hv (by decide) (Nat.le_of_ble_eq_true rfl) ?_
  show Go l RX8 cX8_procedurePlace 2 (g_rm (d + 1) 0 0) "procedurePlace" (some .int) 117 0 0 (fun _ _ => True) (fun r h' => ∃ v : Int32, r = some (.int v) ∧ 520 ≤ v.toInt ∧ v.toInt ≤ 584 ∧ h = h' ∧ (v.toInt = 520 + 13 * a1.toInt + a2.toInt) ∧ (v.toInt = f_X8_procedurePlace_x2 (st h) a1.toInt a2.toInt)) 0 0 [(0, .int a1), (1, .int a2)] [] h
  obtain ⟨fin, kf⟩ : ∃ z, z = f_X8_procedurePlace_x2 (st h) a1.toInt a2.toInt := ⟨_, _root_.rfl⟩
  have k0 := kf
  unfold f_X8_procedurePlace_x2 at k0
  refine go_sipush (pc := 0) (v := 520) (by decide) dX8_procedurePlace_0 ?_
  refine go_bipush (pc := 3) (v := 13) (by decide) dX8_procedurePlace_3 ?_
  refine go_iload_n (pc := 5) rfl dX8_procedurePlace_5 ?_
  refine gf_imul (pc := 6) (ti_c (v := 13) (a := 13) (by decide)) (ti_rfl a1) (by omega) (by omega) dX8_procedurePlace_6 (fun v1 e2 => ?_)
  refine gf_iadd (pc := 7) (ti_c (v := 520) (a := 520) (by decide)) e2 (by omega) (by omega) dX8_procedurePlace_7 (fun v3 e4 => ?_)
  refine go_iload_n (pc := 8) rfl dX8_procedurePlace_8 ?_
  refine gf_iadd (pc := 9) e4 (ti_rfl a2) (by omega) (by omega) dX8_procedurePlace_9 (fun v5 e6 => ?_)
  exact gi_iret (pc := 10) e6 ⟨_, rfl, (by rw [show (v5 : Int32).toInt = ((520 + (13 * a1.toInt)) + a2.toInt) from e6]; omega), (by rw [show (v5 : Int32).toInt = ((520 + (13 * a1.toInt)) + a2.toInt) from e6]; omega), rfl, (by have z : (v5 : Int32).toInt = ((520 + (13 * a1.toInt)) + a2.toInt) := e6; omega), (by rw [show (v5 : Int32).toInt = ((520 + (13 * a1.toInt)) + a2.toInt) from e6]; exact k0.symm.trans kf)⟩ hv dX8_procedurePlace_10
def f_X8_hang2 (s : ST) (a2 : Int) (a3 : Int) : ST :=
  bd (s.1 103 (((19 * a2) + (a3 / 32))).toNat) fun v7 => bd (o_ishl 1 ((a3 % 32))) fun v11 => bd (o_ior v7 v11) fun v13 => bd (sI s 103 (((19 * a2) + (a3 / 32))).toNat v13) fun s15 => s15
set_option maxHeartbeats 4000000 in
set_option maxRecDepth 100000 in
theorem s_X8_hang2_f (l : Launch) (d : Nat) {P : PP} {h : HP} (hv : Iv P h) (a2 : Int32) (a2l : 0 ≤ a2.toInt) (a2u : a2.toInt ≤ 584) (a3 : Int32) (a3l : 0 ≤ a3.toInt) (a3u : a3.toInt ≤ 584) : Mt l yX8_hang cX8_hang 3 none (d + 1) [.ref 70, .int a2, .int a3] h 0 0 (fun r h' => r = none ∧ Iv P h' ∧ (st h' = f_X8_hang2 (st h) a2.toInt a3.toInt) ∧ (FX KAr h h')) := by
  refine Mt_iv hv (by decide) (Nat.le_of_ble_eq_true rfl) ?_
  show Go l RX8 cX8_hang 3 (g_rm (d + 1) 0 0) "hang" none 117 0 0 (fun _ _ => True) (fun r h' => r = none ∧ Iv P h' ∧ (st h' = f_X8_hang2 (st h) a2.toInt a3.toInt) ∧ (FX KAr h h')) 0 0 [(0, .ref 70), (1, .int a2), (2, .int a3)] [] h
  have fx : FX KAr h h := FX.rfl
  obtain ⟨fin, kf⟩ : ∃ z, z = f_X8_hang2 (st h) a2.toInt a3.toInt := ⟨_, _root_.rfl⟩
  have k0 := kf
  unfold f_X8_hang2 at k0
  refine go_aload_n (pc := 0) rfl dX8_hang_0 ?_
  refine gi_getF (pc := 1) (q := 103) hv fL_X8_108 rfl (Nat.le_of_ble_eq_true rfl) rfl (hv.rf (by decide)) dX8_hang_1 ?_
  refine go_bipush (pc := 4) (v := 19) (by decide) dX8_hang_4 ?_
  refine go_iload_n (pc := 6) rfl dX8_hang_6 ?_
  refine gf_imul (pc := 7) (ti_c (v := 19) (a := 19) (by decide)) (ti_rfl a2) (by omega) (by omega) dX8_hang_7 (fun v1 e2 => ?_)
  refine go_iload_n (pc := 8) rfl dX8_hang_8 ?_
  refine go_bipush (pc := 9) (v := 32) (by decide) dX8_hang_9 ?_
  refine gf_idiv (pc := 11) (ti_rfl a3) (ti_c (v := 32) (a := 32) (by decide)) (by omega) (by omega) dX8_hang_11 (fun v3 e4 => ?_)
  refine gf_iadd (pc := 12) e2 e4 (by omega) (by omega) dX8_hang_12 (fun v5 e6 => ?_)
  refine go_dup2 (pc := 13) rfl rfl dX8_hang_13 ?_
  refine gi_iald (pc := 14) (lo := -2147483648) (hi := 2147483647) (len := 11115) hv e6 rfl (by omega) (by omega) (fun _ => rfl) dX8_hang_14 (fun v7 v7l v7u v7w => ?_)
  have k8 := bd_e k0 (congrArg Int32.toInt v7w.symm)
  refine go_iconst (pc := 15) (v := 1) (by decide) dX8_hang_15 ?_
  refine go_iload_n (pc := 16) rfl dX8_hang_16 ?_
  refine go_bipush (pc := 17) (v := 32) (by decide) dX8_hang_17 ?_
  refine gf_irem (pc := 19) (ti_rfl a3) (ti_c (v := 32) (a := 32) (by decide)) (by omega) (by omega) dX8_hang_19 (fun v9 e10 => ?_)
  refine gx_ishl (pc := 20) dX8_hang_20 (fun v11 v11x => ?_)
  have k12 := bd_e k8 (so_ishl (ti_c (v := 1) (a := 1) (by decide)) e10 v11x)
  refine gx_ior (pc := 21) dX8_hang_21 (fun v13 v13x => ?_)
  have k14 := bd_e k12 (so_ior (ti_rfl v7) (ti_rfl v11) v13x)
  refine gi_iast (pc := 22) (lo := -2147483648) (hi := 2147483647) (len := 11115) hv e6 (ti_rfl v13) rfl (by omega) (by omega) (fun _ => rfl) (ti_ge (ti_rfl v13)) (ti_le2 (ti_rfl v13)) (by decide) dX8_hang_22 (fun h15 hv15 hv15e => ?_)
  have fx15 : FX KAr h h15 := FX.pI fx hv15e (by unfold KAr; omega)
  have k16 := bd_e k14 (st_I hv15e (ti_rfl v13))
  exact gi_vret (pc := 23) ⟨rfl, hv15, (k16.symm.trans kf), fx15⟩ hv15 dX8_hang_23
def f_X8_isHung_x2 (s : ST) (a2 : Int) (a3 : Int) : Int :=
  bd (s.1 103 (((19 * a2) + (a3 / 32))).toNat) fun v7 => bd (o_iushr v7 ((a3 % 32))) fun v11 => bd (o_iand v11 1) fun v13 => if ¬ v13 = 1 then (0) else (1)
set_option maxHeartbeats 4000000 in
set_option maxRecDepth 100000 in
theorem s_X8_isHung_x2_f (l : Launch) (d : Nat) {P : PP} {h : HP} (hv : Iv P h) (a2 : Int32) (a2l : 0 ≤ a2.toInt) (a2u : a2.toInt ≤ 584) (a3 : Int32) (a3l : 0 ≤ a3.toInt) (a3u : a3.toInt ≤ 584) : Mt l yX8_isHung cX8_isHung 3 (some .boolean) (d + 1) [.ref 70, .int a2, .int a3] h 0 0 (fun r h' => ∃ v : Int32, r = some (.int v) ∧ 0 ≤ v.toInt ∧ v.toInt ≤ 1 ∧ h = h' ∧ ((v.toInt = 1 → hb h.2.1 a2.toInt a3.toInt) ∧ (v.toInt = 0 → ¬ hb h.2.1 a2.toInt a3.toInt)) ∧ (v.toInt = f_X8_isHung_x2 (st h) a2.toInt a3.toInt)) := by
  refine Mt_iv hv (by decide) (Nat.le_of_ble_eq_true rfl) ?_
  show Go l RX8 cX8_isHung 3 (g_rm (d + 1) 0 0) "isHung" (some .boolean) 117 0 0 (fun _ _ => True) (fun r h' => ∃ v : Int32, r = some (.int v) ∧ 0 ≤ v.toInt ∧ v.toInt ≤ 1 ∧ h = h' ∧ ((v.toInt = 1 → hb h.2.1 a2.toInt a3.toInt) ∧ (v.toInt = 0 → ¬ hb h.2.1 a2.toInt a3.toInt)) ∧ (v.toInt = f_X8_isHung_x2 (st h) a2.toInt a3.toInt)) 0 0 [(0, .ref 70), (1, .int a2), (2, .int a3)] [] h
  obtain ⟨fin, kf⟩ : ∃ z, z = f_X8_isHung_x2 (st h) a2.toInt a3.toInt := ⟨_, _root_.rfl⟩
  have k0 := kf
  unfold f_X8_isHung_x2 at k0
  refine go_aload_n (pc := 0) rfl dX8_isHung_0 ?_
  refine gi_getF (pc := 1) (q := 103) hv fL_X8_108 rfl (Nat.le_of_ble_eq_true rfl) rfl (hv.rf (by decide)) dX8_isHung_1 ?_
  refine go_bipush (pc := 4) (v := 19) (by decide) dX8_isHung_4 ?_
  refine go_iload_n (pc := 6) rfl dX8_isHung_6 ?_
  refine gf_imul (pc := 7) (ti_c (v := 19) (a := 19) (by decide)) (ti_rfl a2) (by omega) (by omega) dX8_isHung_7 (fun v1 e2 => ?_)
  refine go_iload_n (pc := 8) rfl dX8_isHung_8 ?_
  refine go_bipush (pc := 9) (v := 32) (by decide) dX8_isHung_9 ?_
  refine gf_idiv (pc := 11) (ti_rfl a3) (ti_c (v := 32) (a := 32) (by decide)) (by omega) (by omega) dX8_isHung_11 (fun v3 e4 => ?_)
  refine gf_iadd (pc := 12) e2 e4 (by omega) (by omega) dX8_isHung_12 (fun v5 e6 => ?_)
  refine gi_iald (pc := 13) (lo := -2147483648) (hi := 2147483647) (len := 11115) hv e6 rfl (by omega) (by omega) (fun _ => rfl) dX8_isHung_13 (fun v7 v7l v7u v7w => ?_)
  have k8 := bd_e k0 (congrArg Int32.toInt v7w.symm)
  refine go_iload_n (pc := 14) rfl dX8_isHung_14 ?_
  refine go_bipush (pc := 15) (v := 32) (by decide) dX8_isHung_15 ?_
  refine gf_irem (pc := 17) (ti_rfl a3) (ti_c (v := 32) (a := 32) (by decide)) (by omega) (by omega) dX8_isHung_17 (fun v9 e10 => ?_)
  refine gx_iushr (pc := 18) dX8_isHung_18 (fun v11 v11x => ?_)
  have k12 := bd_e k8 (so_iushr (ti_rfl v7) e10 v11x)
  refine go_iconst (pc := 19) (v := 1) (by decide) dX8_isHung_19 ?_
  refine gx_iand (pc := 20) dX8_isHung_20 (fun v13 v13x => ?_)
  have v13l : 0 ≤ v13.toInt := by rw [v13x]; exact (ti_mask (ti_c (v := 1) (a := 1) (by decide)) (by omega)).1
  have v13u : v13.toInt ≤ 1 := by rw [v13x]; exact (ti_mask (ti_c (v := 1) (a := 1) (by decide)) (by omega)).2
  have k14 := bd_e k12 (so_iand (ti_rfl v11) (ti_c (v := 1) (a := 1) (by decide)) v13x)
  refine go_iconst (pc := 21) (v := 1) (by decide) dX8_isHung_21 ?_
  refine gf_icmp_ne (pc := 22) (tgt := 29) (ti_rfl v13) (ti_c (v := 1) (a := 1) (by decide)) (by decide) dX8_isHung_22 (fun q15 => ?_) (fun q15 => ?_)
  ·
    have k16 := if_t k14 q15
    refine go_iconst (pc := 29) (v := 0) (by decide) dX8_isHung_29 ?_
    exact gi_zret (pc := 30) (ti_c (v := 0) (a := 0) (by decide)) (by omega) (by omega) ⟨_, rfl, (by rw [show (0 : Int32).toInt = 0 from (ti_c (v := 0) (a := 0) (by decide))]; omega), (by rw [show (0 : Int32).toInt = 0 from (ti_c (v := 0) (a := 0) (by decide))]; omega), rfl, ⟨fun q => absurd q (by decide), fun _ q => absurd (show (v13 : Int32).toInt = 1 from by rw [v13x, v11x]; exact (ur_bit (by rw [(show (v9 : Int32).toInt = (a3.toInt % 32) from e10)]; omega) (by rw [(show (v9 : Int32).toInt = (a3.toInt % 32) from e10)]; omega)).mpr (by rw [(show (v9 : Int32).toInt = (a3.toInt % 32) from e10), v7w]; exact q)) (by omega)⟩, (by rw [show (0 : Int32).toInt = 0 from (ti_c (v := 0) (a := 0) (by decide))]; exact k16.symm.trans kf)⟩ hv dX8_isHung_30
  ·
    have k17 := if_f k14 (fun z => z q15)
    refine go_iconst (pc := 25) (v := 1) (by decide) dX8_isHung_25 ?_
    refine go_goto (pc := 26) (tgt := 30) (by decide) dX8_isHung_26 ?_
    exact gi_zret (pc := 30) (ti_c (v := 1) (a := 1) (by decide)) (by omega) (by omega) ⟨_, rfl, (by rw [show (1 : Int32).toInt = 1 from (ti_c (v := 1) (a := 1) (by decide))]; omega), (by rw [show (1 : Int32).toInt = 1 from (ti_c (v := 1) (a := 1) (by decide))]; omega), rfl, ⟨fun _ => (by unfold hb; rw [← v7w, ← (show (v9 : Int32).toInt = (a3.toInt % 32) from e10)]; exact (ur_bit (by rw [(show (v9 : Int32).toInt = (a3.toInt % 32) from e10)]; omega) (by rw [(show (v9 : Int32).toInt = (a3.toInt % 32) from e10)]; omega)).mp (by rw [← v11x, ← v13x]; omega)), fun q => absurd q (by decide)⟩, (by rw [show (1 : Int32).toInt = 1 from (ti_c (v := 1) (a := 1) (by decide))]; exact k17.symm.trans kf)⟩ hv dX8_isHung_30
def f_X8_isHung2 (s : ST) (a2 : Int) (a3 : Int) : Int :=
  bd (s.1 103 (((19 * a2) + (a3 / 32))).toNat) fun v7 => bd (o_iushr v7 ((a3 % 32))) fun v11 => bd (o_iand v11 1) fun v13 => if ¬ v13 = 1 then (0) else (1)
set_option maxHeartbeats 4000000 in
set_option maxRecDepth 100000 in
theorem s_X8_isHung2_f (l : Launch) (d : Nat) {P : PP} {h : HP} (hv : Iv P h) (a2 : Int32) (a2l : 0 ≤ a2.toInt) (a2u : a2.toInt ≤ 584) (a3 : Int32) (a3l : 0 ≤ a3.toInt) (a3u : a3.toInt ≤ 584) : Mt l yX8_isHung cX8_isHung 3 (some .boolean) (d + 1) [.ref 70, .int a2, .int a3] h 0 0 (fun r h' => ∃ v : Int32, r = some (.int v) ∧ 0 ≤ v.toInt ∧ v.toInt ≤ 1 ∧ h = h' ∧ (v.toInt = f_X8_isHung2 (st h) a2.toInt a3.toInt)) := by
  refine Mt_iv hv (by decide) (Nat.le_of_ble_eq_true rfl) ?_
  show Go l RX8 cX8_isHung 3 (g_rm (d + 1) 0 0) "isHung" (some .boolean) 117 0 0 (fun _ _ => True) (fun r h' => ∃ v : Int32, r = some (.int v) ∧ 0 ≤ v.toInt ∧ v.toInt ≤ 1 ∧ h = h' ∧ (v.toInt = f_X8_isHung2 (st h) a2.toInt a3.toInt)) 0 0 [(0, .ref 70), (1, .int a2), (2, .int a3)] [] h
  obtain ⟨fin, kf⟩ : ∃ z, z = f_X8_isHung2 (st h) a2.toInt a3.toInt := ⟨_, _root_.rfl⟩
  have k0 := kf
  unfold f_X8_isHung2 at k0
  refine go_aload_n (pc := 0) rfl dX8_isHung_0 ?_
  refine gi_getF (pc := 1) (q := 103) hv fL_X8_108 rfl (Nat.le_of_ble_eq_true rfl) rfl (hv.rf (by decide)) dX8_isHung_1 ?_
  refine go_bipush (pc := 4) (v := 19) (by decide) dX8_isHung_4 ?_
  refine go_iload_n (pc := 6) rfl dX8_isHung_6 ?_
  refine gf_imul (pc := 7) (ti_c (v := 19) (a := 19) (by decide)) (ti_rfl a2) (by omega) (by omega) dX8_isHung_7 (fun v1 e2 => ?_)
  refine go_iload_n (pc := 8) rfl dX8_isHung_8 ?_
  refine go_bipush (pc := 9) (v := 32) (by decide) dX8_isHung_9 ?_
  refine gf_idiv (pc := 11) (ti_rfl a3) (ti_c (v := 32) (a := 32) (by decide)) (by omega) (by omega) dX8_isHung_11 (fun v3 e4 => ?_)
  refine gf_iadd (pc := 12) e2 e4 (by omega) (by omega) dX8_isHung_12 (fun v5 e6 => ?_)
  refine gi_iald (pc := 13) (lo := -2147483648) (hi := 2147483647) (len := 11115) hv e6 rfl (by omega) (by omega) (fun _ => rfl) dX8_isHung_13 (fun v7 v7l v7u v7w => ?_)
  have k8 := bd_e k0 (congrArg Int32.toInt v7w.symm)
  refine go_iload_n (pc := 14) rfl dX8_isHung_14 ?_
  refine go_bipush (pc := 15) (v := 32) (by decide) dX8_isHung_15 ?_
  refine gf_irem (pc := 17) (ti_rfl a3) (ti_c (v := 32) (a := 32) (by decide)) (by omega) (by omega) dX8_isHung_17 (fun v9 e10 => ?_)
  refine gx_iushr (pc := 18) dX8_isHung_18 (fun v11 v11x => ?_)
  have k12 := bd_e k8 (so_iushr (ti_rfl v7) e10 v11x)
  refine go_iconst (pc := 19) (v := 1) (by decide) dX8_isHung_19 ?_
  refine gx_iand (pc := 20) dX8_isHung_20 (fun v13 v13x => ?_)
  have v13l : 0 ≤ v13.toInt := by rw [v13x]; exact (ti_mask (ti_c (v := 1) (a := 1) (by decide)) (by omega)).1
  have v13u : v13.toInt ≤ 1 := by rw [v13x]; exact (ti_mask (ti_c (v := 1) (a := 1) (by decide)) (by omega)).2
  have k14 := bd_e k12 (so_iand (ti_rfl v11) (ti_c (v := 1) (a := 1) (by decide)) v13x)
  refine go_iconst (pc := 21) (v := 1) (by decide) dX8_isHung_21 ?_
  refine gf_icmp_ne (pc := 22) (tgt := 29) (ti_rfl v13) (ti_c (v := 1) (a := 1) (by decide)) (by decide) dX8_isHung_22 (fun q15 => ?_) (fun q15 => ?_)
  ·
    have k16 := if_t k14 q15
    refine go_iconst (pc := 29) (v := 0) (by decide) dX8_isHung_29 ?_
    exact gi_zret (pc := 30) (ti_c (v := 0) (a := 0) (by decide)) (by omega) (by omega) ⟨_, rfl, (by rw [show (0 : Int32).toInt = 0 from (ti_c (v := 0) (a := 0) (by decide))]; omega), (by rw [show (0 : Int32).toInt = 0 from (ti_c (v := 0) (a := 0) (by decide))]; omega), rfl, (by rw [show (0 : Int32).toInt = 0 from (ti_c (v := 0) (a := 0) (by decide))]; exact k16.symm.trans kf)⟩ hv dX8_isHung_30
  ·
    have k17 := if_f k14 (fun z => z q15)
    refine go_iconst (pc := 25) (v := 1) (by decide) dX8_isHung_25 ?_
    refine go_goto (pc := 26) (tgt := 30) (by decide) dX8_isHung_26 ?_
    exact gi_zret (pc := 30) (ti_c (v := 1) (a := 1) (by decide)) (by omega) (by omega) ⟨_, rfl, (by rw [show (1 : Int32).toInt = 1 from (ti_c (v := 1) (a := 1) (by decide))]; omega), (by rw [show (1 : Int32).toInt = 1 from (ti_c (v := 1) (a := 1) (by decide))]; omega), rfl, (by rw [show (1 : Int32).toInt = 1 from (ti_c (v := 1) (a := 1) (by decide))]; exact k17.symm.trans kf)⟩ hv dX8_isHung_30
def f_X8_procedureOf2 (s : ST) (a2 : Int) : Int :=
  bd (f_X8_item2 s a2) fun v4 => bd (s.1 79 (v4).toNat) fun v6 => v6
set_option maxHeartbeats 4000000 in
set_option maxRecDepth 100000 in
theorem s_X8_procedureOf2_f (l : Launch) (d : Nat) {P : PP} {h : HP} (hv : Iv P h) (a2 : Int32) (a2l : 0 ≤ a2.toInt) (a2u : a2.toInt ≤ 39) : Mt l yX8_procedureOf cX8_procedureOf 2 (some .int) (d + 2) [.ref 70, .int a2] h 0 0 (fun r h' => ∃ v : Int32, r = some (.int v) ∧ 0 ≤ v.toInt ∧ v.toInt ≤ 4 ∧ h = h' ∧ (v.toInt = f_X8_procedureOf2 (st h) a2.toInt)) := by
  refine Mt_iv hv (by decide) (Nat.le_of_ble_eq_true rfl) ?_
  show Go l RX8 cX8_procedureOf 2 (g_rm (d + 2) 0 0) "procedureOf" (some .int) 117 0 0 (fun _ _ => True) (fun r h' => ∃ v : Int32, r = some (.int v) ∧ 0 ≤ v.toInt ∧ v.toInt ≤ 4 ∧ h = h' ∧ (v.toInt = f_X8_procedureOf2 (st h) a2.toInt)) 0 0 [(0, .ref 70), (1, .int a2)] [] h
  obtain ⟨fin, kf⟩ : ∃ z, z = f_X8_procedureOf2 (st h) a2.toInt := ⟨_, _root_.rfl⟩
  have k0 := kf
  unfold f_X8_procedureOf2 at k0
  refine go_aload_n (pc := 0) rfl dX8_procedureOf_0 ?_
  refine gi_getF (pc := 1) (q := 79) hv fL_X8_35 rfl (Nat.le_of_ble_eq_true rfl) rfl (hv.rf (by decide)) dX8_procedureOf_1 ?_
  refine go_aload_n (pc := 4) rfl dX8_procedureOf_4 ?_
  refine go_iload_n (pc := 5) rfl dX8_procedureOf_5 ?_
  refine go_invV (pc := 6) (sl := 0) (s_X8_item2_f l (d + 0) hv a2 (by rw [show (a2 : Int32).toInt = a2.toInt from (ti_rfl a2)]; omega) (by rw [show (a2 : Int32).toInt = a2.toInt from (ti_rfl a2)]; omega)) mL_X8_268 iM_X8_item sM_X8_item (hv.sh rfl) rfl rfl rfl (Nat.le_of_ble_eq_true rfl) (show d + 0 + 1 + 1 ≤ d + 2 by omega) (show 8 + (2 + 11) + 40 * (d + 0 + 1) ≤ 40 * (d + 2) by omega) (g_c0 hv.ln) (Nat.le_of_ble_eq_true rfl) dX8_procedureOf_6 ?_
  intro r h1 hq _
  obtain ⟨v4, rfl, v4l, v4u, rfl, f2, f3⟩ := hq
  replace f3 : PE _ _ := f3
  have k5 := bd_e k0 f3.symm
  refine gi_iald (pc := 9) (lo := 0) (hi := 4) (len := 260) hv (ti_rfl v4) rfl (by omega) (by omega) (fun _ => rfl) dX8_procedureOf_9 (fun v6 v6l v6u v6w => ?_)
  have k7 := bd_e k5 (congrArg Int32.toInt v6w.symm)
  exact gi_iret (pc := 10) (ti_rfl v6) ⟨_, rfl, (by rw [show (v6 : Int32).toInt = v6.toInt from (ti_rfl v6)]; omega), (by rw [show (v6 : Int32).toInt = v6.toInt from (ti_rfl v6)]; omega), rfl, (k7.symm.trans kf)⟩ hv dX8_procedureOf_10
def f_X8_tells2 (s : ST) (a2 : Int) (a3 : Int) (a4 : Int) : Int :=
  bd (f_X8_item2 s a2) fun v4 => bd (s.1 70 6) fun v6 => bd (s.1 99 (((40 * v6) + a2)).toNat) fun v12 => bd (s.1 77 (v4).toNat) fun v14 => if v14 = 0 then (bd (s.1 82 (v4).toNat) fun v18 => if ¬ v18 = a4 then ((-1)) else (bd (f_X8_statementPlace2 s a2 0) fun v25 => v25)) else if v14 = 1 then (if a4 < 6 then (if ¬ a3 = 0 then (if ¬ v12 = a4 then ((-1)) else (bd (f_X8_statementPlace2 s a2 7) fun v39 => v39)) else (bd (s.1 82 (v4).toNat) fun v42 => if ¬ v42 = a4 then ((-1)) else (bd (f_X8_statementPlace2 s a2 7) fun v49 => v49))) else (bd (f_X8_statementPlace2 s a2 (((7 + a4) - 4))) fun v58 => v58)) else if v14 = 2 then ((-1)) else if v14 = 3 then ((-1)) else if v14 = 4 then (if ¬ v12 = a4 then ((-1)) else (bd (f_X8_statementPlace2 s a2 0) fun v74 => v74)) else (-1)
set_option maxHeartbeats 4000000 in
set_option maxRecDepth 100000 in
theorem s_X8_tells2_f (l : Launch) (d : Nat) {P : PP} {h : HP} (hv : Iv P h) (a2 : Int32) (a2l : 0 ≤ a2.toInt) (a2u : a2.toInt ≤ 39) (a3 : Int32) (a4 : Int32) (a4l : 0 ≤ a4.toInt) (a4u : a4.toInt ≤ 9) : Mt l yX8_tells cX8_tells 6 (some .int) (d + 2) [.ref 70, .int a2, .int a3, .int a4] h 0 0 (fun r h' => ∃ v : Int32, r = some (.int v) ∧ -1 ≤ v.toInt ∧ v.toInt ≤ 519 ∧ h = h' ∧ (v.toInt = f_X8_tells2 (st h) a2.toInt a3.toInt a4.toInt)) := by
  refine Mt_iv hv (by decide) (Nat.le_of_ble_eq_true rfl) ?_
  show Go l RX8 cX8_tells 6 (g_rm (d + 2) 0 0) "tells" (some .int) 117 0 0 (fun _ _ => True) (fun r h' => ∃ v : Int32, r = some (.int v) ∧ -1 ≤ v.toInt ∧ v.toInt ≤ 519 ∧ h = h' ∧ (v.toInt = f_X8_tells2 (st h) a2.toInt a3.toInt a4.toInt)) 0 0 [(0, .ref 70), (1, .int a2), (2, .int a3), (3, .int a4)] [] h
  obtain ⟨fin, kf⟩ : ∃ z, z = f_X8_tells2 (st h) a2.toInt a3.toInt a4.toInt := ⟨_, _root_.rfl⟩
  have k0 := kf
  unfold f_X8_tells2 at k0
  refine go_aload_n (pc := 0) rfl dX8_tells_0 ?_
  refine go_iload_n (pc := 1) rfl dX8_tells_1 ?_
  refine go_invV (pc := 2) (sl := 0) (s_X8_item2_f l (d + 0) hv a2 (by rw [show (a2 : Int32).toInt = a2.toInt from (ti_rfl a2)]; omega) (by rw [show (a2 : Int32).toInt = a2.toInt from (ti_rfl a2)]; omega)) mL_X8_268 iM_X8_item sM_X8_item (hv.sh rfl) rfl rfl rfl (Nat.le_of_ble_eq_true rfl) (show d + 0 + 1 + 1 ≤ d + 2 by omega) (show 8 + (2 + 11) + 40 * (d + 0 + 1) ≤ 40 * (d + 2) by omega) (g_c0 hv.ln) (Nat.le_of_ble_eq_true rfl) dX8_tells_2 ?_
  intro r h1 hq _
  obtain ⟨v4, rfl, v4l, v4u, rfl, f2, f3⟩ := hq
  replace f3 : PE _ _ := f3
  have k5 := bd_e k0 f3.symm
  refine go_istore (pc := 5) (Nat.le_of_ble_eq_true rfl) dX8_tells_5 (go_lv (lv2 := [(0, .ref 70), (1, .int a2), (2, .int a3), (3, .int a4), (4, .int v4)]) rfl ?_)
  refine go_aload_n (pc := 7) rfl dX8_tells_7 ?_
  refine gi_getF (pc := 8) (q := 99) hv fL_X8_95 rfl (Nat.le_of_ble_eq_true rfl) rfl (hv.rf (by decide)) dX8_tells_8 ?_
  refine go_bipush (pc := 11) (v := 40) (by decide) dX8_tells_11 ?_
  refine go_aload_n (pc := 13) rfl dX8_tells_13 ?_
  refine gi_get (pc := 14) (lo := 0) (hi := 1) hv fL_X8_187 rfl (Nat.le_of_ble_eq_true rfl) rfl rfl dX8_tells_14 (fun v6 v6l v6u v6w => ?_)
  have k7 := bd_e k5 (congrArg Int32.toInt v6w.symm)
  refine gf_imul (pc := 17) (ti_c (v := 40) (a := 40) (by decide)) (ti_rfl v6) (by omega) (by omega) dX8_tells_17 (fun v8 e9 => ?_)
  refine go_iload_n (pc := 18) rfl dX8_tells_18 ?_
  refine gf_iadd (pc := 19) e9 (ti_rfl a2) (by omega) (by omega) dX8_tells_19 (fun v10 e11 => ?_)
  refine gi_iald (pc := 20) (lo := -1) (hi := 5) (len := 80) hv e11 rfl (by omega) (by omega) (fun _ => rfl) dX8_tells_20 (fun v12 v12l v12u v12w => ?_)
  have k13 := bd_e k7 (congrArg Int32.toInt v12w.symm)
  refine go_istore (pc := 21) (Nat.le_of_ble_eq_true rfl) dX8_tells_21 (go_lv (lv2 := [(0, .ref 70), (1, .int a2), (2, .int a3), (3, .int a4), (4, .int v4), (5, .int v12)]) rfl ?_)
  refine go_aload_n (pc := 23) rfl dX8_tells_23 ?_
  refine gi_getF (pc := 24) (q := 77) hv fL_X8_29 rfl (Nat.le_of_ble_eq_true rfl) rfl (hv.rf (by decide)) dX8_tells_24 ?_
  refine go_iload (pc := 27) rfl dX8_tells_27 ?_
  refine gi_iald (pc := 29) (lo := 0) (hi := 6) (len := 260) hv (ti_rfl v4) rfl (by omega) (by omega) (fun _ => rfl) dX8_tells_29 (fun v14 v14l v14u v14w => ?_)
  have k15 := bd_e k13 (congrArg Int32.toInt v14w.symm)
  by_cases q16 : v14.toInt = 0
  ·
    refine go_tableIn (pc := 30) (tgt := 64) (off := 34) (by rw [show (v14 : Int32).toInt = v14.toInt from (ti_rfl v14)]; omega) (by rw [show (v14 : Int32).toInt = v14.toInt from (ti_rfl v14)]; omega) (by rw [show (v14 : Int32).toInt = v14.toInt from (ti_rfl v14), q16]; rfl) (by decide) dX8_tells_30 ?_
    have k17 := if_t k15 q16
    refine go_aload_n (pc := 64) rfl dX8_tells_64 ?_
    refine gi_getF (pc := 65) (q := 82) hv fL_X8_44 rfl (Nat.le_of_ble_eq_true rfl) rfl (hv.rf (by decide)) dX8_tells_65 ?_
    refine go_iload (pc := 68) rfl dX8_tells_68 ?_
    refine gi_iald (pc := 70) (lo := -1) (hi := 9) (len := 260) hv (ti_rfl v4) rfl (by omega) (by omega) (fun _ => rfl) dX8_tells_70 (fun v18 v18l v18u v18w => ?_)
    have k19 := bd_e k17 (congrArg Int32.toInt v18w.symm)
    refine go_iload_n (pc := 71) rfl dX8_tells_71 ?_
    refine gf_icmp_ne (pc := 72) (tgt := 83) (ti_rfl v18) (ti_rfl a4) (by decide) dX8_tells_72 (fun q20 => ?_) (fun q20 => ?_)
    ·
      have k21 := if_t k19 q20
      refine go_iconst (pc := 83) (v := (-1)) (by decide) dX8_tells_83 ?_
      exact gi_iret (pc := 84) (ti_c (v := (-1)) (a := (-1)) (by decide)) ⟨_, rfl, (by rw [show ((-1) : Int32).toInt = (-1) from (ti_c (v := (-1)) (a := (-1)) (by decide))]; omega), (by rw [show ((-1) : Int32).toInt = (-1) from (ti_c (v := (-1)) (a := (-1)) (by decide))]; omega), rfl, (by rw [show ((-1) : Int32).toInt = (-1) from (ti_c (v := (-1)) (a := (-1)) (by decide))]; exact k21.symm.trans kf)⟩ hv dX8_tells_84
    ·
      have k22 := if_f k19 (fun z => z q20)
      refine go_iload_n (pc := 75) rfl dX8_tells_75 ?_
      refine go_iconst (pc := 76) (v := 0) (by decide) dX8_tells_76 ?_
      refine go_invS (pc := 77) (sl := 0) (s_X8_statementPlace2_f l (d + 0) hv a2 (by rw [show (a2 : Int32).toInt = a2.toInt from (ti_rfl a2)]; omega) (by rw [show (a2 : Int32).toInt = a2.toInt from (ti_rfl a2)]; omega) 0 (by rw [show (0 : Int32).toInt = 0 from (ti_c (v := 0) (a := 0) (by decide))]; omega) (by rw [show (0 : Int32).toInt = 0 from (ti_c (v := 0) (a := 0) (by decide))]; omega)) mL_X8_291 iM_X8_statementPlace rfl rfl (Nat.le_of_ble_eq_true rfl) (show d + 0 + 1 + 1 ≤ d + 2 by omega) (show 8 + (2 + 11) + 40 * (d + 0 + 1) ≤ 40 * (d + 2) by omega) (g_c0 hv.ln) (Nat.le_of_ble_eq_true rfl) dX8_tells_77 ?_
      intro r h23 hq _
      obtain ⟨v25, rfl, v25l, v25u, rfl, f24⟩ := hq
      try rw [show (0 : Int32).toInt = 0 from (ti_c (v := 0) (a := 0) (by decide))] at f24
      replace f24 : PE _ _ := f24
      have k26 := bd_e k22 f24.symm
      refine go_goto (pc := 80) (tgt := 84) (by decide) dX8_tells_80 ?_
      exact gi_iret (pc := 84) (ti_rfl v25) ⟨_, rfl, (by rw [show (v25 : Int32).toInt = v25.toInt from (ti_rfl v25)]; omega), (by rw [show (v25 : Int32).toInt = v25.toInt from (ti_rfl v25)]; omega), rfl, (k26.symm.trans kf)⟩ hv dX8_tells_84
  have k27 := if_f k15 q16
  by_cases q28 : v14.toInt = 1
  ·
    refine go_tableIn (pc := 30) (tgt := 101) (off := 71) (by rw [show (v14 : Int32).toInt = v14.toInt from (ti_rfl v14)]; omega) (by rw [show (v14 : Int32).toInt = v14.toInt from (ti_rfl v14)]; omega) (by rw [show (v14 : Int32).toInt = v14.toInt from (ti_rfl v14), q28]; rfl) (by decide) dX8_tells_30 ?_
    have k29 := if_t k27 q28
    refine go_iload_n (pc := 101) rfl dX8_tells_101 ?_
    refine go_bipush (pc := 102) (v := 6) (by decide) dX8_tells_102 ?_
    refine gf_icmp_lt (pc := 104) (tgt := 118) (ti_rfl a4) (ti_c (v := 6) (a := 6) (by decide)) (by decide) dX8_tells_104 (fun q30 => ?_) (fun q30 => ?_)
    ·
      have k31 := if_t k29 q30
      refine go_iload_n (pc := 118) rfl dX8_tells_118 ?_
      refine gf_if_ne (pc := 119) (tgt := 132) (ti_rfl a3) (by decide) dX8_tells_119 (fun q32 => ?_) (fun q32 => ?_)
      ·
        have k33 := if_t k31 q32
        refine go_iload (pc := 132) rfl dX8_tells_132 ?_
        refine go_iload_n (pc := 134) rfl dX8_tells_134 ?_
        refine gf_icmp_ne (pc := 135) (tgt := 147) (ti_rfl v12) (ti_rfl a4) (by decide) dX8_tells_135 (fun q34 => ?_) (fun q34 => ?_)
        ·
          have k35 := if_t k33 q34
          refine go_iconst (pc := 147) (v := (-1)) (by decide) dX8_tells_147 ?_
          exact gi_iret (pc := 148) (ti_c (v := (-1)) (a := (-1)) (by decide)) ⟨_, rfl, (by rw [show ((-1) : Int32).toInt = (-1) from (ti_c (v := (-1)) (a := (-1)) (by decide))]; omega), (by rw [show ((-1) : Int32).toInt = (-1) from (ti_c (v := (-1)) (a := (-1)) (by decide))]; omega), rfl, (by rw [show ((-1) : Int32).toInt = (-1) from (ti_c (v := (-1)) (a := (-1)) (by decide))]; exact k35.symm.trans kf)⟩ hv dX8_tells_148
        ·
          have k36 := if_f k33 (fun z => z q34)
          refine go_iload_n (pc := 138) rfl dX8_tells_138 ?_
          refine go_bipush (pc := 139) (v := 7) (by decide) dX8_tells_139 ?_
          refine go_invS (pc := 141) (sl := 0) (s_X8_statementPlace2_f l (d + 0) hv a2 (by rw [show (a2 : Int32).toInt = a2.toInt from (ti_rfl a2)]; omega) (by rw [show (a2 : Int32).toInt = a2.toInt from (ti_rfl a2)]; omega) 7 (by rw [show (7 : Int32).toInt = 7 from (ti_c (v := 7) (a := 7) (by decide))]; omega) (by rw [show (7 : Int32).toInt = 7 from (ti_c (v := 7) (a := 7) (by decide))]; omega)) mL_X8_291 iM_X8_statementPlace rfl rfl (Nat.le_of_ble_eq_true rfl) (show d + 0 + 1 + 1 ≤ d + 2 by omega) (show 8 + (2 + 11) + 40 * (d + 0 + 1) ≤ 40 * (d + 2) by omega) (g_c0 hv.ln) (Nat.le_of_ble_eq_true rfl) dX8_tells_141 ?_
          intro r h37 hq _
          obtain ⟨v39, rfl, v39l, v39u, rfl, f38⟩ := hq
          try rw [show (7 : Int32).toInt = 7 from (ti_c (v := 7) (a := 7) (by decide))] at f38
          replace f38 : PE _ _ := f38
          have k40 := bd_e k36 f38.symm
          refine go_goto (pc := 144) (tgt := 148) (by decide) dX8_tells_144 ?_
          exact gi_iret (pc := 148) (ti_rfl v39) ⟨_, rfl, (by rw [show (v39 : Int32).toInt = v39.toInt from (ti_rfl v39)]; omega), (by rw [show (v39 : Int32).toInt = v39.toInt from (ti_rfl v39)]; omega), rfl, (k40.symm.trans kf)⟩ hv dX8_tells_148
      ·
        have k41 := if_f k31 (fun z => z q32)
        refine go_aload_n (pc := 122) rfl dX8_tells_122 ?_
        refine gi_getF (pc := 123) (q := 82) hv fL_X8_44 rfl (Nat.le_of_ble_eq_true rfl) rfl (hv.rf (by decide)) dX8_tells_123 ?_
        refine go_iload (pc := 126) rfl dX8_tells_126 ?_
        refine gi_iald (pc := 128) (lo := -1) (hi := 9) (len := 260) hv (ti_rfl v4) rfl (by omega) (by omega) (fun _ => rfl) dX8_tells_128 (fun v42 v42l v42u v42w => ?_)
        have k43 := bd_e k41 (congrArg Int32.toInt v42w.symm)
        refine go_goto (pc := 129) (tgt := 134) (by decide) dX8_tells_129 ?_
        refine go_iload_n (pc := 134) rfl dX8_tells_134 ?_
        refine gf_icmp_ne (pc := 135) (tgt := 147) (ti_rfl v42) (ti_rfl a4) (by decide) dX8_tells_135 (fun q44 => ?_) (fun q44 => ?_)
        ·
          have k45 := if_t k43 q44
          refine go_iconst (pc := 147) (v := (-1)) (by decide) dX8_tells_147 ?_
          exact gi_iret (pc := 148) (ti_c (v := (-1)) (a := (-1)) (by decide)) ⟨_, rfl, (by rw [show ((-1) : Int32).toInt = (-1) from (ti_c (v := (-1)) (a := (-1)) (by decide))]; omega), (by rw [show ((-1) : Int32).toInt = (-1) from (ti_c (v := (-1)) (a := (-1)) (by decide))]; omega), rfl, (by rw [show ((-1) : Int32).toInt = (-1) from (ti_c (v := (-1)) (a := (-1)) (by decide))]; exact k45.symm.trans kf)⟩ hv dX8_tells_148
        ·
          have k46 := if_f k43 (fun z => z q44)
          refine go_iload_n (pc := 138) rfl dX8_tells_138 ?_
          refine go_bipush (pc := 139) (v := 7) (by decide) dX8_tells_139 ?_
          refine go_invS (pc := 141) (sl := 0) (s_X8_statementPlace2_f l (d + 0) hv a2 (by rw [show (a2 : Int32).toInt = a2.toInt from (ti_rfl a2)]; omega) (by rw [show (a2 : Int32).toInt = a2.toInt from (ti_rfl a2)]; omega) 7 (by rw [show (7 : Int32).toInt = 7 from (ti_c (v := 7) (a := 7) (by decide))]; omega) (by rw [show (7 : Int32).toInt = 7 from (ti_c (v := 7) (a := 7) (by decide))]; omega)) mL_X8_291 iM_X8_statementPlace rfl rfl (Nat.le_of_ble_eq_true rfl) (show d + 0 + 1 + 1 ≤ d + 2 by omega) (show 8 + (2 + 11) + 40 * (d + 0 + 1) ≤ 40 * (d + 2) by omega) (g_c0 hv.ln) (Nat.le_of_ble_eq_true rfl) dX8_tells_141 ?_
          intro r h47 hq _
          obtain ⟨v49, rfl, v49l, v49u, rfl, f48⟩ := hq
          try rw [show (7 : Int32).toInt = 7 from (ti_c (v := 7) (a := 7) (by decide))] at f48
          replace f48 : PE _ _ := f48
          have k50 := bd_e k46 f48.symm
          refine go_goto (pc := 144) (tgt := 148) (by decide) dX8_tells_144 ?_
          exact gi_iret (pc := 148) (ti_rfl v49) ⟨_, rfl, (by rw [show (v49 : Int32).toInt = v49.toInt from (ti_rfl v49)]; omega), (by rw [show (v49 : Int32).toInt = v49.toInt from (ti_rfl v49)]; omega), rfl, (k50.symm.trans kf)⟩ hv dX8_tells_148
    ·
      have k51 := if_f k29 (Int.not_lt.mpr q30)
      refine go_iload_n (pc := 107) rfl dX8_tells_107 ?_
      refine go_bipush (pc := 108) (v := 7) (by decide) dX8_tells_108 ?_
      refine go_iload_n (pc := 110) rfl dX8_tells_110 ?_
      refine gf_iadd (pc := 111) (ti_c (v := 7) (a := 7) (by decide)) (ti_rfl a4) (by omega) (by omega) dX8_tells_111 (fun v52 e53 => ?_)
      refine go_iconst (pc := 112) (v := 4) (by decide) dX8_tells_112 ?_
      refine gf_isub (pc := 113) e53 (ti_c (v := 4) (a := 4) (by decide)) (by omega) (by omega) dX8_tells_113 (fun v54 e55 => ?_)
      refine go_invS (pc := 114) (sl := 0) (s_X8_statementPlace2_f l (d + 0) hv a2 (by rw [show (a2 : Int32).toInt = a2.toInt from (ti_rfl a2)]; omega) (by rw [show (a2 : Int32).toInt = a2.toInt from (ti_rfl a2)]; omega) v54 (by rw [show (v54 : Int32).toInt = ((7 + a4.toInt) - 4) from e55]; omega) (by rw [show (v54 : Int32).toInt = ((7 + a4.toInt) - 4) from e55]; omega)) mL_X8_291 iM_X8_statementPlace rfl rfl (Nat.le_of_ble_eq_true rfl) (show d + 0 + 1 + 1 ≤ d + 2 by omega) (show 8 + (2 + 11) + 40 * (d + 0 + 1) ≤ 40 * (d + 2) by omega) (g_c0 hv.ln) (Nat.le_of_ble_eq_true rfl) dX8_tells_114 ?_
      intro r h56 hq _
      obtain ⟨v58, rfl, v58l, v58u, rfl, f57⟩ := hq
      try rw [show (v54 : Int32).toInt = ((7 + a4.toInt) - 4) from e55] at f57
      replace f57 : PE _ _ := f57
      have k59 := bd_e k51 f57.symm
      exact gi_iret (pc := 117) (ti_rfl v58) ⟨_, rfl, (by rw [show (v58 : Int32).toInt = v58.toInt from (ti_rfl v58)]; omega), (by rw [show (v58 : Int32).toInt = v58.toInt from (ti_rfl v58)]; omega), rfl, (k59.symm.trans kf)⟩ hv dX8_tells_117
  have k60 := if_f k27 q28
  by_cases q61 : v14.toInt = 2
  ·
    refine go_tableIn (pc := 30) (tgt := 149) (off := 119) (by rw [show (v14 : Int32).toInt = v14.toInt from (ti_rfl v14)]; omega) (by rw [show (v14 : Int32).toInt = v14.toInt from (ti_rfl v14)]; omega) (by rw [show (v14 : Int32).toInt = v14.toInt from (ti_rfl v14), q61]; rfl) (by decide) dX8_tells_30 ?_
    have k62 := if_t k60 q61
    refine go_iconst (pc := 149) (v := (-1)) (by decide) dX8_tells_149 ?_
    exact gi_iret (pc := 150) (ti_c (v := (-1)) (a := (-1)) (by decide)) ⟨_, rfl, (by rw [show ((-1) : Int32).toInt = (-1) from (ti_c (v := (-1)) (a := (-1)) (by decide))]; omega), (by rw [show ((-1) : Int32).toInt = (-1) from (ti_c (v := (-1)) (a := (-1)) (by decide))]; omega), rfl, (by rw [show ((-1) : Int32).toInt = (-1) from (ti_c (v := (-1)) (a := (-1)) (by decide))]; exact k62.symm.trans kf)⟩ hv dX8_tells_150
  have k63 := if_f k60 q61
  by_cases q64 : v14.toInt = 3
  ·
    refine go_tableIn (pc := 30) (tgt := 149) (off := 119) (by rw [show (v14 : Int32).toInt = v14.toInt from (ti_rfl v14)]; omega) (by rw [show (v14 : Int32).toInt = v14.toInt from (ti_rfl v14)]; omega) (by rw [show (v14 : Int32).toInt = v14.toInt from (ti_rfl v14), q64]; rfl) (by decide) dX8_tells_30 ?_
    have k65 := if_t k63 q64
    refine go_iconst (pc := 149) (v := (-1)) (by decide) dX8_tells_149 ?_
    exact gi_iret (pc := 150) (ti_c (v := (-1)) (a := (-1)) (by decide)) ⟨_, rfl, (by rw [show ((-1) : Int32).toInt = (-1) from (ti_c (v := (-1)) (a := (-1)) (by decide))]; omega), (by rw [show ((-1) : Int32).toInt = (-1) from (ti_c (v := (-1)) (a := (-1)) (by decide))]; omega), rfl, (by rw [show ((-1) : Int32).toInt = (-1) from (ti_c (v := (-1)) (a := (-1)) (by decide))]; exact k65.symm.trans kf)⟩ hv dX8_tells_150
  have k66 := if_f k63 q64
  by_cases q67 : v14.toInt = 4
  ·
    refine go_tableIn (pc := 30) (tgt := 85) (off := 55) (by rw [show (v14 : Int32).toInt = v14.toInt from (ti_rfl v14)]; omega) (by rw [show (v14 : Int32).toInt = v14.toInt from (ti_rfl v14)]; omega) (by rw [show (v14 : Int32).toInt = v14.toInt from (ti_rfl v14), q67]; rfl) (by decide) dX8_tells_30 ?_
    have k68 := if_t k66 q67
    refine go_iload (pc := 85) rfl dX8_tells_85 ?_
    refine go_iload_n (pc := 87) rfl dX8_tells_87 ?_
    refine gf_icmp_ne (pc := 88) (tgt := 99) (ti_rfl v12) (ti_rfl a4) (by decide) dX8_tells_88 (fun q69 => ?_) (fun q69 => ?_)
    ·
      have k70 := if_t k68 q69
      refine go_iconst (pc := 99) (v := (-1)) (by decide) dX8_tells_99 ?_
      exact gi_iret (pc := 100) (ti_c (v := (-1)) (a := (-1)) (by decide)) ⟨_, rfl, (by rw [show ((-1) : Int32).toInt = (-1) from (ti_c (v := (-1)) (a := (-1)) (by decide))]; omega), (by rw [show ((-1) : Int32).toInt = (-1) from (ti_c (v := (-1)) (a := (-1)) (by decide))]; omega), rfl, (by rw [show ((-1) : Int32).toInt = (-1) from (ti_c (v := (-1)) (a := (-1)) (by decide))]; exact k70.symm.trans kf)⟩ hv dX8_tells_100
    ·
      have k71 := if_f k68 (fun z => z q69)
      refine go_iload_n (pc := 91) rfl dX8_tells_91 ?_
      refine go_iconst (pc := 92) (v := 0) (by decide) dX8_tells_92 ?_
      refine go_invS (pc := 93) (sl := 0) (s_X8_statementPlace2_f l (d + 0) hv a2 (by rw [show (a2 : Int32).toInt = a2.toInt from (ti_rfl a2)]; omega) (by rw [show (a2 : Int32).toInt = a2.toInt from (ti_rfl a2)]; omega) 0 (by rw [show (0 : Int32).toInt = 0 from (ti_c (v := 0) (a := 0) (by decide))]; omega) (by rw [show (0 : Int32).toInt = 0 from (ti_c (v := 0) (a := 0) (by decide))]; omega)) mL_X8_291 iM_X8_statementPlace rfl rfl (Nat.le_of_ble_eq_true rfl) (show d + 0 + 1 + 1 ≤ d + 2 by omega) (show 8 + (2 + 11) + 40 * (d + 0 + 1) ≤ 40 * (d + 2) by omega) (g_c0 hv.ln) (Nat.le_of_ble_eq_true rfl) dX8_tells_93 ?_
      intro r h72 hq _
      obtain ⟨v74, rfl, v74l, v74u, rfl, f73⟩ := hq
      try rw [show (0 : Int32).toInt = 0 from (ti_c (v := 0) (a := 0) (by decide))] at f73
      replace f73 : PE _ _ := f73
      have k75 := bd_e k71 f73.symm
      refine go_goto (pc := 96) (tgt := 100) (by decide) dX8_tells_96 ?_
      exact gi_iret (pc := 100) (ti_rfl v74) ⟨_, rfl, (by rw [show (v74 : Int32).toInt = v74.toInt from (ti_rfl v74)]; omega), (by rw [show (v74 : Int32).toInt = v74.toInt from (ti_rfl v74)]; omega), rfl, (k75.symm.trans kf)⟩ hv dX8_tells_100
  have k76 := if_f k66 q67
  refine go_tableOut (pc := 30) (tgt := 149) (by rw [show (v14 : Int32).toInt = v14.toInt from (ti_rfl v14)]; omega) (by decide) dX8_tells_30 ?_
  refine go_iconst (pc := 149) (v := (-1)) (by decide) dX8_tells_149 ?_
  exact gi_iret (pc := 150) (ti_c (v := (-1)) (a := (-1)) (by decide)) ⟨_, rfl, (by rw [show ((-1) : Int32).toInt = (-1) from (ti_c (v := (-1)) (a := (-1)) (by decide))]; omega), (by rw [show ((-1) : Int32).toInt = (-1) from (ti_c (v := (-1)) (a := (-1)) (by decide))]; omega), rfl, (by rw [show ((-1) : Int32).toInt = (-1) from (ti_c (v := (-1)) (a := (-1)) (by decide))]; exact k76.symm.trans kf)⟩ hv dX8_tells_150
noncomputable def f_X8_uses2_ : Nat → Nat → Int → Int → Int → Int64 → Int64 → Int → Int → Int → Int → ST → ST
  | 0, _, _, _, _, _, _, _, _, _, _, sx => sx
  | n + 1, lab, l1, l2, l4, l5, l7, l9, l10, l11, l12, sx => if lab = 29 then (if ¬ l9 = 0 then (f_X8_uses2_ n 83 l1 l2 l4 l5 l7 0 (-1) 0 0 sx) else (bd (o_lcmp l7 (0 : Int64)) fun v8 => if v8 = 0 then (sx) else (bd (ntzI l7) fun v16 => bd (o_lsub l7 (1 : Int64)) fun v19 => bd (o_land l7 v19) fun v21 => bd (o_lshl (1 : Int64) v16) fun v23 => bd (o_lor l5 v23) fun v25 => f_X8_uses2_ n 83 l1 l2 l4 v25 v21 0 v16 0 0 sx))) else if lab = 83 then (bd (sx.1 70 6) fun v28 => bd (sx.1 100 (((5 * v28) + l2)).toNat) fun v34 => if ¬ v34 = l10 then (f_X8_uses2_ n 140 l1 l2 l4 l5 l7 l9 l10 0 0 sx) else (if l4 < 2 then (bd (f_X8_procedurePlace2 sx l2 ((1 + l4))) fun v46 => bd (f_X8_hang2 sx l1 v46) fun s48 => f_X8_uses2_ n 140 l1 l2 l4 l5 l7 l9 l10 0 0 s48) else (if l4 < 6 then (f_X8_uses2_ n 140 l1 l2 l4 l5 l7 l9 l10 0 0 sx) else (bd (f_X8_procedurePlace2 sx l2 ((1 + (l4 - 4)))) fun v63 => bd (f_X8_hang2 sx l1 v63) fun s65 => f_X8_uses2_ n 140 l1 l2 l4 l5 l7 l9 l10 0 0 s65)))) else if lab = 140 then (f_X8_uses2_ n 143 l1 l2 l4 l5 l7 l9 l10 0 0 sx) else if lab = 143 then (bd (sx.1 70 6) fun v70 => bd (sx.1 75 (v70).toNat) fun v72 => if v72 ≤ l11 then (f_X8_uses2_ n 29 l1 l2 l4 l5 l7 l9 0 0 0 sx) else (f_X8_uses2_ n 160 l1 l2 l4 l5 l7 l9 l10 l11 0 sx)) else if 2 ≤ l12 then (f_X8_uses2_ n 143 l1 l2 l4 l5 l7 l9 l10 ((l11 + 1)) 0 sx) else (bd (f_X8_procedureOf2 sx l11) fun v86 => if ¬ v86 = l2 then (f_X8_uses2_ n 143 l1 l2 l4 l5 l7 l9 l10 ((l11 + 1)) 0 sx) else (bd (f_X8_way_x2 sx l11 l12) fun v98 => if v98 = l10 then (bd (f_X8_tells2 sx l11 l12 l4) fun v104 => if v104 = (-1) then (bd (f_X8_has_x2 sx l5 l11) fun v111 => if ¬ v111 = 0 then (f_X8_uses2_ n 160 l1 l2 l4 l5 l7 l9 l10 l11 ((l12 + 1)) sx) else (bd (o_lshl (1 : Int64) l11) fun v119 => bd (o_lor l7 v119) fun v121 => f_X8_uses2_ n 160 l1 l2 l4 l5 v121 l9 l10 l11 ((l12 + 1)) sx)) else (bd (f_X8_hang2 sx l1 v104) fun s127 => f_X8_uses2_ n 160 l1 l2 l4 l5 l7 l9 l10 l11 ((l12 + 1)) s127)) else (f_X8_uses2_ n 160 l1 l2 l4 l5 l7 l9 l10 l11 ((l12 + 1)) sx)))
noncomputable def f_X8_uses2 (s : ST) (a2 : Int) (a3 : Int) (a4 : Int) (a5 : Int) : ST :=
  if ¬ a4 = (-1) then (bd (o_lshl (1 : Int64) a4) fun v140 => f_X8_uses2_ (BG 184467440737095516170001) 29 a2 a3 a5 (0 : Int64) v140 0 0 0 0 s) else (f_X8_uses2_ (BG 184467440737095516170001) 29 a2 a3 a5 (0 : Int64) (0 : Int64) 1 0 0 0 s)
set_option maxHeartbeats 4000000 in
set_option maxRecDepth 100000 in
theorem s_X8_uses2_f (l : Launch) (d : Nat) {P : PP} {h : HP} (hv : Iv P h) (a2 : Int32) (a2l : 0 ≤ a2.toInt) (a2u : a2.toInt ≤ 584) (a3 : Int32) (a3l : 0 ≤ a3.toInt) (a3u : a3.toInt ≤ 4) (a4 : Int32) (a4l : -1 ≤ a4.toInt) (a4u : a4.toInt ≤ 39) (a5 : Int32) (a5l : 0 ≤ a5.toInt) (a5u : a5.toInt ≤ 9) (ckf : CKF h.2.1) : Mt l yX8_uses cX8_uses 14 none (d + 5) [.ref 70, .int a2, .int a3, .int a4, .int a5] h 0 0 (fun r h' => r = none ∧ Iv P h' ∧ (st h' = f_X8_uses2 (st h) a2.toInt a3.toInt a4.toInt a5.toInt) ∧ (FX KAr h h')) := by
  refine Mt_iv hv (by decide) (Nat.le_of_ble_eq_true rfl) ?_
  show Go l RX8 cX8_uses 14 (g_rm (d + 5) 0 0) "uses" none 117 0 0 (fun _ _ => True) (fun r h' => r = none ∧ Iv P h' ∧ (st h' = f_X8_uses2 (st h) a2.toInt a3.toInt a4.toInt a5.toInt) ∧ (FX KAr h h')) 0 0 [(0, .ref 70), (1, .int a2), (2, .int a3), (3, .int a4), (4, .int a5)] [] h
  obtain ⟨S, hS⟩ : ∃ S : Int, S = (h.2.1 70 6).toInt := ⟨_, rfl⟩
  have S0 : 0 ≤ S := by rw [hS]; exact (hv.2.1 70 6).1
  have S1 : S ≤ 1 := by rw [hS]; exact (hv.2.1 70 6).2
  have fx : FX KAr h h := FX.rfl
  obtain ⟨fin, kf⟩ : ∃ z, z = f_X8_uses2 (st h) a2.toInt a3.toInt a4.toInt a5.toInt := ⟨_, _root_.rfl⟩
  have k0 := kf
  unfold f_X8_uses2 at k0
  have key : ∀ n : Nat, (∀ (l1 : Int32) (l2 : Int32) (l4 : Int32) (l5 : Int64) (l7 : Int64) (l9 : Int32) (hx : HP), Iv P hx → 0 ≤ l1.toInt → l1.toInt ≤ 584 → 0 ≤ l2.toInt → l2.toInt ≤ 4 → 0 ≤ l4.toInt → l4.toInt ≤ 9 → 0 ≤ l9.toInt → l9.toInt ≤ 1 → (DJ l7 l5) → (0 ≤ un l5 ∧ un l5 < 18446744073709551616) → FX KAr h hx → fin = f_X8_uses2_ n 29 l1.toInt l2.toInt l4.toInt l5 l7 l9.toInt 0 0 0 (st hx) → (10000 * (18446744073709551616 - un l5) + 5000 * l9.toInt : Int) < n → Go l RX8 cX8_uses 14 (g_rm (d + 5) 0 0) "uses" none 117 0 0 (fun _ _ => True) (fun r h' => r = none ∧ Iv P h' ∧ (st h' = f_X8_uses2 (st h) a2.toInt a3.toInt a4.toInt a5.toInt) ∧ (FX KAr h h')) 0 29 [(0, .ref 70), (1, .int l1), (2, .int l2), (4, .int l4), (5, .long l5), (7, .long l7), (9, .int l9)] [] hx) ∧ (∀ (l1 : Int32) (l2 : Int32) (l4 : Int32) (l5 : Int64) (l7 : Int64) (l9 : Int32) (l10 : Int32) (hx : HP), Iv P hx → 0 ≤ l1.toInt → l1.toInt ≤ 584 → 0 ≤ l2.toInt → l2.toInt ≤ 4 → 0 ≤ l4.toInt → l4.toInt ≤ 9 → 0 ≤ l9.toInt → l9.toInt ≤ 0 → -1 ≤ l10.toInt → l10.toInt ≤ 63 → (DJ l7 l5) → (0 ≤ un l5 ∧ un l5 < 18446744073709551616) → FX KAr h hx → fin = f_X8_uses2_ n 83 l1.toInt l2.toInt l4.toInt l5 l7 l9.toInt l10.toInt 0 0 (st hx) → (10000 * (18446744073709551616 - un l5) + 4900 : Int) < n → Go l RX8 cX8_uses 14 (g_rm (d + 5) 0 0) "uses" none 117 0 0 (fun _ _ => True) (fun r h' => r = none ∧ Iv P h' ∧ (st h' = f_X8_uses2 (st h) a2.toInt a3.toInt a4.toInt a5.toInt) ∧ (FX KAr h h')) 0 83 [(0, .ref 70), (1, .int l1), (2, .int l2), (4, .int l4), (5, .long l5), (7, .long l7), (9, .int l9), (10, .int l10)] [] hx) ∧ (∀ (l1 : Int32) (l2 : Int32) (l4 : Int32) (l5 : Int64) (l7 : Int64) (l9 : Int32) (l10 : Int32) (hx : HP), Iv P hx → 0 ≤ l1.toInt → l1.toInt ≤ 584 → 0 ≤ l2.toInt → l2.toInt ≤ 4 → 0 ≤ l4.toInt → l4.toInt ≤ 9 → 0 ≤ l9.toInt → l9.toInt ≤ 0 → -1 ≤ l10.toInt → l10.toInt ≤ 63 → (DJ l7 l5) → (0 ≤ un l5 ∧ un l5 < 18446744073709551616) → FX KAr h hx → fin = f_X8_uses2_ n 140 l1.toInt l2.toInt l4.toInt l5 l7 l9.toInt l10.toInt 0 0 (st hx) → (10000 * (18446744073709551616 - un l5) + 4800 : Int) < n → Go l RX8 cX8_uses 14 (g_rm (d + 5) 0 0) "uses" none 117 0 0 (fun _ _ => True) (fun r h' => r = none ∧ Iv P h' ∧ (st h' = f_X8_uses2 (st h) a2.toInt a3.toInt a4.toInt a5.toInt) ∧ (FX KAr h h')) 0 140 [(0, .ref 70), (1, .int l1), (2, .int l2), (4, .int l4), (5, .long l5), (7, .long l7), (9, .int l9), (10, .int l10)] [] hx) ∧ (∀ (l1 : Int32) (l2 : Int32) (l4 : Int32) (l5 : Int64) (l7 : Int64) (l9 : Int32) (l10 : Int32) (l11 : Int32) (hx : HP), Iv P hx → 0 ≤ l1.toInt → l1.toInt ≤ 584 → 0 ≤ l2.toInt → l2.toInt ≤ 4 → 0 ≤ l4.toInt → l4.toInt ≤ 9 → 0 ≤ l9.toInt → l9.toInt ≤ 0 → -1 ≤ l10.toInt → l10.toInt ≤ 63 → 0 ≤ l11.toInt → l11.toInt ≤ 40 → (DJ l7 l5) → (0 ≤ un l5 ∧ un l5 < 18446744073709551616) → FX KAr h hx → fin = f_X8_uses2_ n 143 l1.toInt l2.toInt l4.toInt l5 l7 l9.toInt l10.toInt l11.toInt 0 (st hx) → (10000 * (18446744073709551616 - un l5) + 100 * (40 - l11.toInt) + 50 : Int) < n → Go l RX8 cX8_uses 14 (g_rm (d + 5) 0 0) "uses" none 117 0 0 (fun _ _ => True) (fun r h' => r = none ∧ Iv P h' ∧ (st h' = f_X8_uses2 (st h) a2.toInt a3.toInt a4.toInt a5.toInt) ∧ (FX KAr h h')) 0 143 [(0, .ref 70), (1, .int l1), (2, .int l2), (4, .int l4), (5, .long l5), (7, .long l7), (9, .int l9), (10, .int l10), (11, .int l11)] [] hx) ∧ (∀ (l1 : Int32) (l2 : Int32) (l4 : Int32) (l5 : Int64) (l7 : Int64) (l9 : Int32) (l10 : Int32) (l11 : Int32) (l12 : Int32) (hx : HP), Iv P hx → 0 ≤ l1.toInt → l1.toInt ≤ 584 → 0 ≤ l2.toInt → l2.toInt ≤ 4 → 0 ≤ l4.toInt → l4.toInt ≤ 9 → 0 ≤ l9.toInt → l9.toInt ≤ 0 → -1 ≤ l10.toInt → l10.toInt ≤ 63 → 0 ≤ l11.toInt → l11.toInt ≤ 39 → 0 ≤ l12.toInt → l12.toInt ≤ 2 → (DJ l7 l5) → (0 ≤ un l5 ∧ un l5 < 18446744073709551616) → FX KAr h hx → fin = f_X8_uses2_ n 160 l1.toInt l2.toInt l4.toInt l5 l7 l9.toInt l10.toInt l11.toInt l12.toInt (st hx) → (10000 * (18446744073709551616 - un l5) + 100 * (40 - l11.toInt) + (2 - l12.toInt) : Int) < n → Go l RX8 cX8_uses 14 (g_rm (d + 5) 0 0) "uses" none 117 0 0 (fun _ _ => True) (fun r h' => r = none ∧ Iv P h' ∧ (st h' = f_X8_uses2 (st h) a2.toInt a3.toInt a4.toInt a5.toInt) ∧ (FX KAr h h')) 0 160 [(0, .ref 70), (1, .int l1), (2, .int l2), (4, .int l4), (5, .long l5), (7, .long l7), (9, .int l9), (10, .int l10), (11, .int l11), (12, .int l12)] [] hx) := by
    intro n
    induction n with
    | zero => exact ⟨(by intros; omega), (by intros; omega), (by intros; omega), (by intros; omega), (by intros; omega)⟩
    | succ n ih =>
      refine ⟨?_, ?_, ?_, ?_, ?_⟩
      ·
        intro l1 l2 l4 l5 l7 l9 hx hvx l1l l1u l2l l2u l4l l4u l9l l9u x0 x1 fxx kL hm
        rw [f_X8_uses2_] at kL
        replace kL := if_t kL _root_.rfl
        refine go_iload (pc := 29) rfl dX8_uses_29 ?_
        refine gf_if_ne (pc := 31) (tgt := 41) (ti_rfl l9) (by decide) dX8_uses_31 (fun q1 => ?_) (fun q1 => ?_)
        ·
          have k2 := if_t kL q1
          refine go_iload (pc := 41) rfl dX8_uses_41 ?_
          refine gf_if_eq (pc := 43) (tgt := 50) (ti_rfl l9) (by decide) dX8_uses_43 (fun q3 => False.elim (by omega)) (fun q3 => ?_)
          refine go_iconst (pc := 46) (v := (-1)) (by decide) dX8_uses_46 ?_
          refine go_goto (pc := 47) (tgt := 55) (by decide) dX8_uses_47 ?_
          refine go_istore (pc := 55) (Nat.le_of_ble_eq_true rfl) dX8_uses_55 (go_lv (lv2 := [(0, .ref 70), (1, .int l1), (2, .int l2), (4, .int l4), (5, .long l5), (7, .long l7), (9, .int l9), (10, .int (-1))]) rfl ?_)
          refine go_iload (pc := 57) rfl dX8_uses_57 ?_
          refine gf_if_ne (pc := 59) (tgt := 80) (ti_rfl l9) (by decide) dX8_uses_59 (fun q4 => ?_) (fun q4 => False.elim (by omega))
          refine go_iconst (pc := 80) (v := 0) (by decide) dX8_uses_80 ?_
          refine go_istore (pc := 81) (Nat.le_of_ble_eq_true rfl) dX8_uses_81 (go_lv (lv2 := [(0, .ref 70), (1, .int l1), (2, .int l2), (4, .int l4), (5, .long l5), (7, .long l7), (9, .int 0), (10, .int (-1))]) rfl ?_)
          have z5 : (0 : Int32).toInt = 0 := (ti_c (v := 0) (a := 0) (by decide))
          have z6 : ((-1) : Int32).toInt = (-1) := (ti_c (v := (-1)) (a := (-1)) (by decide))
          exact go_lv rfl (ih.2.1 l1 l2 l4 l5 l7 0 (-1) hx hvx (by omega) (by omega) (by omega) (by omega) (by omega) (by omega) (by omega) (by omega) (by omega) (by omega) x0 ⟨un_lo _, un_hi _⟩ fxx (by rw [show (0 : Int32).toInt = 0 from (ti_c (v := 0) (a := 0) (by decide)), show ((-1) : Int32).toInt = (-1) from (ti_c (v := (-1)) (a := (-1)) (by decide))]; exact k2) (by omega))
        ·
          have k7 := if_f kL (fun z => z q1)
          refine go_lload (pc := 34) rfl dX8_uses_34 ?_
          refine go_lconst (pc := 36) (v := 0) (by decide) dX8_uses_36 ?_
          refine gx_lcmp (pc := 37) dX8_uses_37 (fun v8 v8x => ?_)
          have k9 := bd_e k7 (so_lcmp v8x)
          refine gf_if_eq (pc := 38) (tgt := 254) (ti_rfl v8) (by decide) dX8_uses_38 (fun q10 => ?_) (fun q10 => ?_)
          ·
            have k11 := if_t k9 q10
            exact gi_vret (pc := 254) ⟨rfl, hvx, (k11.symm.trans kf), fxx⟩ hvx dX8_uses_254
          ·
            have k12 := if_f k9 q10
            refine go_iload (pc := 41) rfl dX8_uses_41 ?_
            refine gf_if_eq (pc := 43) (tgt := 50) (ti_rfl l9) (by decide) dX8_uses_43 (fun q13 => ?_) (fun q13 => False.elim (by omega))
            refine go_lload (pc := 50) rfl dX8_uses_50 ?_
            have nzf : ¬ l7 = 0 := fun z => absurd (show (v8 : Int32).toInt = 0 from by rw [v8x]; exact (cmp_eq _ _).mpr z) (by omega)
            refine go_invS (pc := 52) (sl := 0) (s_J13_numberOfTrailingZeros_95d88 l (d + 2) hvx l7) mL_X8_294 iM_J13_numberOfTrailingZeros_95d88 rfl rfl (Nat.le_of_ble_eq_true rfl) (show d + 2 + 2 + 1 ≤ d + 5 by omega) (show 8 + (3 + 11) + 40 * (d + 2 + 2) ≤ 40 * (d + 5) by omega) (g_c0 hvx.ln) (Nat.le_of_ble_eq_true rfl) dX8_uses_52 ?_
            intro r h14 hq _
            obtain ⟨v16, rfl, v16l, v16u, rfl, f15⟩ := hq
            have k17 := bd_e k12 (ntz_eq v16l (f15 nzf))
            have nz : ¬ l7 = 0 := fun z => absurd (show (v8 : Int32).toInt = 0 from by rw [v8x]; exact (cmp_eq _ _).mpr z) (by omega)
            have lb := f15 nz
            refine go_istore (pc := 55) (Nat.le_of_ble_eq_true rfl) dX8_uses_55 (go_lv (lv2 := [(0, .ref 70), (1, .int l1), (2, .int l2), (4, .int l4), (5, .long l5), (7, .long l7), (9, .int l9), (10, .int v16)]) rfl ?_)
            refine go_iload (pc := 57) rfl dX8_uses_57 ?_
            refine gf_if_ne (pc := 59) (tgt := 80) (ti_rfl l9) (by decide) dX8_uses_59 (fun q18 => False.elim (by omega)) (fun q18 => ?_)
            refine go_lload (pc := 62) rfl dX8_uses_62 ?_
            refine go_lload (pc := 64) rfl dX8_uses_64 ?_
            refine go_lconst (pc := 66) (v := 1) (by decide) dX8_uses_66 ?_
            refine gx_lsub (pc := 67) dX8_uses_67 (fun v19 v19x => ?_)
            have k20 := bd_e k17 (so_lsub v19x)
            refine gx_land (pc := 68) dX8_uses_68 (fun v21 v21x => ?_)
            have k22 := bd_e k20 (so_land v21x)
            refine go_lstore (pc := 69) (Nat.le_of_ble_eq_true rfl) dX8_uses_69 (go_lv (lv2 := [(0, .ref 70), (1, .int l1), (2, .int l2), (4, .int l4), (5, .long l5), (7, .long v21), (9, .int l9), (10, .int v16)]) rfl ?_)
            refine go_lload (pc := 71) rfl dX8_uses_71 ?_
            refine go_lconst (pc := 73) (v := 1) (by decide) dX8_uses_73 ?_
            refine go_iload (pc := 74) rfl dX8_uses_74 ?_
            refine gx_lshl (pc := 76) dX8_uses_76 (fun v23 v23x => ?_)
            have k24 := bd_e k22 (so_lshl (ti_rfl v16) v23x)
            refine gx_lor (pc := 77) dX8_uses_77 (fun v25 v25x => ?_)
            have k26 := bd_e k24 (so_lor v25x)
            have dl := DJ.low (n := v16) x0 lb.2 (by omega) (by omega)
            rw [← v23x, ← v25x] at dl
            rw [← v19x, ← v21x] at dl
            have dl2 := dl.2
            refine go_lstore (pc := 78) (Nat.le_of_ble_eq_true rfl) dX8_uses_78 (go_lv (lv2 := [(0, .ref 70), (1, .int l1), (2, .int l2), (4, .int l4), (5, .long v25), (7, .long v21), (9, .int l9), (10, .int v16)]) rfl ?_)
            refine go_iconst (pc := 80) (v := 0) (by decide) dX8_uses_80 ?_
            refine go_istore (pc := 81) (Nat.le_of_ble_eq_true rfl) dX8_uses_81 (go_lv (lv2 := [(0, .ref 70), (1, .int l1), (2, .int l2), (4, .int l4), (5, .long v25), (7, .long v21), (9, .int 0), (10, .int v16)]) rfl ?_)
            have z27 : (0 : Int32).toInt = 0 := (ti_c (v := 0) (a := 0) (by decide))
            exact go_lv rfl (ih.2.1 l1 l2 l4 v25 v21 0 v16 hx hvx (by omega) (by omega) (by omega) (by omega) (by omega) (by omega) (by omega) (by omega) (by omega) (by omega) dl.1 ⟨un_lo _, un_hi _⟩ fxx (by rw [show (0 : Int32).toInt = 0 from (ti_c (v := 0) (a := 0) (by decide))]; exact k26) (by omega))
      ·
        intro l1 l2 l4 l5 l7 l9 l10 hx hvx l1l l1u l2l l2u l4l l4u l9l l9u l10l l10u x0 x1 fxx kL hm
        rw [f_X8_uses2_] at kL
        replace kL := if_f kL (by decide)
        replace kL := if_t kL _root_.rfl
        refine go_aload_n (pc := 83) rfl dX8_uses_83 ?_
        refine gi_getF (pc := 84) (q := 100) hvx fL_X8_98 rfl (Nat.le_of_ble_eq_true rfl) rfl (hvx.rf (by decide)) dX8_uses_84 ?_
        refine go_iconst (pc := 87) (v := 5) (by decide) dX8_uses_87 ?_
        refine go_aload_n (pc := 88) rfl dX8_uses_88 ?_
        refine gi_get (pc := 89) (lo := 0) (hi := 1) hvx fL_X8_187 rfl (Nat.le_of_ble_eq_true rfl) rfl rfl dX8_uses_89 (fun v28 v28l v28u v28w => ?_)
        have k29 := bd_e kL (congrArg Int32.toInt v28w.symm)
        have v28S : v28.toInt = S := by rw [v28w, hvx.fy (j := 6) (by omega), ← hv.fy (j := 6) (by omega)]; exact hS.symm
        refine gf_imul (pc := 92) (ti_c (v := 5) (a := 5) (by decide)) (ti_rfl v28) (by omega) (by omega) dX8_uses_92 (fun v30 e31 => ?_)
        refine go_iload_n (pc := 93) rfl dX8_uses_93 ?_
        refine gf_iadd (pc := 94) e31 (ti_rfl l2) (by omega) (by omega) dX8_uses_94 (fun v32 e33 => ?_)
        refine gi_iald (pc := 95) (lo := -1) (hi := 39) (len := 10) hvx e33 rfl (by omega) (by omega) (fun _ => rfl) dX8_uses_95 (fun v34 v34l v34u v34w => ?_)
        have k35 := bd_e k29 (congrArg Int32.toInt v34w.symm)
        have v34V : v34.toInt = V h.2.1 100 (((5 * S) + l2.toInt)) := by rw [v34w, v28S, hvx.fz (c := 100) (by omega) (by omega), ← hv.fz (c := 100) (by omega) (by omega)]; rfl
        refine go_iload (pc := 96) rfl dX8_uses_96 ?_
        refine gf_icmp_ne (pc := 98) (tgt := 140) (ti_rfl v34) (ti_rfl l10) (by decide) dX8_uses_98 (fun q36 => ?_) (fun q36 => ?_)
        ·
          have k37 := if_t k35 q36
          exact go_lv rfl (ih.2.2.1 l1 l2 l4 l5 l7 l9 l10 hx hvx (by omega) (by omega) (by omega) (by omega) (by omega) (by omega) (by omega) (by omega) (by omega) (by omega) x0 ⟨un_lo _, un_hi _⟩ fxx k37 (by omega))
        ·
          have k38 := if_f k35 (fun z => z q36)
          refine go_iload (pc := 101) rfl dX8_uses_101 ?_
          refine go_iconst (pc := 103) (v := 2) (by decide) dX8_uses_103 ?_
          refine gf_icmp_lt (pc := 104) (tgt := 114) (ti_rfl l4) (ti_c (v := 2) (a := 2) (by decide)) (by decide) dX8_uses_104 (fun q39 => ?_) (fun q39 => ?_)
          ·
            have k40 := if_t k38 q39
            refine go_aload_n (pc := 114) rfl dX8_uses_114 ?_
            refine go_iload_n (pc := 115) rfl dX8_uses_115 ?_
            refine go_iload_n (pc := 116) rfl dX8_uses_116 ?_
            refine go_iconst (pc := 117) (v := 1) (by decide) dX8_uses_117 ?_
            refine go_iload (pc := 118) rfl dX8_uses_118 ?_
            refine go_iconst (pc := 120) (v := 2) (by decide) dX8_uses_120 ?_
            refine gf_icmp_ge (pc := 121) (tgt := 129) (ti_rfl l4) (ti_c (v := 2) (a := 2) (by decide)) (by decide) dX8_uses_121 (fun q41 => False.elim (by omega)) (fun q41 => ?_)
            refine go_iload (pc := 124) rfl dX8_uses_124 ?_
            refine go_goto (pc := 126) (tgt := 133) (by decide) dX8_uses_126 ?_
            refine gf_iadd (pc := 133) (ti_c (v := 1) (a := 1) (by decide)) (ti_rfl l4) (by omega) (by omega) dX8_uses_133 (fun v42 e43 => ?_)
            refine go_invS (pc := 134) (sl := 0) (s_X8_procedurePlace2_f l (d + 3) hvx l2 (by rw [show (l2 : Int32).toInt = l2.toInt from (ti_rfl l2)]; omega) (by rw [show (l2 : Int32).toInt = l2.toInt from (ti_rfl l2)]; omega) v42 (by rw [show (v42 : Int32).toInt = (1 + l4.toInt) from e43]; omega) (by rw [show (v42 : Int32).toInt = (1 + l4.toInt) from e43]; omega)) mL_X8_300 iM_X8_procedurePlace rfl rfl (Nat.le_of_ble_eq_true rfl) (show d + 3 + 1 + 1 ≤ d + 5 by omega) (show 8 + (2 + 11) + 40 * (d + 3 + 1) ≤ 40 * (d + 5) by omega) (g_c0 hvx.ln) (Nat.le_of_ble_eq_true rfl) dX8_uses_134 ?_
            intro r h44 hq _
            obtain ⟨v46, rfl, v46l, v46u, rfl, f45⟩ := hq
            try rw [show (v42 : Int32).toInt = (1 + l4.toInt) from e43] at f45
            replace f45 : PE _ _ := f45
            have k47 := bd_e k40 f45.symm
            refine go_invV (pc := 137) (sl := 0) (s_X8_hang2_f l (d + 3) hvx l1 (by rw [show (l1 : Int32).toInt = l1.toInt from (ti_rfl l1)]; omega) (by rw [show (l1 : Int32).toInt = l1.toInt from (ti_rfl l1)]; omega) v46 (by rw [show (v46 : Int32).toInt = v46.toInt from (ti_rfl v46)]; omega) (by rw [show (v46 : Int32).toInt = v46.toInt from (ti_rfl v46)]; omega)) mL_X8_303 iM_X8_hang sM_X8_hang (hvx.sh rfl) rfl rfl rfl (Nat.le_of_ble_eq_true rfl) (show d + 3 + 1 + 1 ≤ d + 5 by omega) (show 8 + (3 + 11) + 40 * (d + 3 + 1) ≤ 40 * (d + 5) by omega) (g_c0 hvx.ln) (Nat.le_of_ble_eq_true rfl) dX8_uses_137 ?_
            intro r h48 hq _
            obtain ⟨rfl, hv48, f49, f50⟩ := hq
            have fx48 : FX KAr h h48 := FX.tr fxx f50
            have k51 := bd_e k47 f49.symm
            exact go_lv rfl (ih.2.2.1 l1 l2 l4 l5 l7 l9 l10 h48 hv48 (by omega) (by omega) (by omega) (by omega) (by omega) (by omega) (by omega) (by omega) (by omega) (by omega) x0 ⟨un_lo _, un_hi _⟩ fx48 k51 (by omega))
          ·
            have k52 := if_f k38 (Int.not_lt.mpr q39)
            refine go_iload (pc := 107) rfl dX8_uses_107 ?_
            refine go_bipush (pc := 109) (v := 6) (by decide) dX8_uses_109 ?_
            refine gf_icmp_lt (pc := 111) (tgt := 140) (ti_rfl l4) (ti_c (v := 6) (a := 6) (by decide)) (by decide) dX8_uses_111 (fun q53 => ?_) (fun q53 => ?_)
            ·
              have k54 := if_t k52 q53
              exact go_lv rfl (ih.2.2.1 l1 l2 l4 l5 l7 l9 l10 hx hvx (by omega) (by omega) (by omega) (by omega) (by omega) (by omega) (by omega) (by omega) (by omega) (by omega) x0 ⟨un_lo _, un_hi _⟩ fxx k54 (by omega))
            ·
              have k55 := if_f k52 (Int.not_lt.mpr q53)
              refine go_aload_n (pc := 114) rfl dX8_uses_114 ?_
              refine go_iload_n (pc := 115) rfl dX8_uses_115 ?_
              refine go_iload_n (pc := 116) rfl dX8_uses_116 ?_
              refine go_iconst (pc := 117) (v := 1) (by decide) dX8_uses_117 ?_
              refine go_iload (pc := 118) rfl dX8_uses_118 ?_
              refine go_iconst (pc := 120) (v := 2) (by decide) dX8_uses_120 ?_
              refine gf_icmp_ge (pc := 121) (tgt := 129) (ti_rfl l4) (ti_c (v := 2) (a := 2) (by decide)) (by decide) dX8_uses_121 (fun q56 => ?_) (fun q56 => False.elim (by omega))
              refine go_iload (pc := 129) rfl dX8_uses_129 ?_
              refine go_iconst (pc := 131) (v := 4) (by decide) dX8_uses_131 ?_
              refine gf_isub (pc := 132) (ti_rfl l4) (ti_c (v := 4) (a := 4) (by decide)) (by omega) (by omega) dX8_uses_132 (fun v57 e58 => ?_)
              refine gf_iadd (pc := 133) (ti_c (v := 1) (a := 1) (by decide)) e58 (by omega) (by omega) dX8_uses_133 (fun v59 e60 => ?_)
              refine go_invS (pc := 134) (sl := 0) (s_X8_procedurePlace2_f l (d + 3) hvx l2 (by rw [show (l2 : Int32).toInt = l2.toInt from (ti_rfl l2)]; omega) (by rw [show (l2 : Int32).toInt = l2.toInt from (ti_rfl l2)]; omega) v59 (by rw [show (v59 : Int32).toInt = (1 + (l4.toInt - 4)) from e60]; omega) (by rw [show (v59 : Int32).toInt = (1 + (l4.toInt - 4)) from e60]; omega)) mL_X8_300 iM_X8_procedurePlace rfl rfl (Nat.le_of_ble_eq_true rfl) (show d + 3 + 1 + 1 ≤ d + 5 by omega) (show 8 + (2 + 11) + 40 * (d + 3 + 1) ≤ 40 * (d + 5) by omega) (g_c0 hvx.ln) (Nat.le_of_ble_eq_true rfl) dX8_uses_134 ?_
              intro r h61 hq _
              obtain ⟨v63, rfl, v63l, v63u, rfl, f62⟩ := hq
              try rw [show (v59 : Int32).toInt = (1 + (l4.toInt - 4)) from e60] at f62
              replace f62 : PE _ _ := f62
              have k64 := bd_e k55 f62.symm
              refine go_invV (pc := 137) (sl := 0) (s_X8_hang2_f l (d + 3) hvx l1 (by rw [show (l1 : Int32).toInt = l1.toInt from (ti_rfl l1)]; omega) (by rw [show (l1 : Int32).toInt = l1.toInt from (ti_rfl l1)]; omega) v63 (by rw [show (v63 : Int32).toInt = v63.toInt from (ti_rfl v63)]; omega) (by rw [show (v63 : Int32).toInt = v63.toInt from (ti_rfl v63)]; omega)) mL_X8_303 iM_X8_hang sM_X8_hang (hvx.sh rfl) rfl rfl rfl (Nat.le_of_ble_eq_true rfl) (show d + 3 + 1 + 1 ≤ d + 5 by omega) (show 8 + (3 + 11) + 40 * (d + 3 + 1) ≤ 40 * (d + 5) by omega) (g_c0 hvx.ln) (Nat.le_of_ble_eq_true rfl) dX8_uses_137 ?_
              intro r h65 hq _
              obtain ⟨rfl, hv65, f66, f67⟩ := hq
              have fx65 : FX KAr h h65 := FX.tr fxx f67
              have k68 := bd_e k64 f66.symm
              exact go_lv rfl (ih.2.2.1 l1 l2 l4 l5 l7 l9 l10 h65 hv65 (by omega) (by omega) (by omega) (by omega) (by omega) (by omega) (by omega) (by omega) (by omega) (by omega) x0 ⟨un_lo _, un_hi _⟩ fx65 k68 (by omega))
      ·
        intro l1 l2 l4 l5 l7 l9 l10 hx hvx l1l l1u l2l l2u l4l l4u l9l l9u l10l l10u x0 x1 fxx kL hm
        rw [f_X8_uses2_] at kL
        replace kL := if_f kL (by decide)
        replace kL := if_f kL (by decide)
        replace kL := if_t kL _root_.rfl
        refine go_iconst (pc := 140) (v := 0) (by decide) dX8_uses_140 ?_
        refine go_istore (pc := 141) (Nat.le_of_ble_eq_true rfl) dX8_uses_141 (go_lv (lv2 := [(0, .ref 70), (1, .int l1), (2, .int l2), (4, .int l4), (5, .long l5), (7, .long l7), (9, .int l9), (10, .int l10), (11, .int 0)]) rfl ?_)
        have z69 : (0 : Int32).toInt = 0 := (ti_c (v := 0) (a := 0) (by decide))
        exact go_lv rfl (ih.2.2.2.1 l1 l2 l4 l5 l7 l9 l10 0 hx hvx (by omega) (by omega) (by omega) (by omega) (by omega) (by omega) (by omega) (by omega) (by omega) (by omega) (by omega) (by omega) x0 ⟨un_lo _, un_hi _⟩ fxx (by rw [show (0 : Int32).toInt = 0 from (ti_c (v := 0) (a := 0) (by decide))]; exact kL) (by omega))
      ·
        intro l1 l2 l4 l5 l7 l9 l10 l11 hx hvx l1l l1u l2l l2u l4l l4u l9l l9u l10l l10u l11l l11u x0 x1 fxx kL hm
        rw [f_X8_uses2_] at kL
        replace kL := if_f kL (by decide)
        replace kL := if_f kL (by decide)
        replace kL := if_f kL (by decide)
        replace kL := if_t kL _root_.rfl
        refine go_iload (pc := 143) rfl dX8_uses_143 ?_
        refine go_aload_n (pc := 145) rfl dX8_uses_145 ?_
        refine gi_getF (pc := 146) (q := 75) hvx fL_X8_23 rfl (Nat.le_of_ble_eq_true rfl) rfl (hvx.rf (by decide)) dX8_uses_146 ?_
        refine go_aload_n (pc := 149) rfl dX8_uses_149 ?_
        refine gi_get (pc := 150) (lo := 0) (hi := 1) hvx fL_X8_187 rfl (Nat.le_of_ble_eq_true rfl) rfl rfl dX8_uses_150 (fun v70 v70l v70u v70w => ?_)
        have k71 := bd_e kL (congrArg Int32.toInt v70w.symm)
        have v70S : v70.toInt = S := by rw [v70w, hvx.fy (j := 6) (by omega), ← hv.fy (j := 6) (by omega)]; exact hS.symm
        refine gi_iald (pc := 153) (lo := 0) (hi := 40) (len := 2) hvx (ti_rfl v70) rfl (by omega) (by omega) (fun _ => rfl) dX8_uses_153 (fun v72 v72l v72u v72w => ?_)
        have k73 := bd_e k71 (congrArg Int32.toInt v72w.symm)
        have v72V : v72.toInt = V h.2.1 75 S := by rw [v72w, v70S, hvx.fz (c := 75) (by omega) (by omega), ← hv.fz (c := 75) (by omega) (by omega)]; rfl
        refine gf_icmp_ge (pc := 154) (tgt := 251) (ti_rfl l11) (ti_rfl v72) (by decide) dX8_uses_154 (fun q74 => ?_) (fun q74 => ?_)
        ·
          have k75 := if_t k73 q74
          refine go_goto (pc := 251) (tgt := 29) (by decide) dX8_uses_251 ?_
          exact go_lv rfl (ih.1 l1 l2 l4 l5 l7 l9 hx hvx (by omega) (by omega) (by omega) (by omega) (by omega) (by omega) (by omega) (by omega) x0 ⟨un_lo _, un_hi _⟩ fxx k75 (by omega))
        ·
          have k76 := if_f k73 (Int.not_le.mpr q74)
          refine go_iconst (pc := 157) (v := 0) (by decide) dX8_uses_157 ?_
          refine go_istore (pc := 158) (Nat.le_of_ble_eq_true rfl) dX8_uses_158 (go_lv (lv2 := [(0, .ref 70), (1, .int l1), (2, .int l2), (4, .int l4), (5, .long l5), (7, .long l7), (9, .int l9), (10, .int l10), (11, .int l11), (12, .int 0)]) rfl ?_)
          have z77 : (0 : Int32).toInt = 0 := (ti_c (v := 0) (a := 0) (by decide))
          exact go_lv rfl (ih.2.2.2.2 l1 l2 l4 l5 l7 l9 l10 l11 0 hx hvx (by omega) (by omega) (by omega) (by omega) (by omega) (by omega) (by omega) (by omega) (by omega) (by omega) (by omega) (by omega) (by omega) (by omega) x0 ⟨un_lo _, un_hi _⟩ fxx (by rw [show (0 : Int32).toInt = 0 from (ti_c (v := 0) (a := 0) (by decide))]; exact k76) (by omega))
      ·
        intro l1 l2 l4 l5 l7 l9 l10 l11 l12 hx hvx l1l l1u l2l l2u l4l l4u l9l l9u l10l l10u l11l l11u l12l l12u x0 x1 fxx kL hm
        rw [f_X8_uses2_] at kL
        replace kL := if_f kL (by decide)
        replace kL := if_f kL (by decide)
        replace kL := if_f kL (by decide)
        replace kL := if_f kL (by decide)
        refine go_iload (pc := 160) rfl dX8_uses_160 ?_
        refine go_iconst (pc := 162) (v := 2) (by decide) dX8_uses_162 ?_
        refine gf_icmp_ge (pc := 163) (tgt := 245) (ti_rfl l12) (ti_c (v := 2) (a := 2) (by decide)) (by decide) dX8_uses_163 (fun q78 => ?_) (fun q78 => ?_)
        ·
          have k79 := if_t kL q78
          refine gf_iinc (pc := 245) (Nat.le_of_ble_eq_true rfl) rfl (ti_rfl l11) (ti_c (by decide)) (by omega) (by omega) dX8_uses_245 (fun v80 e81 => ?_)
          refine go_lv (lv2 := [(0, .ref 70), (1, .int l1), (2, .int l2), (4, .int l4), (5, .long l5), (7, .long l7), (9, .int l9), (10, .int l10), (11, .int v80), (12, .int l12)]) rfl ?_
          refine go_goto (pc := 248) (tgt := 143) (by decide) dX8_uses_248 ?_
          have z82 : (v80 : Int32).toInt = (l11.toInt + 1) := e81
          exact go_lv rfl (ih.2.2.2.1 l1 l2 l4 l5 l7 l9 l10 v80 hx hvx (by omega) (by omega) (by omega) (by omega) (by omega) (by omega) (by omega) (by omega) (by omega) (by omega) (by omega) (by omega) x0 ⟨un_lo _, un_hi _⟩ fxx (by rw [show (v80 : Int32).toInt = (l11.toInt + 1) from e81]; exact k79) (by omega))
        ·
          have k83 := if_f kL (Int.not_le.mpr q78)
          refine go_aload_n (pc := 166) rfl dX8_uses_166 ?_
          refine go_iload (pc := 167) rfl dX8_uses_167 ?_
          refine go_invV (pc := 169) (sl := 0) (s_X8_procedureOf2_f l (d + 2) hvx l11 (by rw [show (l11 : Int32).toInt = l11.toInt from (ti_rfl l11)]; omega) (by rw [show (l11 : Int32).toInt = l11.toInt from (ti_rfl l11)]; omega)) mL_X8_306 iM_X8_procedureOf sM_X8_procedureOf (hvx.sh rfl) rfl rfl rfl (Nat.le_of_ble_eq_true rfl) (show d + 2 + 2 + 1 ≤ d + 5 by omega) (show 8 + (2 + 11) + 40 * (d + 2 + 2) ≤ 40 * (d + 5) by omega) (g_c0 hvx.ln) (Nat.le_of_ble_eq_true rfl) dX8_uses_169 ?_
          intro r h84 hq _
          obtain ⟨v86, rfl, v86l, v86u, rfl, f85⟩ := hq
          replace f85 : PE _ _ := f85
          have k87 := bd_e k83 f85.symm
          refine go_iload_n (pc := 172) rfl dX8_uses_172 ?_
          refine gf_icmp_ne (pc := 173) (tgt := 245) (ti_rfl v86) (ti_rfl l2) (by decide) dX8_uses_173 (fun q88 => ?_) (fun q88 => ?_)
          ·
            have k89 := if_t k87 q88
            refine gf_iinc (pc := 245) (Nat.le_of_ble_eq_true rfl) rfl (ti_rfl l11) (ti_c (by decide)) (by omega) (by omega) dX8_uses_245 (fun v90 e91 => ?_)
            refine go_lv (lv2 := [(0, .ref 70), (1, .int l1), (2, .int l2), (4, .int l4), (5, .long l5), (7, .long l7), (9, .int l9), (10, .int l10), (11, .int v90), (12, .int l12)]) rfl ?_
            refine go_goto (pc := 248) (tgt := 143) (by decide) dX8_uses_248 ?_
            have z92 : (v90 : Int32).toInt = (l11.toInt + 1) := e91
            exact go_lv rfl (ih.2.2.2.1 l1 l2 l4 l5 l7 l9 l10 v90 hx hvx (by omega) (by omega) (by omega) (by omega) (by omega) (by omega) (by omega) (by omega) (by omega) (by omega) (by omega) (by omega) x0 ⟨un_lo _, un_hi _⟩ fxx (by rw [show (v90 : Int32).toInt = (l11.toInt + 1) from e91]; exact k89) (by omega))
          ·
            have k93 := if_f k87 (fun z => z q88)
            refine go_aload_n (pc := 176) rfl dX8_uses_176 ?_
            refine go_iload (pc := 177) rfl dX8_uses_177 ?_
            refine go_iload (pc := 179) rfl dX8_uses_179 ?_
            have sM94 : (hx.2.1 70 6).toInt = S := by rw [hvx.fy (j := 6) (by omega), ← hv.fy (j := 6) (by omega)]; exact hS.symm
            refine go_invV (pc := 181) (sl := 0) (s_X8_way_x2_f l (d + 0) hvx l11 (by rw [show (l11 : Int32).toInt = l11.toInt from (ti_rfl l11)]; omega) (by rw [show (l11 : Int32).toInt = l11.toInt from (ti_rfl l11)]; omega) l12 (by rw [show (l12 : Int32).toInt = l12.toInt from (ti_rfl l12)]; omega) (by rw [show (l12 : Int32).toInt = l12.toInt from (ti_rfl l12)]; omega) (CKF.ve (VE.of hv hvx) ckf)) mL_X8_284 iM_X8_way sM_X8_way (hvx.sh rfl) rfl rfl rfl (Nat.le_of_ble_eq_true rfl) (show d + 0 + 4 + 1 ≤ d + 5 by omega) (show 8 + (4 + 11) + 40 * (d + 0 + 4) ≤ 40 * (d + 5) by omega) (g_c0 hvx.ln) (Nat.le_of_ble_eq_true rfl) dX8_uses_181 ?_
            intro r h95 hq _
            obtain ⟨v98, rfl, v98l, v98u, rfl, f96, f97⟩ := hq
            rw [sM94] at f96
            replace f97 : PE _ _ := f97
            have k99 := bd_e k93 f97.symm
            refine go_iload (pc := 184) rfl dX8_uses_184 ?_
            refine gf_icmp_eq (pc := 186) (tgt := 192) (ti_rfl v98) (ti_rfl l10) (by decide) dX8_uses_186 (fun q100 => ?_) (fun q100 => ?_)
            ·
              have k101 := if_t k99 q100
              refine go_aload_n (pc := 192) rfl dX8_uses_192 ?_
              refine go_iload (pc := 193) rfl dX8_uses_193 ?_
              refine go_iload (pc := 195) rfl dX8_uses_195 ?_
              refine go_iload (pc := 197) rfl dX8_uses_197 ?_
              refine go_invV (pc := 199) (sl := 0) (s_X8_tells2_f l (d + 2) hvx l11 (by rw [show (l11 : Int32).toInt = l11.toInt from (ti_rfl l11)]; omega) (by rw [show (l11 : Int32).toInt = l11.toInt from (ti_rfl l11)]; omega) l12 l4 (by rw [show (l4 : Int32).toInt = l4.toInt from (ti_rfl l4)]; omega) (by rw [show (l4 : Int32).toInt = l4.toInt from (ti_rfl l4)]; omega)) mL_X8_309 iM_X8_tells sM_X8_tells (hvx.sh rfl) rfl rfl rfl (Nat.le_of_ble_eq_true rfl) (show d + 2 + 2 + 1 ≤ d + 5 by omega) (show 8 + (6 + 11) + 40 * (d + 2 + 2) ≤ 40 * (d + 5) by omega) (g_c0 hvx.ln) (Nat.le_of_ble_eq_true rfl) dX8_uses_199 ?_
              intro r h102 hq _
              obtain ⟨v104, rfl, v104l, v104u, rfl, f103⟩ := hq
              replace f103 : PE _ _ := f103
              have k105 := bd_e k101 f103.symm
              refine go_istore (pc := 202) (Nat.le_of_ble_eq_true rfl) dX8_uses_202 (go_lv (lv2 := [(0, .ref 70), (1, .int l1), (2, .int l2), (4, .int l4), (5, .long l5), (7, .long l7), (9, .int l9), (10, .int l10), (11, .int l11), (12, .int l12), (13, .int v104)]) rfl ?_)
              refine go_iload (pc := 204) rfl dX8_uses_204 ?_
              refine go_iconst (pc := 206) (v := (-1)) (by decide) dX8_uses_206 ?_
              refine gf_icmp_eq (pc := 207) (tgt := 220) (ti_rfl v104) (ti_c (v := (-1)) (a := (-1)) (by decide)) (by decide) dX8_uses_207 (fun q106 => ?_) (fun q106 => ?_)
              ·
                have k107 := if_t k105 q106
                refine go_lload (pc := 220) rfl dX8_uses_220 ?_
                refine go_iload (pc := 222) rfl dX8_uses_222 ?_
                refine go_invS (pc := 224) (sl := 0) (s_X8_has_x2_f l (d + 3) hvx l5 l11 (by rw [show (l11 : Int32).toInt = l11.toInt from (ti_rfl l11)]; omega) (by rw [show (l11 : Int32).toInt = l11.toInt from (ti_rfl l11)]; omega)) mL_X8_280 iM_X8_has rfl rfl (Nat.le_of_ble_eq_true rfl) (show d + 3 + 1 + 1 ≤ d + 5 by omega) (show 8 + (3 + 11) + 40 * (d + 3 + 1) ≤ 40 * (d + 5) by omega) (g_c0 hvx.ln) (Nat.le_of_ble_eq_true rfl) dX8_uses_224 ?_
                intro r h108 hq _
                obtain ⟨v111, rfl, v111l, v111u, rfl, f109, f110⟩ := hq
                replace f110 : PE _ _ := f110
                have k112 := bd_e k107 f110.symm
                refine gf_if_ne (pc := 227) (tgt := 239) (ti_rfl v111) (by decide) dX8_uses_227 (fun q113 => ?_) (fun q113 => ?_)
                ·
                  have k114 := if_t k112 q113
                  refine gf_iinc (pc := 239) (Nat.le_of_ble_eq_true rfl) rfl (ti_rfl l12) (ti_c (by decide)) (by omega) (by omega) dX8_uses_239 (fun v115 e116 => ?_)
                  refine go_lv (lv2 := [(0, .ref 70), (1, .int l1), (2, .int l2), (4, .int l4), (5, .long l5), (7, .long l7), (9, .int l9), (10, .int l10), (11, .int l11), (12, .int v115), (13, .int v104)]) rfl ?_
                  refine go_goto (pc := 242) (tgt := 160) (by decide) dX8_uses_242 ?_
                  have z117 : (v115 : Int32).toInt = (l12.toInt + 1) := e116
                  exact go_lv rfl (ih.2.2.2.2 l1 l2 l4 l5 l7 l9 l10 l11 v115 hx hvx (by omega) (by omega) (by omega) (by omega) (by omega) (by omega) (by omega) (by omega) (by omega) (by omega) (by omega) (by omega) (by omega) (by omega) x0 ⟨un_lo _, un_hi _⟩ fxx (by rw [show (v115 : Int32).toInt = (l12.toInt + 1) from e116]; exact k114) (by omega))
                ·
                  have k118 := if_f k112 (fun z => z q113)
                  refine go_lload (pc := 230) rfl dX8_uses_230 ?_
                  refine go_lconst (pc := 232) (v := 1) (by decide) dX8_uses_232 ?_
                  refine go_iload (pc := 233) rfl dX8_uses_233 ?_
                  refine gx_lshl (pc := 235) dX8_uses_235 (fun v119 v119x => ?_)
                  have k120 := bd_e k118 (so_lshl (ti_rfl l11) v119x)
                  refine gx_lor (pc := 236) dX8_uses_236 (fun v121 v121x => ?_)
                  have k122 := bd_e k120 (so_lor v121x)
                  refine go_lstore (pc := 237) (Nat.le_of_ble_eq_true rfl) dX8_uses_237 (go_lv (lv2 := [(0, .ref 70), (1, .int l1), (2, .int l2), (4, .int l4), (5, .long l5), (7, .long v121), (9, .int l9), (10, .int l10), (11, .int l11), (12, .int l12), (13, .int v104)]) rfl ?_)
                  refine gf_iinc (pc := 239) (Nat.le_of_ble_eq_true rfl) rfl (ti_rfl l12) (ti_c (by decide)) (by omega) (by omega) dX8_uses_239 (fun v123 e124 => ?_)
                  refine go_lv (lv2 := [(0, .ref 70), (1, .int l1), (2, .int l2), (4, .int l4), (5, .long l5), (7, .long v121), (9, .int l9), (10, .int l10), (11, .int l11), (12, .int v123), (13, .int v104)]) rfl ?_
                  refine go_goto (pc := 242) (tgt := 160) (by decide) dX8_uses_242 ?_
                  have z125 : (v123 : Int32).toInt = (l12.toInt + 1) := e124
                  exact go_lv rfl (ih.2.2.2.2 l1 l2 l4 l5 v121 l9 l10 l11 v123 hx hvx (by omega) (by omega) (by omega) (by omega) (by omega) (by omega) (by omega) (by omega) (by omega) (by omega) (by omega) (by omega) (by omega) (by omega) (by rw [v121x, v119x]; exact DJ.add x0 (by omega) (by omega) (f109.2 (by omega))) ⟨un_lo _, un_hi _⟩ fxx (by rw [show (v123 : Int32).toInt = (l12.toInt + 1) from e124]; exact k122) (by omega))
              ·
                have k126 := if_f k105 q106
                refine go_aload_n (pc := 210) rfl dX8_uses_210 ?_
                refine go_iload_n (pc := 211) rfl dX8_uses_211 ?_
                refine go_iload (pc := 212) rfl dX8_uses_212 ?_
                refine go_invV (pc := 214) (sl := 0) (s_X8_hang2_f l (d + 3) hvx l1 (by rw [show (l1 : Int32).toInt = l1.toInt from (ti_rfl l1)]; omega) (by rw [show (l1 : Int32).toInt = l1.toInt from (ti_rfl l1)]; omega) v104 (fz_ne v104l q106) (Int.le_trans v104u (by decide))) mL_X8_303 iM_X8_hang sM_X8_hang (hvx.sh rfl) rfl rfl rfl (Nat.le_of_ble_eq_true rfl) (show d + 3 + 1 + 1 ≤ d + 5 by omega) (show 8 + (3 + 11) + 40 * (d + 3 + 1) ≤ 40 * (d + 5) by omega) (g_c0 hvx.ln) (Nat.le_of_ble_eq_true rfl) dX8_uses_214 ?_
                intro r h127 hq _
                obtain ⟨rfl, hv127, f128, f129⟩ := hq
                have fx127 : FX KAr h h127 := FX.tr fxx f129
                have k130 := bd_e k126 f128.symm
                refine go_goto (pc := 217) (tgt := 239) (by decide) dX8_uses_217 ?_
                refine gf_iinc (pc := 239) (Nat.le_of_ble_eq_true rfl) rfl (ti_rfl l12) (ti_c (by decide)) (by omega) (by omega) dX8_uses_239 (fun v131 e132 => ?_)
                refine go_lv (lv2 := [(0, .ref 70), (1, .int l1), (2, .int l2), (4, .int l4), (5, .long l5), (7, .long l7), (9, .int l9), (10, .int l10), (11, .int l11), (12, .int v131), (13, .int v104)]) rfl ?_
                refine go_goto (pc := 242) (tgt := 160) (by decide) dX8_uses_242 ?_
                have z133 : (v131 : Int32).toInt = (l12.toInt + 1) := e132
                exact go_lv rfl (ih.2.2.2.2 l1 l2 l4 l5 l7 l9 l10 l11 v131 h127 hv127 (by omega) (by omega) (by omega) (by omega) (by omega) (by omega) (by omega) (by omega) (by omega) (by omega) (by omega) (by omega) (by omega) (by omega) x0 ⟨un_lo _, un_hi _⟩ fx127 (by rw [show (v131 : Int32).toInt = (l12.toInt + 1) from e132]; exact k130) (by omega))
            ·
              have k134 := if_f k99 q100
              refine go_goto (pc := 189) (tgt := 239) (by decide) dX8_uses_189 ?_
              refine gf_iinc (pc := 239) (Nat.le_of_ble_eq_true rfl) rfl (ti_rfl l12) (ti_c (by decide)) (by omega) (by omega) dX8_uses_239 (fun v135 e136 => ?_)
              refine go_lv (lv2 := [(0, .ref 70), (1, .int l1), (2, .int l2), (4, .int l4), (5, .long l5), (7, .long l7), (9, .int l9), (10, .int l10), (11, .int l11), (12, .int v135)]) rfl ?_
              refine go_goto (pc := 242) (tgt := 160) (by decide) dX8_uses_242 ?_
              have z137 : (v135 : Int32).toInt = (l12.toInt + 1) := e136
              exact go_lv rfl (ih.2.2.2.2 l1 l2 l4 l5 l7 l9 l10 l11 v135 hx hvx (by omega) (by omega) (by omega) (by omega) (by omega) (by omega) (by omega) (by omega) (by omega) (by omega) (by omega) (by omega) (by omega) (by omega) x0 ⟨un_lo _, un_hi _⟩ fxx (by rw [show (v135 : Int32).toInt = (l12.toInt + 1) from e136]; exact k134) (by omega))
  have bgN : 184467440737095516170001 ≤ BG 184467440737095516170001 := BG_le _
  have uz := un_lo 0
  refine go_lconst (pc := 0) (v := 0) (by decide) dX8_uses_0 ?_
  refine go_lstore (pc := 1) (Nat.le_of_ble_eq_true rfl) dX8_uses_1 (go_lv (lv2 := [(0, .ref 70), (1, .int a2), (2, .int a3), (3, .int a4), (4, .int a5), (5, .long 0)]) rfl ?_)
  refine go_iload_n (pc := 3) rfl dX8_uses_3 ?_
  refine go_iconst (pc := 4) (v := (-1)) (by decide) dX8_uses_4 ?_
  refine gf_icmp_ne (pc := 5) (tgt := 12) (ti_rfl a4) (ti_c (v := (-1)) (a := (-1)) (by decide)) (by decide) dX8_uses_5 (fun q138 => ?_) (fun q138 => ?_)
  ·
    have k139 := if_t k0 q138
    refine go_lconst (pc := 12) (v := 1) (by decide) dX8_uses_12 ?_
    refine go_iload_n (pc := 13) rfl dX8_uses_13 ?_
    refine gx_lshl (pc := 14) dX8_uses_14 (fun v140 v140x => ?_)
    have k141 := bd_e k139 (so_lshl (ti_rfl a4) v140x)
    refine go_lstore (pc := 15) (Nat.le_of_ble_eq_true rfl) dX8_uses_15 (go_lv (lv2 := [(0, .ref 70), (1, .int a2), (2, .int a3), (3, .int a4), (4, .int a5), (5, .long 0), (7, .long v140)]) rfl ?_)
    refine go_iload_n (pc := 17) rfl dX8_uses_17 ?_
    refine go_iconst (pc := 18) (v := (-1)) (by decide) dX8_uses_18 ?_
    refine gf_icmp_ne (pc := 19) (tgt := 26) (ti_rfl a4) (ti_c (v := (-1)) (a := (-1)) (by decide)) (by decide) dX8_uses_19 (fun q142 => ?_) (fun q142 => False.elim (by omega))
    refine go_iconst (pc := 26) (v := 0) (by decide) dX8_uses_26 ?_
    refine go_istore (pc := 27) (Nat.le_of_ble_eq_true rfl) dX8_uses_27 (go_lv (lv2 := [(0, .ref 70), (1, .int a2), (2, .int a3), (3, .int a4), (4, .int a5), (5, .long 0), (7, .long v140), (9, .int 0)]) rfl ?_)
    have z143 : (0 : Int32).toInt = 0 := (ti_c (v := 0) (a := 0) (by decide))
    exact go_lv rfl ((key (BG 184467440737095516170001)).1 a2 a3 a5 0 v140 0 h hv (by omega) (by omega) (by omega) (by omega) (by omega) (by omega) (by omega) (by omega) (DJ.zero _) ⟨un_lo _, un_hi _⟩ fx (by rw [show (0 : Int32).toInt = 0 from (ti_c (v := 0) (a := 0) (by decide))]; exact k141) (by omega))
  ·
    have k144 := if_f k0 (fun z => z q138)
    refine go_lconst (pc := 8) (v := 0) (by decide) dX8_uses_8 ?_
    refine go_goto (pc := 9) (tgt := 15) (by decide) dX8_uses_9 ?_
    refine go_lstore (pc := 15) (Nat.le_of_ble_eq_true rfl) dX8_uses_15 (go_lv (lv2 := [(0, .ref 70), (1, .int a2), (2, .int a3), (3, .int a4), (4, .int a5), (5, .long 0), (7, .long 0)]) rfl ?_)
    refine go_iload_n (pc := 17) rfl dX8_uses_17 ?_
    refine go_iconst (pc := 18) (v := (-1)) (by decide) dX8_uses_18 ?_
    refine gf_icmp_ne (pc := 19) (tgt := 26) (ti_rfl a4) (ti_c (v := (-1)) (a := (-1)) (by decide)) (by decide) dX8_uses_19 (fun q145 => False.elim (by omega)) (fun q145 => ?_)
    refine go_iconst (pc := 22) (v := 1) (by decide) dX8_uses_22 ?_
    refine go_goto (pc := 23) (tgt := 27) (by decide) dX8_uses_23 ?_
    refine go_istore (pc := 27) (Nat.le_of_ble_eq_true rfl) dX8_uses_27 (go_lv (lv2 := [(0, .ref 70), (1, .int a2), (2, .int a3), (3, .int a4), (4, .int a5), (5, .long 0), (7, .long 0), (9, .int 1)]) rfl ?_)
    have z146 : (1 : Int32).toInt = 1 := (ti_c (v := 1) (a := 1) (by decide))
    exact go_lv rfl ((key (BG 184467440737095516170001)).1 a2 a3 a5 0 0 1 h hv (by omega) (by omega) (by omega) (by omega) (by omega) (by omega) (by omega) (by omega) (DJ.zero _) ⟨un_lo _, un_hi _⟩ fx (by rw [show (1 : Int32).toInt = 1 from (ti_c (v := 1) (a := 1) (by decide))]; exact k144) (by omega))
noncomputable def f_X8_usesOperand2 (s : ST) (a2 : Int) (a3 : Int) (a4 : Int) : ST :=
  bd (f_X8_item2 s a3) fun v4 => bd (s.1 89 (((2 * v4) + a4)).toNat) fun v10 => if v10 < 1000 then (s) else (bd (f_X8_procedureOf2 s a3) fun v17 => bd (f_X8_uses2 s a2 v17 a3 ((v10 - 1000))) fun s21 => s21)
set_option maxHeartbeats 4000000 in
set_option maxRecDepth 100000 in
theorem s_X8_usesOperand2_f (l : Launch) (d : Nat) {P : PP} {h : HP} (hv : Iv P h) (a2 : Int32) (a2l : 0 ≤ a2.toInt) (a2u : a2.toInt ≤ 584) (a3 : Int32) (a3l : 0 ≤ a3.toInt) (a3u : a3.toInt ≤ 39) (a4 : Int32) (a4l : 0 ≤ a4.toInt) (a4u : a4.toInt ≤ 1) (ckf : CKF h.2.1) (ht : TR h.2.1 (h.2.1 70 6).toInt) (hs : a3.toInt < V h.2.1 75 (h.2.1 70 6).toInt) : Mt l yX8_usesOperand cX8_usesOperand 5 none (d + 6) [.ref 70, .int a2, .int a3, .int a4] h 0 0 (fun r h' => r = none ∧ Iv P h' ∧ (st h' = f_X8_usesOperand2 (st h) a2.toInt a3.toInt a4.toInt) ∧ (FX KAr h h')) := by
  refine Mt_iv hv (by decide) (Nat.le_of_ble_eq_true rfl) ?_
  show Go l RX8 cX8_usesOperand 5 (g_rm (d + 6) 0 0) "usesOperand" none 117 0 0 (fun _ _ => True) (fun r h' => r = none ∧ Iv P h' ∧ (st h' = f_X8_usesOperand2 (st h) a2.toInt a3.toInt a4.toInt) ∧ (FX KAr h h')) 0 0 [(0, .ref 70), (1, .int a2), (2, .int a3), (3, .int a4)] [] h
  obtain ⟨S, hS⟩ : ∃ S : Int, S = (h.2.1 70 6).toInt := ⟨_, rfl⟩
  have S0 : 0 ≤ S := by rw [hS]; exact (hv.2.1 70 6).1
  have S1 : S ≤ 1 := by rw [hS]; exact (hv.2.1 70 6).2
  rw [← hS] at ht
  rw [← hS] at hs
  have fx : FX KAr h h := FX.rfl
  obtain ⟨fin, kf⟩ : ∃ z, z = f_X8_usesOperand2 (st h) a2.toInt a3.toInt a4.toInt := ⟨_, _root_.rfl⟩
  have k0 := kf
  unfold f_X8_usesOperand2 at k0
  refine go_aload_n (pc := 0) rfl dX8_usesOperand_0 ?_
  refine gi_getF (pc := 1) (q := 89) hv fL_X8_65 rfl (Nat.le_of_ble_eq_true rfl) rfl (hv.rf (by decide)) dX8_usesOperand_1 ?_
  refine go_iconst (pc := 4) (v := 2) (by decide) dX8_usesOperand_4 ?_
  refine go_aload_n (pc := 5) rfl dX8_usesOperand_5 ?_
  refine go_iload_n (pc := 6) rfl dX8_usesOperand_6 ?_
  refine go_invV (pc := 7) (sl := 0) (s_X8_item2_f l (d + 4) hv a3 (by rw [show (a3 : Int32).toInt = a3.toInt from (ti_rfl a3)]; omega) (by rw [show (a3 : Int32).toInt = a3.toInt from (ti_rfl a3)]; omega)) mL_X8_268 iM_X8_item sM_X8_item (hv.sh rfl) rfl rfl rfl (Nat.le_of_ble_eq_true rfl) (show d + 4 + 1 + 1 ≤ d + 6 by omega) (show 8 + (2 + 11) + 40 * (d + 4 + 1) ≤ 40 * (d + 6) by omega) (g_c0 hv.ln) (Nat.le_of_ble_eq_true rfl) dX8_usesOperand_7 ?_
  intro r h1 hq _
  obtain ⟨v4, rfl, v4l, v4u, rfl, f2, f3⟩ := hq
  have v4K : v4.toInt = V h.2.1 93 (40 * S + a3.toInt) := by rw [f2]; unfold g_it; rw [← hS]; rfl
  replace f3 : PE _ _ := f3
  have k5 := bd_e k0 f3.symm
  refine gf_imul (pc := 10) (ti_c (v := 2) (a := 2) (by decide)) (ti_rfl v4) (by omega) (by omega) dX8_usesOperand_10 (fun v6 e7 => ?_)
  refine go_iload_n (pc := 11) rfl dX8_usesOperand_11 ?_
  refine gf_iadd (pc := 12) e7 (ti_rfl a4) (by omega) (by omega) dX8_usesOperand_12 (fun v8 e9 => ?_)
  refine gi_iald (pc := 13) (lo := 0) (hi := 9999) (len := 520) hv e9 rfl (by omega) (by omega) (fun _ => rfl) dX8_usesOperand_13 (fun v10 v10l v10u v10w => ?_)
  have k11 := bd_e k5 (congrArg Int32.toInt v10w.symm)
  have v10V : v10.toInt = V h.2.1 89 (((2 * v4.toInt) + a4.toInt)) := by rw [v10w]; rfl
  have ii : II h.2.1 S v4.toInt := by rw [v4K]; exact ht.2.2.2.2.2.2 a3.toInt (by omega) hs
  have t3 := (ht.2.2.2.1 v4.toInt ii).2.2.2
  have k9 : v10.toInt ≤ 1009 := by
    have e : a4.toInt = 0 ∨ a4.toInt = 1 := by omega
    rcases e with e | e
    · rw [v10V, e, Int.add_zero]; exact t3.1
    · rw [v10V, e]; exact t3.2
  refine go_istore (pc := 14) (Nat.le_of_ble_eq_true rfl) dX8_usesOperand_14 (go_lv (lv2 := [(0, .ref 70), (1, .int a2), (2, .int a3), (3, .int a4), (4, .int v10)]) rfl ?_)
  refine go_iload (pc := 16) rfl dX8_usesOperand_16 ?_
  refine go_sipush (pc := 18) (v := 1000) (by decide) dX8_usesOperand_18 ?_
  refine gf_icmp_lt (pc := 21) (tgt := 41) (ti_rfl v10) (ti_c (v := 1000) (a := 1000) (by decide)) (by decide) dX8_usesOperand_21 (fun q12 => ?_) (fun q12 => ?_)
  ·
    have k13 := if_t k11 q12
    exact gi_vret (pc := 41) ⟨rfl, hv, (k13.symm.trans kf), fx⟩ hv dX8_usesOperand_41
  ·
    have k14 := if_f k11 (Int.not_lt.mpr q12)
    refine go_aload_n (pc := 24) rfl dX8_usesOperand_24 ?_
    refine go_iload_n (pc := 25) rfl dX8_usesOperand_25 ?_
    refine go_aload_n (pc := 26) rfl dX8_usesOperand_26 ?_
    refine go_iload_n (pc := 27) rfl dX8_usesOperand_27 ?_
    refine go_invV (pc := 28) (sl := 0) (s_X8_procedureOf2_f l (d + 3) hv a3 (by rw [show (a3 : Int32).toInt = a3.toInt from (ti_rfl a3)]; omega) (by rw [show (a3 : Int32).toInt = a3.toInt from (ti_rfl a3)]; omega)) mL_X8_306 iM_X8_procedureOf sM_X8_procedureOf (hv.sh rfl) rfl rfl rfl (Nat.le_of_ble_eq_true rfl) (show d + 3 + 2 + 1 ≤ d + 6 by omega) (show 8 + (2 + 11) + 40 * (d + 3 + 2) ≤ 40 * (d + 6) by omega) (g_c0 hv.ln) (Nat.le_of_ble_eq_true rfl) dX8_usesOperand_28 ?_
    intro r h15 hq _
    obtain ⟨v17, rfl, v17l, v17u, rfl, f16⟩ := hq
    replace f16 : PE _ _ := f16
    have k18 := bd_e k14 f16.symm
    refine go_iload_n (pc := 31) rfl dX8_usesOperand_31 ?_
    refine go_iload (pc := 32) rfl dX8_usesOperand_32 ?_
    refine go_sipush (pc := 34) (v := 1000) (by decide) dX8_usesOperand_34 ?_
    refine gf_isub (pc := 37) (ti_rfl v10) (ti_c (v := 1000) (a := 1000) (by decide)) (by omega) (by omega) dX8_usesOperand_37 (fun v19 e20 => ?_)
    refine go_invV (pc := 38) (sl := 0) (s_X8_uses2_f l (d + 0) hv a2 (by rw [show (a2 : Int32).toInt = a2.toInt from (ti_rfl a2)]; omega) (by rw [show (a2 : Int32).toInt = a2.toInt from (ti_rfl a2)]; omega) v17 (by rw [show (v17 : Int32).toInt = v17.toInt from (ti_rfl v17)]; omega) (by rw [show (v17 : Int32).toInt = v17.toInt from (ti_rfl v17)]; omega) a3 (by rw [show (a3 : Int32).toInt = a3.toInt from (ti_rfl a3)]; omega) (by rw [show (a3 : Int32).toInt = a3.toInt from (ti_rfl a3)]; omega) v19 (by rw [show (v19 : Int32).toInt = (v10.toInt - 1000) from e20]; omega) (by rw [show (v19 : Int32).toInt = (v10.toInt - 1000) from e20]; omega) (CKF.ve (VE.of hv hv) ckf)) mL_X8_312 iM_X8_uses sM_X8_uses (hv.sh rfl) rfl rfl rfl (Nat.le_of_ble_eq_true rfl) (show d + 0 + 5 + 1 ≤ d + 6 by omega) (show 8 + (14 + 11) + 40 * (d + 0 + 5) ≤ 40 * (d + 6) by omega) (g_c0 hv.ln) (Nat.le_of_ble_eq_true rfl) dX8_usesOperand_38 ?_
    intro r h21 hq _
    obtain ⟨rfl, hv21, f22, f23⟩ := hq
    try rw [show (v19 : Int32).toInt = (v10.toInt - 1000) from e20] at f22
    try rw [show (v19 : Int32).toInt = (v10.toInt - 1000) from e20] at f23
    have fx21 : FX KAr h h21 := FX.tr fx f23
    have k24 := bd_e k18 f22.symm
    exact gi_vret (pc := 41) ⟨rfl, hv21, (k24.symm.trans kf), fx21⟩ hv21 dX8_usesOperand_41
def f_X8_isAnyHung2_ : Nat → Nat → Int → Int → Int → Int → ST → Int
  | 0, _, _, _, _, _, _ => 0
  | n + 1, lab, l1, l2, l3, l4, s => if lab = 2 then (if 13 ≤ l3 then (0) else (f_X8_isAnyHung2_ n 11 l1 l2 l3 0 s)) else if 13 ≤ l4 then (f_X8_isAnyHung2_ n 2 l1 l2 ((l3 + 1)) 0 s) else (bd (f_X8_statementPlace2 s l1 l3) fun v13 => bd (f_X8_statementPlace2 s l2 l4) fun v17 => bd (f_X8_isHung2 s v13 v17) fun v21 => if v21 = 0 then (f_X8_isAnyHung2_ n 11 l1 l2 l3 ((l4 + 1)) s) else (1))
def f_X8_isAnyHung2 (s : ST) (a2 : Int) (a3 : Int) : Int :=
  f_X8_isAnyHung2_ 733 2 a2 a3 0 0 s
set_option maxHeartbeats 4000000 in
set_option maxRecDepth 100000 in
theorem s_X8_isAnyHung2_f (l : Launch) (d : Nat) {P : PP} {h : HP} (hv : Iv P h) (a2 : Int32) (a2l : 0 ≤ a2.toInt) (a2u : a2.toInt ≤ 39) (a3 : Int32) (a3l : 0 ≤ a3.toInt) (a3u : a3.toInt ≤ 39) : Mt l yX8_isAnyHung cX8_isAnyHung 5 (some .boolean) (d + 2) [.ref 70, .int a2, .int a3] h 0 0 (fun r h' => ∃ v : Int32, r = some (.int v) ∧ 0 ≤ v.toInt ∧ v.toInt ≤ 1 ∧ h = h' ∧ (v.toInt = f_X8_isAnyHung2 (st h) a2.toInt a3.toInt)) := by
  refine Mt_iv hv (by decide) (Nat.le_of_ble_eq_true rfl) ?_
  show Go l RX8 cX8_isAnyHung 5 (g_rm (d + 2) 0 0) "isAnyHung" (some .boolean) 117 0 0 (fun _ _ => True) (fun r h' => ∃ v : Int32, r = some (.int v) ∧ 0 ≤ v.toInt ∧ v.toInt ≤ 1 ∧ h = h' ∧ (v.toInt = f_X8_isAnyHung2 (st h) a2.toInt a3.toInt)) 0 0 [(0, .ref 70), (1, .int a2), (2, .int a3)] [] h
  obtain ⟨fin, kf⟩ : ∃ z, z = f_X8_isAnyHung2 (st h) a2.toInt a3.toInt := ⟨_, _root_.rfl⟩
  have k0 := kf
  unfold f_X8_isAnyHung2 at k0
  have key : ∀ n : Nat, (∀ (l1 : Int32) (l2 : Int32) (l3 : Int32), 0 ≤ l1.toInt → l1.toInt ≤ 39 → 0 ≤ l2.toInt → l2.toInt ≤ 39 → 0 ≤ l3.toInt → l3.toInt ≤ 13 → fin = f_X8_isAnyHung2_ n 2 l1.toInt l2.toInt l3.toInt 0 (st h) → (48 * (13 - l3.toInt) + 47 : Int) < n → Go l RX8 cX8_isAnyHung 5 (g_rm (d + 2) 0 0) "isAnyHung" (some .boolean) 117 0 0 (fun _ _ => True) (fun r h' => ∃ v : Int32, r = some (.int v) ∧ 0 ≤ v.toInt ∧ v.toInt ≤ 1 ∧ h = h' ∧ (v.toInt = f_X8_isAnyHung2 (st h) a2.toInt a3.toInt)) 0 2 [(0, .ref 70), (1, .int l1), (2, .int l2), (3, .int l3)] [] h) ∧ (∀ (l1 : Int32) (l2 : Int32) (l3 : Int32) (l4 : Int32), 0 ≤ l1.toInt → l1.toInt ≤ 39 → 0 ≤ l2.toInt → l2.toInt ≤ 39 → 0 ≤ l3.toInt → l3.toInt ≤ 12 → 0 ≤ l4.toInt → l4.toInt ≤ 13 → fin = f_X8_isAnyHung2_ n 11 l1.toInt l2.toInt l3.toInt l4.toInt (st h) → (3 * (13 - l4.toInt) + 48 * (13 - l3.toInt) + 3 : Int) < n → Go l RX8 cX8_isAnyHung 5 (g_rm (d + 2) 0 0) "isAnyHung" (some .boolean) 117 0 0 (fun _ _ => True) (fun r h' => ∃ v : Int32, r = some (.int v) ∧ 0 ≤ v.toInt ∧ v.toInt ≤ 1 ∧ h = h' ∧ (v.toInt = f_X8_isAnyHung2 (st h) a2.toInt a3.toInt)) 0 11 [(0, .ref 70), (1, .int l1), (2, .int l2), (3, .int l3), (4, .int l4)] [] h) := by
    intro n
    induction n with
    | zero => exact ⟨(by intros; omega), (by intros; omega)⟩
    | succ n ih =>
      refine ⟨?_, ?_⟩
      ·
        intro l1 l2 l3 l1l l1u l2l l2u l3l l3u kL hm
        rw [f_X8_isAnyHung2_] at kL
        replace kL := if_t kL _root_.rfl
        refine go_iload_n (pc := 2) rfl dX8_isAnyHung_2 ?_
        refine go_bipush (pc := 3) (v := 13) (by decide) dX8_isAnyHung_3 ?_
        refine gf_icmp_ge (pc := 5) (tgt := 50) (ti_rfl l3) (ti_c (v := 13) (a := 13) (by decide)) (by decide) dX8_isAnyHung_5 (fun q1 => ?_) (fun q1 => ?_)
        ·
          have k2 := if_t kL q1
          refine go_iconst (pc := 50) (v := 0) (by decide) dX8_isAnyHung_50 ?_
          exact gi_zret (pc := 51) (ti_c (v := 0) (a := 0) (by decide)) (by omega) (by omega) ⟨_, rfl, (by rw [show (0 : Int32).toInt = 0 from (ti_c (v := 0) (a := 0) (by decide))]; omega), (by rw [show (0 : Int32).toInt = 0 from (ti_c (v := 0) (a := 0) (by decide))]; omega), rfl, (by rw [show (0 : Int32).toInt = 0 from (ti_c (v := 0) (a := 0) (by decide))]; exact k2.symm.trans kf)⟩ hv dX8_isAnyHung_51
        ·
          have k3 := if_f kL (Int.not_le.mpr q1)
          refine go_iconst (pc := 8) (v := 0) (by decide) dX8_isAnyHung_8 ?_
          refine go_istore (pc := 9) (Nat.le_of_ble_eq_true rfl) dX8_isAnyHung_9 (go_lv (lv2 := [(0, .ref 70), (1, .int l1), (2, .int l2), (3, .int l3), (4, .int 0)]) rfl ?_)
          have z4 : (0 : Int32).toInt = 0 := (ti_c (v := 0) (a := 0) (by decide))
          exact go_lv rfl (ih.2 l1 l2 l3 0  (by omega) (by omega) (by omega) (by omega) (by omega) (by omega) (by omega) (by omega) (by rw [show (0 : Int32).toInt = 0 from (ti_c (v := 0) (a := 0) (by decide))]; exact k3) (by omega))
      ·
        intro l1 l2 l3 l4 l1l l1u l2l l2u l3l l3u l4l l4u kL hm
        rw [f_X8_isAnyHung2_] at kL
        replace kL := if_f kL (by decide)
        refine go_iload (pc := 11) rfl dX8_isAnyHung_11 ?_
        refine go_bipush (pc := 13) (v := 13) (by decide) dX8_isAnyHung_13 ?_
        refine gf_icmp_ge (pc := 15) (tgt := 44) (ti_rfl l4) (ti_c (v := 13) (a := 13) (by decide)) (by decide) dX8_isAnyHung_15 (fun q5 => ?_) (fun q5 => ?_)
        ·
          have k6 := if_t kL q5
          refine gf_iinc (pc := 44) (Nat.le_of_ble_eq_true rfl) rfl (ti_rfl l3) (ti_c (by decide)) (by omega) (by omega) dX8_isAnyHung_44 (fun v7 e8 => ?_)
          refine go_lv (lv2 := [(0, .ref 70), (1, .int l1), (2, .int l2), (3, .int v7), (4, .int l4)]) rfl ?_
          refine go_goto (pc := 47) (tgt := 2) (by decide) dX8_isAnyHung_47 ?_
          have z9 : (v7 : Int32).toInt = (l3.toInt + 1) := e8
          exact go_lv rfl (ih.1 l1 l2 v7  (by omega) (by omega) (by omega) (by omega) (by omega) (by omega) (by rw [show (v7 : Int32).toInt = (l3.toInt + 1) from e8]; exact k6) (by omega))
        ·
          have k10 := if_f kL (Int.not_le.mpr q5)
          refine go_aload_n (pc := 18) rfl dX8_isAnyHung_18 ?_
          refine go_iload_n (pc := 19) rfl dX8_isAnyHung_19 ?_
          refine go_iload_n (pc := 20) rfl dX8_isAnyHung_20 ?_
          refine go_invS (pc := 21) (sl := 0) (s_X8_statementPlace2_f l (d + 0) hv l1 (by rw [show (l1 : Int32).toInt = l1.toInt from (ti_rfl l1)]; omega) (by rw [show (l1 : Int32).toInt = l1.toInt from (ti_rfl l1)]; omega) l3 (by rw [show (l3 : Int32).toInt = l3.toInt from (ti_rfl l3)]; omega) (by rw [show (l3 : Int32).toInt = l3.toInt from (ti_rfl l3)]; omega)) mL_X8_291 iM_X8_statementPlace rfl rfl (Nat.le_of_ble_eq_true rfl) (show d + 0 + 1 + 1 ≤ d + 2 by omega) (show 8 + (2 + 11) + 40 * (d + 0 + 1) ≤ 40 * (d + 2) by omega) (g_c0 hv.ln) (Nat.le_of_ble_eq_true rfl) dX8_isAnyHung_21 ?_
          intro r h11 hq _
          obtain ⟨v13, rfl, v13l, v13u, rfl, f12⟩ := hq
          replace f12 : PE _ _ := f12
          have k14 := bd_e k10 f12.symm
          refine go_iload_n (pc := 24) rfl dX8_isAnyHung_24 ?_
          refine go_iload (pc := 25) rfl dX8_isAnyHung_25 ?_
          refine go_invS (pc := 27) (sl := 0) (s_X8_statementPlace2_f l (d + 0) hv l2 (by rw [show (l2 : Int32).toInt = l2.toInt from (ti_rfl l2)]; omega) (by rw [show (l2 : Int32).toInt = l2.toInt from (ti_rfl l2)]; omega) l4 (by rw [show (l4 : Int32).toInt = l4.toInt from (ti_rfl l4)]; omega) (by rw [show (l4 : Int32).toInt = l4.toInt from (ti_rfl l4)]; omega)) mL_X8_291 iM_X8_statementPlace rfl rfl (Nat.le_of_ble_eq_true rfl) (show d + 0 + 1 + 1 ≤ d + 2 by omega) (show 8 + (2 + 11) + 40 * (d + 0 + 1) ≤ 40 * (d + 2) by omega) (g_c0 hv.ln) (Nat.le_of_ble_eq_true rfl) dX8_isAnyHung_27 ?_
          intro r h15 hq _
          obtain ⟨v17, rfl, v17l, v17u, rfl, f16⟩ := hq
          replace f16 : PE _ _ := f16
          have k18 := bd_e k14 f16.symm
          refine go_invV (pc := 30) (sl := 0) (s_X8_isHung2_f l (d + 0) hv v13 (by rw [show (v13 : Int32).toInt = v13.toInt from (ti_rfl v13)]; omega) (by rw [show (v13 : Int32).toInt = v13.toInt from (ti_rfl v13)]; omega) v17 (by rw [show (v17 : Int32).toInt = v17.toInt from (ti_rfl v17)]; omega) (by rw [show (v17 : Int32).toInt = v17.toInt from (ti_rfl v17)]; omega)) mL_X8_326 iM_X8_isHung sM_X8_isHung (hv.sh rfl) rfl rfl rfl (Nat.le_of_ble_eq_true rfl) (show d + 0 + 1 + 1 ≤ d + 2 by omega) (show 8 + (3 + 11) + 40 * (d + 0 + 1) ≤ 40 * (d + 2) by omega) (g_c0 hv.ln) (Nat.le_of_ble_eq_true rfl) dX8_isAnyHung_30 ?_
          intro r h19 hq _
          obtain ⟨v21, rfl, v21l, v21u, rfl, f20⟩ := hq
          replace f20 : PE _ _ := f20
          have k22 := bd_e k18 f20.symm
          refine gf_if_eq (pc := 33) (tgt := 38) (ti_rfl v21) (by decide) dX8_isAnyHung_33 (fun q23 => ?_) (fun q23 => ?_)
          ·
            have k24 := if_t k22 q23
            refine gf_iinc (pc := 38) (Nat.le_of_ble_eq_true rfl) rfl (ti_rfl l4) (ti_c (by decide)) (by omega) (by omega) dX8_isAnyHung_38 (fun v25 e26 => ?_)
            refine go_lv (lv2 := [(0, .ref 70), (1, .int l1), (2, .int l2), (3, .int l3), (4, .int v25)]) rfl ?_
            refine go_goto (pc := 41) (tgt := 11) (by decide) dX8_isAnyHung_41 ?_
            have z27 : (v25 : Int32).toInt = (l4.toInt + 1) := e26
            exact go_lv rfl (ih.2 l1 l2 l3 v25  (by omega) (by omega) (by omega) (by omega) (by omega) (by omega) (by omega) (by omega) (by rw [show (v25 : Int32).toInt = (l4.toInt + 1) from e26]; exact k24) (by omega))
          ·
            have k28 := if_f k22 q23
            refine go_iconst (pc := 36) (v := 1) (by decide) dX8_isAnyHung_36 ?_
            exact gi_zret (pc := 37) (ti_c (v := 1) (a := 1) (by decide)) (by omega) (by omega) ⟨_, rfl, (by rw [show (1 : Int32).toInt = 1 from (ti_c (v := 1) (a := 1) (by decide))]; omega), (by rw [show (1 : Int32).toInt = 1 from (ti_c (v := 1) (a := 1) (by decide))]; omega), rfl, (by rw [show (1 : Int32).toInt = 1 from (ti_c (v := 1) (a := 1) (by decide))]; exact k28.symm.trans kf)⟩ hv dX8_isAnyHung_37
  refine go_iconst (pc := 0) (v := 0) (by decide) dX8_isAnyHung_0 ?_
  refine go_istore_n (pc := 1) (Nat.le_of_ble_eq_true rfl) dX8_isAnyHung_1 (go_lv (lv2 := [(0, .ref 70), (1, .int a2), (2, .int a3), (3, .int 0)]) rfl ?_)
  have z29 : (0 : Int32).toInt = 0 := (ti_c (v := 0) (a := 0) (by decide))
  exact go_lv rfl ((key 733).1 a2 a3 0  (by omega) (by omega) (by omega) (by omega) (by omega) (by omega) (by rw [show (0 : Int32).toInt = 0 from (ti_c (v := 0) (a := 0) (by decide))]; exact k0) (by omega))
def f_X8_ends_x2 (s : ST) (a2 : Int) : ST :=
  bd (f_X8_procedureOf2 s a2) fun v3 => bd (s.1 70 6) fun v5 => bd (s.1 98 (((40 * v5) + a2)).toNat) fun v11 => if ¬ v11 = (-1) then (bd (f_X8_kindAt2 s a2) fun v18 => if v18 = 5 then (bd (f_X8_isThrowing2 s a2) fun v24 => if v24 = 0 then (bd (f_X8_procedurePlace2 s v3 7) fun v31 => bd (f_X8_statementPlace2 s a2 0) fun v35 => bd (f_X8_hang2 s v31 v35) fun s37 => bd (s37.1 70 6) fun v42 => bd (s37.1 102 (((5 * v42) + v3)).toNat) fun v48 => if ¬ v48 = 0 then (bd (f_X8_procedurePlace2 s37 v3 8) fun v55 => bd (f_X8_statementPlace2 s37 a2 0) fun v59 => bd (f_X8_hang2 s37 v55 v59) fun s61 => s61) else (s37)) else (bd (f_X8_procedurePlace2 s v3 7) fun v72 => bd (f_X8_statementPlace2 s a2 0) fun v76 => bd (f_X8_hang2 s v72 v76) fun s78 => bd (s78.1 70 6) fun v83 => bd (s78.1 102 (((5 * v83) + v3)).toNat) fun v89 => if ¬ v89 = 0 then (bd (f_X8_procedurePlace2 s78 v3 8) fun v96 => bd (f_X8_statementPlace2 s78 a2 0) fun v100 => bd (f_X8_hang2 s78 v96 v100) fun s102 => s102) else (s78))) else (bd (f_X8_kindAt2 s a2) fun v112 => if ¬ v112 = 4 then (bd (f_X8_isThrowing2 s a2) fun v118 => if v118 = 0 then (bd (s.1 102 (((5 * v5) + v3)).toNat) fun v129 => if ¬ v129 = 0 then (s) else (s)) else (bd (s.1 102 (((5 * v5) + v3)).toNat) fun v145 => if ¬ v145 = 0 then (s) else (s))) else (bd (f_X8_isThrowing2 s a2) fun v156 => if v156 = 0 then (bd (s.1 102 (((5 * v5) + v3)).toNat) fun v167 => if ¬ v167 = 0 then (s) else (s)) else (bd (s.1 102 (((5 * v5) + v3)).toNat) fun v183 => if ¬ v183 = 0 then (s) else (s))))) else (bd (s.1 99 (((40 * v5) + a2)).toNat) fun v196 => if ¬ v196 = (-1) then (bd (f_X8_kindAt2 s a2) fun v203 => if v203 = 5 then (bd (f_X8_isThrowing2 s a2) fun v209 => if v209 = 0 then (bd (f_X8_procedurePlace2 s v3 7) fun v216 => bd (f_X8_statementPlace2 s a2 0) fun v220 => bd (f_X8_hang2 s v216 v220) fun s222 => bd (s222.1 70 6) fun v227 => bd (s222.1 102 (((5 * v227) + v3)).toNat) fun v233 => if ¬ v233 = 0 then (bd (f_X8_procedurePlace2 s222 v3 8) fun v240 => bd (f_X8_statementPlace2 s222 a2 0) fun v244 => bd (f_X8_hang2 s222 v240 v244) fun s246 => s246) else (s222)) else (bd (f_X8_procedurePlace2 s v3 7) fun v257 => bd (f_X8_statementPlace2 s a2 0) fun v261 => bd (f_X8_hang2 s v257 v261) fun s263 => bd (s263.1 70 6) fun v268 => bd (s263.1 102 (((5 * v268) + v3)).toNat) fun v274 => if ¬ v274 = 0 then (bd (f_X8_procedurePlace2 s263 v3 8) fun v281 => bd (f_X8_statementPlace2 s263 a2 0) fun v285 => bd (f_X8_hang2 s263 v281 v285) fun s287 => s287) else (s263))) else (bd (f_X8_kindAt2 s a2) fun v297 => if ¬ v297 = 4 then (bd (f_X8_isThrowing2 s a2) fun v303 => if v303 = 0 then (bd (s.1 102 (((5 * v5) + v3)).toNat) fun v314 => if ¬ v314 = 0 then (s) else (s)) else (bd (s.1 102 (((5 * v5) + v3)).toNat) fun v330 => if ¬ v330 = 0 then (s) else (s))) else (bd (f_X8_isThrowing2 s a2) fun v341 => if v341 = 0 then (bd (s.1 102 (((5 * v5) + v3)).toNat) fun v352 => if ¬ v352 = 0 then (s) else (s)) else (bd (s.1 102 (((5 * v5) + v3)).toNat) fun v368 => if ¬ v368 = 0 then (s) else (s))))) else (bd (f_X8_kindAt2 s a2) fun v379 => if v379 = 5 then (bd (f_X8_isThrowing2 s a2) fun v385 => if v385 = 0 then (bd (f_X8_procedurePlace2 s v3 7) fun v392 => bd (f_X8_statementPlace2 s a2 0) fun v396 => bd (f_X8_hang2 s v392 v396) fun s398 => bd (s398.1 70 6) fun v403 => bd (s398.1 102 (((5 * v403) + v3)).toNat) fun v409 => if ¬ v409 = 0 then (bd (f_X8_procedurePlace2 s398 v3 8) fun v416 => bd (f_X8_statementPlace2 s398 a2 0) fun v420 => bd (f_X8_hang2 s398 v416 v420) fun s422 => s422) else (s398)) else (bd (f_X8_procedurePlace2 s v3 7) fun v433 => bd (f_X8_statementPlace2 s a2 0) fun v437 => bd (f_X8_hang2 s v433 v437) fun s439 => bd (f_X8_procedurePlace2 s439 v3 7) fun v446 => bd (f_X8_statementPlace2 s439 a2 7) fun v450 => bd (f_X8_hang2 s439 v446 v450) fun s452 => bd (s452.1 70 6) fun v456 => bd (s452.1 102 (((5 * v456) + v3)).toNat) fun v462 => if ¬ v462 = 0 then (bd (f_X8_procedurePlace2 s452 v3 8) fun v469 => bd (f_X8_statementPlace2 s452 a2 0) fun v473 => bd (f_X8_hang2 s452 v469 v473) fun s475 => bd (f_X8_procedurePlace2 s475 v3 8) fun v482 => bd (f_X8_statementPlace2 s475 a2 8) fun v486 => bd (f_X8_hang2 s475 v482 v486) fun s488 => s488) else (s452))) else (bd (f_X8_kindAt2 s a2) fun v497 => if ¬ v497 = 4 then (bd (f_X8_isThrowing2 s a2) fun v503 => if v503 = 0 then (bd (s.1 102 (((5 * v5) + v3)).toNat) fun v514 => if ¬ v514 = 0 then (s) else (s)) else (bd (f_X8_procedurePlace2 s v3 7) fun v527 => bd (f_X8_statementPlace2 s a2 7) fun v531 => bd (f_X8_hang2 s v527 v531) fun s533 => bd (s533.1 70 6) fun v537 => bd (s533.1 102 (((5 * v537) + v3)).toNat) fun v543 => if ¬ v543 = 0 then (bd (f_X8_procedurePlace2 s533 v3 8) fun v551 => bd (f_X8_statementPlace2 s533 a2 8) fun v555 => bd (f_X8_hang2 s533 v551 v555) fun s557 => s557) else (s533))) else (bd (f_X8_isThrowing2 s a2) fun v566 => if v566 = 0 then (bd (f_X8_procedurePlace2 s v3 7) fun v573 => bd (f_X8_statementPlace2 s a2 0) fun v577 => bd (f_X8_hang2 s v573 v577) fun s579 => bd (s579.1 70 6) fun v584 => bd (s579.1 102 (((5 * v584) + v3)).toNat) fun v590 => if ¬ v590 = 0 then (bd (f_X8_procedurePlace2 s579 v3 8) fun v597 => bd (f_X8_statementPlace2 s579 a2 0) fun v601 => bd (f_X8_hang2 s579 v597 v601) fun s603 => s603) else (s579)) else (bd (f_X8_procedurePlace2 s v3 7) fun v614 => bd (f_X8_statementPlace2 s a2 0) fun v618 => bd (f_X8_hang2 s v614 v618) fun s620 => bd (f_X8_procedurePlace2 s620 v3 7) fun v627 => bd (f_X8_statementPlace2 s620 a2 7) fun v631 => bd (f_X8_hang2 s620 v627 v631) fun s633 => bd (s633.1 70 6) fun v637 => bd (s633.1 102 (((5 * v637) + v3)).toNat) fun v643 => if ¬ v643 = 0 then (bd (f_X8_procedurePlace2 s633 v3 8) fun v650 => bd (f_X8_statementPlace2 s633 a2 0) fun v654 => bd (f_X8_hang2 s633 v650 v654) fun s656 => bd (f_X8_procedurePlace2 s656 v3 8) fun v663 => bd (f_X8_statementPlace2 s656 a2 8) fun v667 => bd (f_X8_hang2 s656 v663 v667) fun s669 => s669) else (s633))))))
set_option maxHeartbeats 4000000 in
set_option maxRecDepth 100000 in
theorem s_X8_ends_x2_f (l : Launch) (d : Nat) {P : PP} {h : HP} (hv : Iv P h) (a2 : Int32) (a2l : 0 ≤ a2.toInt) (a2u : a2.toInt ≤ 39) (ckf : CKF h.2.1) : Mt l yX8_ends cX8_ends 6 none (d + 4) [.ref 70, .int a2] h 0 0 (fun r h' => r = none ∧ Iv P h' ∧ (st h' = f_X8_ends_x2 (st h) a2.toInt) ∧ (FX KAr h h')) := by
  refine Mt_iv hv (by decide) (Nat.le_of_ble_eq_true rfl) ?_
  show Go l RX8 cX8_ends 6 (g_rm (d + 4) 0 0) "ends" none 117 0 0 (fun _ _ => True) (fun r h' => r = none ∧ Iv P h' ∧ (st h' = f_X8_ends_x2 (st h) a2.toInt) ∧ (FX KAr h h')) 0 0 [(0, .ref 70), (1, .int a2)] [] h
  have ck : CK P := CK.of hv ckf
  have fx : FX KAr h h := FX.rfl
  obtain ⟨fin, kf⟩ : ∃ z, z = f_X8_ends_x2 (st h) a2.toInt := ⟨_, _root_.rfl⟩
  have k0 := kf
  unfold f_X8_ends_x2 at k0
  refine go_aload_n (pc := 0) rfl dX8_ends_0 ?_
  refine go_iload_n (pc := 1) rfl dX8_ends_1 ?_
  refine go_invV (pc := 2) (sl := 0) (s_X8_procedureOf2_f l (d + 1) hv a2 (by rw [show (a2 : Int32).toInt = a2.toInt from (ti_rfl a2)]; omega) (by rw [show (a2 : Int32).toInt = a2.toInt from (ti_rfl a2)]; omega)) mL_X8_306 iM_X8_procedureOf sM_X8_procedureOf (hv.sh rfl) rfl rfl rfl (Nat.le_of_ble_eq_true rfl) (show d + 1 + 2 + 1 ≤ d + 4 by omega) (show 8 + (2 + 11) + 40 * (d + 1 + 2) ≤ 40 * (d + 4) by omega) (g_c0 hv.ln) (Nat.le_of_ble_eq_true rfl) dX8_ends_2 ?_
  intro r h1 hq _
  obtain ⟨v3, rfl, v3l, v3u, rfl, f2⟩ := hq
  replace f2 : PE _ _ := f2
  have k4 := bd_e k0 f2.symm
  refine go_istore_n (pc := 5) (Nat.le_of_ble_eq_true rfl) dX8_ends_5 (go_lv (lv2 := [(0, .ref 70), (1, .int a2), (2, .int v3)]) rfl ?_)
  refine go_aload_n (pc := 6) rfl dX8_ends_6 ?_
  refine gi_getF (pc := 7) (q := 98) hv fL_X8_92 rfl (Nat.le_of_ble_eq_true rfl) rfl (hv.rf (by decide)) dX8_ends_7 ?_
  refine go_bipush (pc := 10) (v := 40) (by decide) dX8_ends_10 ?_
  refine go_aload_n (pc := 12) rfl dX8_ends_12 ?_
  refine gi_get (pc := 13) (lo := 0) (hi := 1) hv fL_X8_187 rfl (Nat.le_of_ble_eq_true rfl) rfl rfl dX8_ends_13 (fun v5 v5l v5u v5w => ?_)
  have k6 := bd_e k4 (congrArg Int32.toInt v5w.symm)
  refine gf_imul (pc := 16) (ti_c (v := 40) (a := 40) (by decide)) (ti_rfl v5) (by omega) (by omega) dX8_ends_16 (fun v7 e8 => ?_)
  refine go_iload_n (pc := 17) rfl dX8_ends_17 ?_
  refine gf_iadd (pc := 18) e8 (ti_rfl a2) (by omega) (by omega) dX8_ends_18 (fun v9 e10 => ?_)
  refine gi_iald (pc := 19) (lo := -1) (hi := 39) (len := 80) hv e10 rfl (by omega) (by omega) (fun _ => rfl) dX8_ends_19 (fun v11 v11l v11u v11w => ?_)
  have k12 := bd_e k6 (congrArg Int32.toInt v11w.symm)
  refine go_iconst (pc := 20) (v := (-1)) (by decide) dX8_ends_20 ?_
  refine gf_icmp_ne (pc := 21) (tgt := 46) (ti_rfl v11) (ti_c (v := (-1)) (a := (-1)) (by decide)) (by decide) dX8_ends_21 (fun q13 => ?_) (fun q13 => ?_)
  ·
    have k14 := if_t k12 q13
    refine go_iconst (pc := 46) (v := 0) (by decide) dX8_ends_46 ?_
    refine go_istore_n (pc := 47) (Nat.le_of_ble_eq_true rfl) dX8_ends_47 (go_lv (lv2 := [(0, .ref 70), (1, .int a2), (2, .int v3), (3, .int 0)]) rfl ?_)
    refine go_aload_n (pc := 48) rfl dX8_ends_48 ?_
    refine go_iload_n (pc := 49) rfl dX8_ends_49 ?_
    refine go_invV (pc := 50) (sl := 0) (s_X8_kindAt2_f l (d + 1) hv a2 (by rw [show (a2 : Int32).toInt = a2.toInt from (ti_rfl a2)]; omega) (by rw [show (a2 : Int32).toInt = a2.toInt from (ti_rfl a2)]; omega)) mL_X8_271 iM_X8_kindAt sM_X8_kindAt (hv.sh rfl) rfl rfl rfl (Nat.le_of_ble_eq_true rfl) (show d + 1 + 2 + 1 ≤ d + 4 by omega) (show 8 + (2 + 11) + 40 * (d + 1 + 2) ≤ 40 * (d + 4) by omega) (g_c0 hv.ln) (Nat.le_of_ble_eq_true rfl) dX8_ends_50 ?_
    intro r h15 hq _
    obtain ⟨v18, rfl, v18l, v18u, rfl, f16, f17⟩ := hq
    replace f17 : PE _ _ := f17
    have k19 := bd_e k14 f17.symm
    refine go_iconst (pc := 53) (v := 5) (by decide) dX8_ends_53 ?_
    refine gf_icmp_eq (pc := 54) (tgt := 70) (ti_rfl v18) (ti_c (v := 5) (a := 5) (by decide)) (by decide) dX8_ends_54 (fun q20 => ?_) (fun q20 => ?_)
    ·
      have k21 := if_t k19 q20
      refine go_iconst (pc := 70) (v := 1) (by decide) dX8_ends_70 ?_
      refine go_goto (pc := 71) (tgt := 75) (by decide) dX8_ends_71 ?_
      refine go_istore (pc := 75) (Nat.le_of_ble_eq_true rfl) dX8_ends_75 (go_lv (lv2 := [(0, .ref 70), (1, .int a2), (2, .int v3), (3, .int 0), (4, .int 1)]) rfl ?_)
      refine go_aload_n (pc := 77) rfl dX8_ends_77 ?_
      refine go_iload_n (pc := 78) rfl dX8_ends_78 ?_
      refine go_invV (pc := 79) (sl := 0) (s_X8_isThrowing2_f l (d + 0) hv a2 (by rw [show (a2 : Int32).toInt = a2.toInt from (ti_rfl a2)]; omega) (by rw [show (a2 : Int32).toInt = a2.toInt from (ti_rfl a2)]; omega) ck) mL_X8_277 iM_X8_isThrowing sM_X8_isThrowing (hv.sh rfl) rfl rfl rfl (Nat.le_of_ble_eq_true rfl) (show d + 0 + 3 + 1 ≤ d + 4 by omega) (show 8 + (2 + 11) + 40 * (d + 0 + 3) ≤ 40 * (d + 4) by omega) (g_c0 hv.ln) (Nat.le_of_ble_eq_true rfl) dX8_ends_79 ?_
      intro r h22 hq _
      obtain ⟨v24, rfl, v24l, v24u, rfl, f23⟩ := hq
      replace f23 : PE _ _ := f23
      have k25 := bd_e k21 f23.symm
      refine gf_if_eq (pc := 82) (tgt := 93) (ti_rfl v24) (by decide) dX8_ends_82 (fun q26 => ?_) (fun q26 => ?_)
      ·
        have k27 := if_t k25 q26
        refine go_iconst (pc := 93) (v := 0) (by decide) dX8_ends_93 ?_
        refine go_istore (pc := 94) (Nat.le_of_ble_eq_true rfl) dX8_ends_94 (go_lv (lv2 := [(0, .ref 70), (1, .int a2), (2, .int v3), (3, .int 0), (4, .int 1), (5, .int 0)]) rfl ?_)
        refine go_iload (pc := 96) rfl dX8_ends_96 ?_
        refine gf_if_eq (pc := 98) (tgt := 116) (ti_c (v := 1) (a := 1) (by decide)) (by decide) dX8_ends_98 (fun q28 => False.elim (by omega)) (fun q28 => ?_)
        refine go_aload_n (pc := 101) rfl dX8_ends_101 ?_
        refine go_iload_n (pc := 102) rfl dX8_ends_102 ?_
        refine go_bipush (pc := 103) (v := 7) (by decide) dX8_ends_103 ?_
        refine go_invS (pc := 105) (sl := 0) (s_X8_procedurePlace2_f l (d + 2) hv v3 (by rw [show (v3 : Int32).toInt = v3.toInt from (ti_rfl v3)]; omega) (by rw [show (v3 : Int32).toInt = v3.toInt from (ti_rfl v3)]; omega) 7 (by rw [show (7 : Int32).toInt = 7 from (ti_c (v := 7) (a := 7) (by decide))]; omega) (by rw [show (7 : Int32).toInt = 7 from (ti_c (v := 7) (a := 7) (by decide))]; omega)) mL_X8_300 iM_X8_procedurePlace rfl rfl (Nat.le_of_ble_eq_true rfl) (show d + 2 + 1 + 1 ≤ d + 4 by omega) (show 8 + (2 + 11) + 40 * (d + 2 + 1) ≤ 40 * (d + 4) by omega) (g_c0 hv.ln) (Nat.le_of_ble_eq_true rfl) dX8_ends_105 ?_
        intro r h29 hq _
        obtain ⟨v31, rfl, v31l, v31u, rfl, f30⟩ := hq
        try rw [show (7 : Int32).toInt = 7 from (ti_c (v := 7) (a := 7) (by decide))] at f30
        replace f30 : PE _ _ := f30
        have k32 := bd_e k27 f30.symm
        refine go_iload_n (pc := 108) rfl dX8_ends_108 ?_
        refine go_iconst (pc := 109) (v := 0) (by decide) dX8_ends_109 ?_
        refine go_invS (pc := 110) (sl := 0) (s_X8_statementPlace2_f l (d + 2) hv a2 (by rw [show (a2 : Int32).toInt = a2.toInt from (ti_rfl a2)]; omega) (by rw [show (a2 : Int32).toInt = a2.toInt from (ti_rfl a2)]; omega) 0 (by rw [show (0 : Int32).toInt = 0 from (ti_c (v := 0) (a := 0) (by decide))]; omega) (by rw [show (0 : Int32).toInt = 0 from (ti_c (v := 0) (a := 0) (by decide))]; omega)) mL_X8_291 iM_X8_statementPlace rfl rfl (Nat.le_of_ble_eq_true rfl) (show d + 2 + 1 + 1 ≤ d + 4 by omega) (show 8 + (2 + 11) + 40 * (d + 2 + 1) ≤ 40 * (d + 4) by omega) (g_c0 hv.ln) (Nat.le_of_ble_eq_true rfl) dX8_ends_110 ?_
        intro r h33 hq _
        obtain ⟨v35, rfl, v35l, v35u, rfl, f34⟩ := hq
        try rw [show (0 : Int32).toInt = 0 from (ti_c (v := 0) (a := 0) (by decide))] at f34
        replace f34 : PE _ _ := f34
        have k36 := bd_e k32 f34.symm
        refine go_invV (pc := 113) (sl := 0) (s_X8_hang2_f l (d + 2) hv v31 (by rw [show (v31 : Int32).toInt = v31.toInt from (ti_rfl v31)]; omega) (by rw [show (v31 : Int32).toInt = v31.toInt from (ti_rfl v31)]; omega) v35 (by rw [show (v35 : Int32).toInt = v35.toInt from (ti_rfl v35)]; omega) (by rw [show (v35 : Int32).toInt = v35.toInt from (ti_rfl v35)]; omega)) mL_X8_303 iM_X8_hang sM_X8_hang (hv.sh rfl) rfl rfl rfl (Nat.le_of_ble_eq_true rfl) (show d + 2 + 1 + 1 ≤ d + 4 by omega) (show 8 + (3 + 11) + 40 * (d + 2 + 1) ≤ 40 * (d + 4) by omega) (g_c0 hv.ln) (Nat.le_of_ble_eq_true rfl) dX8_ends_113 ?_
        intro r h37 hq _
        obtain ⟨rfl, hv37, f38, f39⟩ := hq
        have fx37 : FX KAr h h37 := FX.tr fx f39
        have k40 := bd_e k36 f38.symm
        refine go_iload (pc := 116) rfl dX8_ends_116 ?_
        refine gf_if_eq (pc := 118) (tgt := 137) (ti_c (v := 0) (a := 0) (by decide)) (by decide) dX8_ends_118 (fun q41 => ?_) (fun q41 => False.elim (by omega))
        refine go_aload_n (pc := 137) rfl dX8_ends_137 ?_
        refine gi_getF (pc := 138) (q := 102) hv37 fL_X8_105 rfl (Nat.le_of_ble_eq_true rfl) rfl (hv37.rf (by decide)) dX8_ends_138 ?_
        refine go_iconst (pc := 141) (v := 5) (by decide) dX8_ends_141 ?_
        refine go_aload_n (pc := 142) rfl dX8_ends_142 ?_
        refine gi_get (pc := 143) (lo := 0) (hi := 1) hv37 fL_X8_187 rfl (Nat.le_of_ble_eq_true rfl) rfl rfl dX8_ends_143 (fun v42 v42l v42u v42w => ?_)
        have k43 := bd_e k40 (congrArg Int32.toInt v42w.symm)
        refine gf_imul (pc := 146) (ti_c (v := 5) (a := 5) (by decide)) (ti_rfl v42) (by omega) (by omega) dX8_ends_146 (fun v44 e45 => ?_)
        refine go_iload_n (pc := 147) rfl dX8_ends_147 ?_
        refine gf_iadd (pc := 148) e45 (ti_rfl v3) (by omega) (by omega) dX8_ends_148 (fun v46 e47 => ?_)
        refine gi_zald (pc := 149) (lo := 0) (hi := 1) (len := 10) hv37 e47 rfl (by omega) (by omega) (fun _ => rfl) dX8_ends_149 (fun v48 v48l v48u v48w => ?_)
        have k49 := bd_e k43 (congrArg Int32.toInt v48w.symm)
        refine gf_if_ne (pc := 150) (tgt := 154) (ti_rfl v48) (by decide) dX8_ends_150 (fun q50 => ?_) (fun q50 => ?_)
        ·
          have k51 := if_t k49 q50
          refine go_iload (pc := 154) rfl dX8_ends_154 ?_
          refine gf_if_eq (pc := 156) (tgt := 174) (ti_c (v := 1) (a := 1) (by decide)) (by decide) dX8_ends_156 (fun q52 => False.elim (by omega)) (fun q52 => ?_)
          refine go_aload_n (pc := 159) rfl dX8_ends_159 ?_
          refine go_iload_n (pc := 160) rfl dX8_ends_160 ?_
          refine go_bipush (pc := 161) (v := 8) (by decide) dX8_ends_161 ?_
          refine go_invS (pc := 163) (sl := 0) (s_X8_procedurePlace2_f l (d + 2) hv37 v3 (by rw [show (v3 : Int32).toInt = v3.toInt from (ti_rfl v3)]; omega) (by rw [show (v3 : Int32).toInt = v3.toInt from (ti_rfl v3)]; omega) 8 (by rw [show (8 : Int32).toInt = 8 from (ti_c (v := 8) (a := 8) (by decide))]; omega) (by rw [show (8 : Int32).toInt = 8 from (ti_c (v := 8) (a := 8) (by decide))]; omega)) mL_X8_300 iM_X8_procedurePlace rfl rfl (Nat.le_of_ble_eq_true rfl) (show d + 2 + 1 + 1 ≤ d + 4 by omega) (show 8 + (2 + 11) + 40 * (d + 2 + 1) ≤ 40 * (d + 4) by omega) (g_c0 hv37.ln) (Nat.le_of_ble_eq_true rfl) dX8_ends_163 ?_
          intro r h53 hq _
          obtain ⟨v55, rfl, v55l, v55u, rfl, f54⟩ := hq
          try rw [show (8 : Int32).toInt = 8 from (ti_c (v := 8) (a := 8) (by decide))] at f54
          replace f54 : PE _ _ := f54
          have k56 := bd_e k51 f54.symm
          refine go_iload_n (pc := 166) rfl dX8_ends_166 ?_
          refine go_iconst (pc := 167) (v := 0) (by decide) dX8_ends_167 ?_
          refine go_invS (pc := 168) (sl := 0) (s_X8_statementPlace2_f l (d + 2) hv37 a2 (by rw [show (a2 : Int32).toInt = a2.toInt from (ti_rfl a2)]; omega) (by rw [show (a2 : Int32).toInt = a2.toInt from (ti_rfl a2)]; omega) 0 (by rw [show (0 : Int32).toInt = 0 from (ti_c (v := 0) (a := 0) (by decide))]; omega) (by rw [show (0 : Int32).toInt = 0 from (ti_c (v := 0) (a := 0) (by decide))]; omega)) mL_X8_291 iM_X8_statementPlace rfl rfl (Nat.le_of_ble_eq_true rfl) (show d + 2 + 1 + 1 ≤ d + 4 by omega) (show 8 + (2 + 11) + 40 * (d + 2 + 1) ≤ 40 * (d + 4) by omega) (g_c0 hv37.ln) (Nat.le_of_ble_eq_true rfl) dX8_ends_168 ?_
          intro r h57 hq _
          obtain ⟨v59, rfl, v59l, v59u, rfl, f58⟩ := hq
          try rw [show (0 : Int32).toInt = 0 from (ti_c (v := 0) (a := 0) (by decide))] at f58
          replace f58 : PE _ _ := f58
          have k60 := bd_e k56 f58.symm
          refine go_invV (pc := 171) (sl := 0) (s_X8_hang2_f l (d + 2) hv37 v55 (by rw [show (v55 : Int32).toInt = v55.toInt from (ti_rfl v55)]; omega) (by rw [show (v55 : Int32).toInt = v55.toInt from (ti_rfl v55)]; omega) v59 (by rw [show (v59 : Int32).toInt = v59.toInt from (ti_rfl v59)]; omega) (by rw [show (v59 : Int32).toInt = v59.toInt from (ti_rfl v59)]; omega)) mL_X8_303 iM_X8_hang sM_X8_hang (hv37.sh rfl) rfl rfl rfl (Nat.le_of_ble_eq_true rfl) (show d + 2 + 1 + 1 ≤ d + 4 by omega) (show 8 + (3 + 11) + 40 * (d + 2 + 1) ≤ 40 * (d + 4) by omega) (g_c0 hv37.ln) (Nat.le_of_ble_eq_true rfl) dX8_ends_171 ?_
          intro r h61 hq _
          obtain ⟨rfl, hv61, f62, f63⟩ := hq
          have fx61 : FX KAr h h61 := FX.tr fx37 f63
          have k64 := bd_e k60 f62.symm
          refine go_iload (pc := 174) rfl dX8_ends_174 ?_
          refine gf_if_eq (pc := 176) (tgt := 195) (ti_c (v := 0) (a := 0) (by decide)) (by decide) dX8_ends_176 (fun q65 => ?_) (fun q65 => False.elim (by omega))
          exact gi_vret (pc := 195) ⟨rfl, hv61, (k64.symm.trans kf), fx61⟩ hv61 dX8_ends_195
        ·
          have k66 := if_f k49 (fun z => z q50)
          exact gi_vret (pc := 153) ⟨rfl, hv37, (k66.symm.trans kf), fx37⟩ hv37 dX8_ends_153
      ·
        have k67 := if_f k25 q26
        refine go_iload_n (pc := 85) rfl dX8_ends_85 ?_
        refine gf_if_eq (pc := 86) (tgt := 93) (ti_c (v := 0) (a := 0) (by decide)) (by decide) dX8_ends_86 (fun q68 => ?_) (fun q68 => False.elim (by omega))
        refine go_iconst (pc := 93) (v := 0) (by decide) dX8_ends_93 ?_
        refine go_istore (pc := 94) (Nat.le_of_ble_eq_true rfl) dX8_ends_94 (go_lv (lv2 := [(0, .ref 70), (1, .int a2), (2, .int v3), (3, .int 0), (4, .int 1), (5, .int 0)]) rfl ?_)
        refine go_iload (pc := 96) rfl dX8_ends_96 ?_
        refine gf_if_eq (pc := 98) (tgt := 116) (ti_c (v := 1) (a := 1) (by decide)) (by decide) dX8_ends_98 (fun q69 => False.elim (by omega)) (fun q69 => ?_)
        refine go_aload_n (pc := 101) rfl dX8_ends_101 ?_
        refine go_iload_n (pc := 102) rfl dX8_ends_102 ?_
        refine go_bipush (pc := 103) (v := 7) (by decide) dX8_ends_103 ?_
        refine go_invS (pc := 105) (sl := 0) (s_X8_procedurePlace2_f l (d + 2) hv v3 (by rw [show (v3 : Int32).toInt = v3.toInt from (ti_rfl v3)]; omega) (by rw [show (v3 : Int32).toInt = v3.toInt from (ti_rfl v3)]; omega) 7 (by rw [show (7 : Int32).toInt = 7 from (ti_c (v := 7) (a := 7) (by decide))]; omega) (by rw [show (7 : Int32).toInt = 7 from (ti_c (v := 7) (a := 7) (by decide))]; omega)) mL_X8_300 iM_X8_procedurePlace rfl rfl (Nat.le_of_ble_eq_true rfl) (show d + 2 + 1 + 1 ≤ d + 4 by omega) (show 8 + (2 + 11) + 40 * (d + 2 + 1) ≤ 40 * (d + 4) by omega) (g_c0 hv.ln) (Nat.le_of_ble_eq_true rfl) dX8_ends_105 ?_
        intro r h70 hq _
        obtain ⟨v72, rfl, v72l, v72u, rfl, f71⟩ := hq
        try rw [show (7 : Int32).toInt = 7 from (ti_c (v := 7) (a := 7) (by decide))] at f71
        replace f71 : PE _ _ := f71
        have k73 := bd_e k67 f71.symm
        refine go_iload_n (pc := 108) rfl dX8_ends_108 ?_
        refine go_iconst (pc := 109) (v := 0) (by decide) dX8_ends_109 ?_
        refine go_invS (pc := 110) (sl := 0) (s_X8_statementPlace2_f l (d + 2) hv a2 (by rw [show (a2 : Int32).toInt = a2.toInt from (ti_rfl a2)]; omega) (by rw [show (a2 : Int32).toInt = a2.toInt from (ti_rfl a2)]; omega) 0 (by rw [show (0 : Int32).toInt = 0 from (ti_c (v := 0) (a := 0) (by decide))]; omega) (by rw [show (0 : Int32).toInt = 0 from (ti_c (v := 0) (a := 0) (by decide))]; omega)) mL_X8_291 iM_X8_statementPlace rfl rfl (Nat.le_of_ble_eq_true rfl) (show d + 2 + 1 + 1 ≤ d + 4 by omega) (show 8 + (2 + 11) + 40 * (d + 2 + 1) ≤ 40 * (d + 4) by omega) (g_c0 hv.ln) (Nat.le_of_ble_eq_true rfl) dX8_ends_110 ?_
        intro r h74 hq _
        obtain ⟨v76, rfl, v76l, v76u, rfl, f75⟩ := hq
        try rw [show (0 : Int32).toInt = 0 from (ti_c (v := 0) (a := 0) (by decide))] at f75
        replace f75 : PE _ _ := f75
        have k77 := bd_e k73 f75.symm
        refine go_invV (pc := 113) (sl := 0) (s_X8_hang2_f l (d + 2) hv v72 (by rw [show (v72 : Int32).toInt = v72.toInt from (ti_rfl v72)]; omega) (by rw [show (v72 : Int32).toInt = v72.toInt from (ti_rfl v72)]; omega) v76 (by rw [show (v76 : Int32).toInt = v76.toInt from (ti_rfl v76)]; omega) (by rw [show (v76 : Int32).toInt = v76.toInt from (ti_rfl v76)]; omega)) mL_X8_303 iM_X8_hang sM_X8_hang (hv.sh rfl) rfl rfl rfl (Nat.le_of_ble_eq_true rfl) (show d + 2 + 1 + 1 ≤ d + 4 by omega) (show 8 + (3 + 11) + 40 * (d + 2 + 1) ≤ 40 * (d + 4) by omega) (g_c0 hv.ln) (Nat.le_of_ble_eq_true rfl) dX8_ends_113 ?_
        intro r h78 hq _
        obtain ⟨rfl, hv78, f79, f80⟩ := hq
        have fx78 : FX KAr h h78 := FX.tr fx f80
        have k81 := bd_e k77 f79.symm
        refine go_iload (pc := 116) rfl dX8_ends_116 ?_
        refine gf_if_eq (pc := 118) (tgt := 137) (ti_c (v := 0) (a := 0) (by decide)) (by decide) dX8_ends_118 (fun q82 => ?_) (fun q82 => False.elim (by omega))
        refine go_aload_n (pc := 137) rfl dX8_ends_137 ?_
        refine gi_getF (pc := 138) (q := 102) hv78 fL_X8_105 rfl (Nat.le_of_ble_eq_true rfl) rfl (hv78.rf (by decide)) dX8_ends_138 ?_
        refine go_iconst (pc := 141) (v := 5) (by decide) dX8_ends_141 ?_
        refine go_aload_n (pc := 142) rfl dX8_ends_142 ?_
        refine gi_get (pc := 143) (lo := 0) (hi := 1) hv78 fL_X8_187 rfl (Nat.le_of_ble_eq_true rfl) rfl rfl dX8_ends_143 (fun v83 v83l v83u v83w => ?_)
        have k84 := bd_e k81 (congrArg Int32.toInt v83w.symm)
        refine gf_imul (pc := 146) (ti_c (v := 5) (a := 5) (by decide)) (ti_rfl v83) (by omega) (by omega) dX8_ends_146 (fun v85 e86 => ?_)
        refine go_iload_n (pc := 147) rfl dX8_ends_147 ?_
        refine gf_iadd (pc := 148) e86 (ti_rfl v3) (by omega) (by omega) dX8_ends_148 (fun v87 e88 => ?_)
        refine gi_zald (pc := 149) (lo := 0) (hi := 1) (len := 10) hv78 e88 rfl (by omega) (by omega) (fun _ => rfl) dX8_ends_149 (fun v89 v89l v89u v89w => ?_)
        have k90 := bd_e k84 (congrArg Int32.toInt v89w.symm)
        refine gf_if_ne (pc := 150) (tgt := 154) (ti_rfl v89) (by decide) dX8_ends_150 (fun q91 => ?_) (fun q91 => ?_)
        ·
          have k92 := if_t k90 q91
          refine go_iload (pc := 154) rfl dX8_ends_154 ?_
          refine gf_if_eq (pc := 156) (tgt := 174) (ti_c (v := 1) (a := 1) (by decide)) (by decide) dX8_ends_156 (fun q93 => False.elim (by omega)) (fun q93 => ?_)
          refine go_aload_n (pc := 159) rfl dX8_ends_159 ?_
          refine go_iload_n (pc := 160) rfl dX8_ends_160 ?_
          refine go_bipush (pc := 161) (v := 8) (by decide) dX8_ends_161 ?_
          refine go_invS (pc := 163) (sl := 0) (s_X8_procedurePlace2_f l (d + 2) hv78 v3 (by rw [show (v3 : Int32).toInt = v3.toInt from (ti_rfl v3)]; omega) (by rw [show (v3 : Int32).toInt = v3.toInt from (ti_rfl v3)]; omega) 8 (by rw [show (8 : Int32).toInt = 8 from (ti_c (v := 8) (a := 8) (by decide))]; omega) (by rw [show (8 : Int32).toInt = 8 from (ti_c (v := 8) (a := 8) (by decide))]; omega)) mL_X8_300 iM_X8_procedurePlace rfl rfl (Nat.le_of_ble_eq_true rfl) (show d + 2 + 1 + 1 ≤ d + 4 by omega) (show 8 + (2 + 11) + 40 * (d + 2 + 1) ≤ 40 * (d + 4) by omega) (g_c0 hv78.ln) (Nat.le_of_ble_eq_true rfl) dX8_ends_163 ?_
          intro r h94 hq _
          obtain ⟨v96, rfl, v96l, v96u, rfl, f95⟩ := hq
          try rw [show (8 : Int32).toInt = 8 from (ti_c (v := 8) (a := 8) (by decide))] at f95
          replace f95 : PE _ _ := f95
          have k97 := bd_e k92 f95.symm
          refine go_iload_n (pc := 166) rfl dX8_ends_166 ?_
          refine go_iconst (pc := 167) (v := 0) (by decide) dX8_ends_167 ?_
          refine go_invS (pc := 168) (sl := 0) (s_X8_statementPlace2_f l (d + 2) hv78 a2 (by rw [show (a2 : Int32).toInt = a2.toInt from (ti_rfl a2)]; omega) (by rw [show (a2 : Int32).toInt = a2.toInt from (ti_rfl a2)]; omega) 0 (by rw [show (0 : Int32).toInt = 0 from (ti_c (v := 0) (a := 0) (by decide))]; omega) (by rw [show (0 : Int32).toInt = 0 from (ti_c (v := 0) (a := 0) (by decide))]; omega)) mL_X8_291 iM_X8_statementPlace rfl rfl (Nat.le_of_ble_eq_true rfl) (show d + 2 + 1 + 1 ≤ d + 4 by omega) (show 8 + (2 + 11) + 40 * (d + 2 + 1) ≤ 40 * (d + 4) by omega) (g_c0 hv78.ln) (Nat.le_of_ble_eq_true rfl) dX8_ends_168 ?_
          intro r h98 hq _
          obtain ⟨v100, rfl, v100l, v100u, rfl, f99⟩ := hq
          try rw [show (0 : Int32).toInt = 0 from (ti_c (v := 0) (a := 0) (by decide))] at f99
          replace f99 : PE _ _ := f99
          have k101 := bd_e k97 f99.symm
          refine go_invV (pc := 171) (sl := 0) (s_X8_hang2_f l (d + 2) hv78 v96 (by rw [show (v96 : Int32).toInt = v96.toInt from (ti_rfl v96)]; omega) (by rw [show (v96 : Int32).toInt = v96.toInt from (ti_rfl v96)]; omega) v100 (by rw [show (v100 : Int32).toInt = v100.toInt from (ti_rfl v100)]; omega) (by rw [show (v100 : Int32).toInt = v100.toInt from (ti_rfl v100)]; omega)) mL_X8_303 iM_X8_hang sM_X8_hang (hv78.sh rfl) rfl rfl rfl (Nat.le_of_ble_eq_true rfl) (show d + 2 + 1 + 1 ≤ d + 4 by omega) (show 8 + (3 + 11) + 40 * (d + 2 + 1) ≤ 40 * (d + 4) by omega) (g_c0 hv78.ln) (Nat.le_of_ble_eq_true rfl) dX8_ends_171 ?_
          intro r h102 hq _
          obtain ⟨rfl, hv102, f103, f104⟩ := hq
          have fx102 : FX KAr h h102 := FX.tr fx78 f104
          have k105 := bd_e k101 f103.symm
          refine go_iload (pc := 174) rfl dX8_ends_174 ?_
          refine gf_if_eq (pc := 176) (tgt := 195) (ti_c (v := 0) (a := 0) (by decide)) (by decide) dX8_ends_176 (fun q106 => ?_) (fun q106 => False.elim (by omega))
          exact gi_vret (pc := 195) ⟨rfl, hv102, (k105.symm.trans kf), fx102⟩ hv102 dX8_ends_195
        ·
          have k107 := if_f k90 (fun z => z q91)
          exact gi_vret (pc := 153) ⟨rfl, hv78, (k107.symm.trans kf), fx78⟩ hv78 dX8_ends_153
    ·
      have k108 := if_f k19 q20
      refine go_aload_n (pc := 57) rfl dX8_ends_57 ?_
      refine go_iload_n (pc := 58) rfl dX8_ends_58 ?_
      refine go_invV (pc := 59) (sl := 0) (s_X8_kindAt2_f l (d + 1) hv a2 (by rw [show (a2 : Int32).toInt = a2.toInt from (ti_rfl a2)]; omega) (by rw [show (a2 : Int32).toInt = a2.toInt from (ti_rfl a2)]; omega)) mL_X8_271 iM_X8_kindAt sM_X8_kindAt (hv.sh rfl) rfl rfl rfl (Nat.le_of_ble_eq_true rfl) (show d + 1 + 2 + 1 ≤ d + 4 by omega) (show 8 + (2 + 11) + 40 * (d + 1 + 2) ≤ 40 * (d + 4) by omega) (g_c0 hv.ln) (Nat.le_of_ble_eq_true rfl) dX8_ends_59 ?_
      intro r h109 hq _
      obtain ⟨v112, rfl, v112l, v112u, rfl, f110, f111⟩ := hq
      replace f111 : PE _ _ := f111
      have k113 := bd_e k108 f111.symm
      refine go_iconst (pc := 62) (v := 4) (by decide) dX8_ends_62 ?_
      refine gf_icmp_ne (pc := 63) (tgt := 74) (ti_rfl v112) (ti_c (v := 4) (a := 4) (by decide)) (by decide) dX8_ends_63 (fun q114 => ?_) (fun q114 => ?_)
      ·
        have k115 := if_t k113 q114
        refine go_iconst (pc := 74) (v := 0) (by decide) dX8_ends_74 ?_
        refine go_istore (pc := 75) (Nat.le_of_ble_eq_true rfl) dX8_ends_75 (go_lv (lv2 := [(0, .ref 70), (1, .int a2), (2, .int v3), (3, .int 0), (4, .int 0)]) rfl ?_)
        refine go_aload_n (pc := 77) rfl dX8_ends_77 ?_
        refine go_iload_n (pc := 78) rfl dX8_ends_78 ?_
        refine go_invV (pc := 79) (sl := 0) (s_X8_isThrowing2_f l (d + 0) hv a2 (by rw [show (a2 : Int32).toInt = a2.toInt from (ti_rfl a2)]; omega) (by rw [show (a2 : Int32).toInt = a2.toInt from (ti_rfl a2)]; omega) ck) mL_X8_277 iM_X8_isThrowing sM_X8_isThrowing (hv.sh rfl) rfl rfl rfl (Nat.le_of_ble_eq_true rfl) (show d + 0 + 3 + 1 ≤ d + 4 by omega) (show 8 + (2 + 11) + 40 * (d + 0 + 3) ≤ 40 * (d + 4) by omega) (g_c0 hv.ln) (Nat.le_of_ble_eq_true rfl) dX8_ends_79 ?_
        intro r h116 hq _
        obtain ⟨v118, rfl, v118l, v118u, rfl, f117⟩ := hq
        replace f117 : PE _ _ := f117
        have k119 := bd_e k115 f117.symm
        refine gf_if_eq (pc := 82) (tgt := 93) (ti_rfl v118) (by decide) dX8_ends_82 (fun q120 => ?_) (fun q120 => ?_)
        ·
          have k121 := if_t k119 q120
          refine go_iconst (pc := 93) (v := 0) (by decide) dX8_ends_93 ?_
          refine go_istore (pc := 94) (Nat.le_of_ble_eq_true rfl) dX8_ends_94 (go_lv (lv2 := [(0, .ref 70), (1, .int a2), (2, .int v3), (3, .int 0), (4, .int 0), (5, .int 0)]) rfl ?_)
          refine go_iload (pc := 96) rfl dX8_ends_96 ?_
          refine gf_if_eq (pc := 98) (tgt := 116) (ti_c (v := 0) (a := 0) (by decide)) (by decide) dX8_ends_98 (fun q122 => ?_) (fun q122 => False.elim (by omega))
          refine go_iload (pc := 116) rfl dX8_ends_116 ?_
          refine gf_if_eq (pc := 118) (tgt := 137) (ti_c (v := 0) (a := 0) (by decide)) (by decide) dX8_ends_118 (fun q123 => ?_) (fun q123 => False.elim (by omega))
          refine go_aload_n (pc := 137) rfl dX8_ends_137 ?_
          refine gi_getF (pc := 138) (q := 102) hv fL_X8_105 rfl (Nat.le_of_ble_eq_true rfl) rfl (hv.rf (by decide)) dX8_ends_138 ?_
          refine go_iconst (pc := 141) (v := 5) (by decide) dX8_ends_141 ?_
          refine go_aload_n (pc := 142) rfl dX8_ends_142 ?_
          refine gi_get (pc := 143) (lo := 0) (hi := 1) hv fL_X8_187 rfl (Nat.le_of_ble_eq_true rfl) rfl rfl dX8_ends_143 (fun v124 v124l v124u v124w => ?_)
          have v124r : v5 = h.2.1 70 6 := v5w
          have v124q : TI v124 v5.toInt := by rw [v124w.trans v124r.symm]; exact (ti_rfl v5)
          refine gf_imul (pc := 146) (ti_c (v := 5) (a := 5) (by decide)) v124q (by omega) (by omega) dX8_ends_146 (fun v125 e126 => ?_)
          refine go_iload_n (pc := 147) rfl dX8_ends_147 ?_
          refine gf_iadd (pc := 148) e126 (ti_rfl v3) (by omega) (by omega) dX8_ends_148 (fun v127 e128 => ?_)
          refine gi_zald (pc := 149) (lo := 0) (hi := 1) (len := 10) hv e128 rfl (by omega) (by omega) (fun _ => rfl) dX8_ends_149 (fun v129 v129l v129u v129w => ?_)
          have k130 := bd_e k121 (congrArg Int32.toInt v129w.symm)
          refine gf_if_ne (pc := 150) (tgt := 154) (ti_rfl v129) (by decide) dX8_ends_150 (fun q131 => ?_) (fun q131 => ?_)
          ·
            have k132 := if_t k130 q131
            refine go_iload (pc := 154) rfl dX8_ends_154 ?_
            refine gf_if_eq (pc := 156) (tgt := 174) (ti_c (v := 0) (a := 0) (by decide)) (by decide) dX8_ends_156 (fun q133 => ?_) (fun q133 => False.elim (by omega))
            refine go_iload (pc := 174) rfl dX8_ends_174 ?_
            refine gf_if_eq (pc := 176) (tgt := 195) (ti_c (v := 0) (a := 0) (by decide)) (by decide) dX8_ends_176 (fun q134 => ?_) (fun q134 => False.elim (by omega))
            exact gi_vret (pc := 195) ⟨rfl, hv, (k132.symm.trans kf), fx⟩ hv dX8_ends_195
          ·
            have k135 := if_f k130 (fun z => z q131)
            exact gi_vret (pc := 153) ⟨rfl, hv, (k135.symm.trans kf), fx⟩ hv dX8_ends_153
        ·
          have k136 := if_f k119 q120
          refine go_iload_n (pc := 85) rfl dX8_ends_85 ?_
          refine gf_if_eq (pc := 86) (tgt := 93) (ti_c (v := 0) (a := 0) (by decide)) (by decide) dX8_ends_86 (fun q137 => ?_) (fun q137 => False.elim (by omega))
          refine go_iconst (pc := 93) (v := 0) (by decide) dX8_ends_93 ?_
          refine go_istore (pc := 94) (Nat.le_of_ble_eq_true rfl) dX8_ends_94 (go_lv (lv2 := [(0, .ref 70), (1, .int a2), (2, .int v3), (3, .int 0), (4, .int 0), (5, .int 0)]) rfl ?_)
          refine go_iload (pc := 96) rfl dX8_ends_96 ?_
          refine gf_if_eq (pc := 98) (tgt := 116) (ti_c (v := 0) (a := 0) (by decide)) (by decide) dX8_ends_98 (fun q138 => ?_) (fun q138 => False.elim (by omega))
          refine go_iload (pc := 116) rfl dX8_ends_116 ?_
          refine gf_if_eq (pc := 118) (tgt := 137) (ti_c (v := 0) (a := 0) (by decide)) (by decide) dX8_ends_118 (fun q139 => ?_) (fun q139 => False.elim (by omega))
          refine go_aload_n (pc := 137) rfl dX8_ends_137 ?_
          refine gi_getF (pc := 138) (q := 102) hv fL_X8_105 rfl (Nat.le_of_ble_eq_true rfl) rfl (hv.rf (by decide)) dX8_ends_138 ?_
          refine go_iconst (pc := 141) (v := 5) (by decide) dX8_ends_141 ?_
          refine go_aload_n (pc := 142) rfl dX8_ends_142 ?_
          refine gi_get (pc := 143) (lo := 0) (hi := 1) hv fL_X8_187 rfl (Nat.le_of_ble_eq_true rfl) rfl rfl dX8_ends_143 (fun v140 v140l v140u v140w => ?_)
          have v140r : v5 = h.2.1 70 6 := v5w
          have v140q : TI v140 v5.toInt := by rw [v140w.trans v140r.symm]; exact (ti_rfl v5)
          refine gf_imul (pc := 146) (ti_c (v := 5) (a := 5) (by decide)) v140q (by omega) (by omega) dX8_ends_146 (fun v141 e142 => ?_)
          refine go_iload_n (pc := 147) rfl dX8_ends_147 ?_
          refine gf_iadd (pc := 148) e142 (ti_rfl v3) (by omega) (by omega) dX8_ends_148 (fun v143 e144 => ?_)
          refine gi_zald (pc := 149) (lo := 0) (hi := 1) (len := 10) hv e144 rfl (by omega) (by omega) (fun _ => rfl) dX8_ends_149 (fun v145 v145l v145u v145w => ?_)
          have k146 := bd_e k136 (congrArg Int32.toInt v145w.symm)
          refine gf_if_ne (pc := 150) (tgt := 154) (ti_rfl v145) (by decide) dX8_ends_150 (fun q147 => ?_) (fun q147 => ?_)
          ·
            have k148 := if_t k146 q147
            refine go_iload (pc := 154) rfl dX8_ends_154 ?_
            refine gf_if_eq (pc := 156) (tgt := 174) (ti_c (v := 0) (a := 0) (by decide)) (by decide) dX8_ends_156 (fun q149 => ?_) (fun q149 => False.elim (by omega))
            refine go_iload (pc := 174) rfl dX8_ends_174 ?_
            refine gf_if_eq (pc := 176) (tgt := 195) (ti_c (v := 0) (a := 0) (by decide)) (by decide) dX8_ends_176 (fun q150 => ?_) (fun q150 => False.elim (by omega))
            exact gi_vret (pc := 195) ⟨rfl, hv, (k148.symm.trans kf), fx⟩ hv dX8_ends_195
          ·
            have k151 := if_f k146 (fun z => z q147)
            exact gi_vret (pc := 153) ⟨rfl, hv, (k151.symm.trans kf), fx⟩ hv dX8_ends_153
      ·
        have k152 := if_f k113 (fun z => z q114)
        refine go_iload_n (pc := 66) rfl dX8_ends_66 ?_
        refine gf_if_eq (pc := 67) (tgt := 74) (ti_c (v := 0) (a := 0) (by decide)) (by decide) dX8_ends_67 (fun q153 => ?_) (fun q153 => False.elim (by omega))
        refine go_iconst (pc := 74) (v := 0) (by decide) dX8_ends_74 ?_
        refine go_istore (pc := 75) (Nat.le_of_ble_eq_true rfl) dX8_ends_75 (go_lv (lv2 := [(0, .ref 70), (1, .int a2), (2, .int v3), (3, .int 0), (4, .int 0)]) rfl ?_)
        refine go_aload_n (pc := 77) rfl dX8_ends_77 ?_
        refine go_iload_n (pc := 78) rfl dX8_ends_78 ?_
        refine go_invV (pc := 79) (sl := 0) (s_X8_isThrowing2_f l (d + 0) hv a2 (by rw [show (a2 : Int32).toInt = a2.toInt from (ti_rfl a2)]; omega) (by rw [show (a2 : Int32).toInt = a2.toInt from (ti_rfl a2)]; omega) ck) mL_X8_277 iM_X8_isThrowing sM_X8_isThrowing (hv.sh rfl) rfl rfl rfl (Nat.le_of_ble_eq_true rfl) (show d + 0 + 3 + 1 ≤ d + 4 by omega) (show 8 + (2 + 11) + 40 * (d + 0 + 3) ≤ 40 * (d + 4) by omega) (g_c0 hv.ln) (Nat.le_of_ble_eq_true rfl) dX8_ends_79 ?_
        intro r h154 hq _
        obtain ⟨v156, rfl, v156l, v156u, rfl, f155⟩ := hq
        replace f155 : PE _ _ := f155
        have k157 := bd_e k152 f155.symm
        refine gf_if_eq (pc := 82) (tgt := 93) (ti_rfl v156) (by decide) dX8_ends_82 (fun q158 => ?_) (fun q158 => ?_)
        ·
          have k159 := if_t k157 q158
          refine go_iconst (pc := 93) (v := 0) (by decide) dX8_ends_93 ?_
          refine go_istore (pc := 94) (Nat.le_of_ble_eq_true rfl) dX8_ends_94 (go_lv (lv2 := [(0, .ref 70), (1, .int a2), (2, .int v3), (3, .int 0), (4, .int 0), (5, .int 0)]) rfl ?_)
          refine go_iload (pc := 96) rfl dX8_ends_96 ?_
          refine gf_if_eq (pc := 98) (tgt := 116) (ti_c (v := 0) (a := 0) (by decide)) (by decide) dX8_ends_98 (fun q160 => ?_) (fun q160 => False.elim (by omega))
          refine go_iload (pc := 116) rfl dX8_ends_116 ?_
          refine gf_if_eq (pc := 118) (tgt := 137) (ti_c (v := 0) (a := 0) (by decide)) (by decide) dX8_ends_118 (fun q161 => ?_) (fun q161 => False.elim (by omega))
          refine go_aload_n (pc := 137) rfl dX8_ends_137 ?_
          refine gi_getF (pc := 138) (q := 102) hv fL_X8_105 rfl (Nat.le_of_ble_eq_true rfl) rfl (hv.rf (by decide)) dX8_ends_138 ?_
          refine go_iconst (pc := 141) (v := 5) (by decide) dX8_ends_141 ?_
          refine go_aload_n (pc := 142) rfl dX8_ends_142 ?_
          refine gi_get (pc := 143) (lo := 0) (hi := 1) hv fL_X8_187 rfl (Nat.le_of_ble_eq_true rfl) rfl rfl dX8_ends_143 (fun v162 v162l v162u v162w => ?_)
          have v162r : v5 = h.2.1 70 6 := v5w
          have v162q : TI v162 v5.toInt := by rw [v162w.trans v162r.symm]; exact (ti_rfl v5)
          refine gf_imul (pc := 146) (ti_c (v := 5) (a := 5) (by decide)) v162q (by omega) (by omega) dX8_ends_146 (fun v163 e164 => ?_)
          refine go_iload_n (pc := 147) rfl dX8_ends_147 ?_
          refine gf_iadd (pc := 148) e164 (ti_rfl v3) (by omega) (by omega) dX8_ends_148 (fun v165 e166 => ?_)
          refine gi_zald (pc := 149) (lo := 0) (hi := 1) (len := 10) hv e166 rfl (by omega) (by omega) (fun _ => rfl) dX8_ends_149 (fun v167 v167l v167u v167w => ?_)
          have k168 := bd_e k159 (congrArg Int32.toInt v167w.symm)
          refine gf_if_ne (pc := 150) (tgt := 154) (ti_rfl v167) (by decide) dX8_ends_150 (fun q169 => ?_) (fun q169 => ?_)
          ·
            have k170 := if_t k168 q169
            refine go_iload (pc := 154) rfl dX8_ends_154 ?_
            refine gf_if_eq (pc := 156) (tgt := 174) (ti_c (v := 0) (a := 0) (by decide)) (by decide) dX8_ends_156 (fun q171 => ?_) (fun q171 => False.elim (by omega))
            refine go_iload (pc := 174) rfl dX8_ends_174 ?_
            refine gf_if_eq (pc := 176) (tgt := 195) (ti_c (v := 0) (a := 0) (by decide)) (by decide) dX8_ends_176 (fun q172 => ?_) (fun q172 => False.elim (by omega))
            exact gi_vret (pc := 195) ⟨rfl, hv, (k170.symm.trans kf), fx⟩ hv dX8_ends_195
          ·
            have k173 := if_f k168 (fun z => z q169)
            exact gi_vret (pc := 153) ⟨rfl, hv, (k173.symm.trans kf), fx⟩ hv dX8_ends_153
        ·
          have k174 := if_f k157 q158
          refine go_iload_n (pc := 85) rfl dX8_ends_85 ?_
          refine gf_if_eq (pc := 86) (tgt := 93) (ti_c (v := 0) (a := 0) (by decide)) (by decide) dX8_ends_86 (fun q175 => ?_) (fun q175 => False.elim (by omega))
          refine go_iconst (pc := 93) (v := 0) (by decide) dX8_ends_93 ?_
          refine go_istore (pc := 94) (Nat.le_of_ble_eq_true rfl) dX8_ends_94 (go_lv (lv2 := [(0, .ref 70), (1, .int a2), (2, .int v3), (3, .int 0), (4, .int 0), (5, .int 0)]) rfl ?_)
          refine go_iload (pc := 96) rfl dX8_ends_96 ?_
          refine gf_if_eq (pc := 98) (tgt := 116) (ti_c (v := 0) (a := 0) (by decide)) (by decide) dX8_ends_98 (fun q176 => ?_) (fun q176 => False.elim (by omega))
          refine go_iload (pc := 116) rfl dX8_ends_116 ?_
          refine gf_if_eq (pc := 118) (tgt := 137) (ti_c (v := 0) (a := 0) (by decide)) (by decide) dX8_ends_118 (fun q177 => ?_) (fun q177 => False.elim (by omega))
          refine go_aload_n (pc := 137) rfl dX8_ends_137 ?_
          refine gi_getF (pc := 138) (q := 102) hv fL_X8_105 rfl (Nat.le_of_ble_eq_true rfl) rfl (hv.rf (by decide)) dX8_ends_138 ?_
          refine go_iconst (pc := 141) (v := 5) (by decide) dX8_ends_141 ?_
          refine go_aload_n (pc := 142) rfl dX8_ends_142 ?_
          refine gi_get (pc := 143) (lo := 0) (hi := 1) hv fL_X8_187 rfl (Nat.le_of_ble_eq_true rfl) rfl rfl dX8_ends_143 (fun v178 v178l v178u v178w => ?_)
          have v178r : v5 = h.2.1 70 6 := v5w
          have v178q : TI v178 v5.toInt := by rw [v178w.trans v178r.symm]; exact (ti_rfl v5)
          refine gf_imul (pc := 146) (ti_c (v := 5) (a := 5) (by decide)) v178q (by omega) (by omega) dX8_ends_146 (fun v179 e180 => ?_)
          refine go_iload_n (pc := 147) rfl dX8_ends_147 ?_
          refine gf_iadd (pc := 148) e180 (ti_rfl v3) (by omega) (by omega) dX8_ends_148 (fun v181 e182 => ?_)
          refine gi_zald (pc := 149) (lo := 0) (hi := 1) (len := 10) hv e182 rfl (by omega) (by omega) (fun _ => rfl) dX8_ends_149 (fun v183 v183l v183u v183w => ?_)
          have k184 := bd_e k174 (congrArg Int32.toInt v183w.symm)
          refine gf_if_ne (pc := 150) (tgt := 154) (ti_rfl v183) (by decide) dX8_ends_150 (fun q185 => ?_) (fun q185 => ?_)
          ·
            have k186 := if_t k184 q185
            refine go_iload (pc := 154) rfl dX8_ends_154 ?_
            refine gf_if_eq (pc := 156) (tgt := 174) (ti_c (v := 0) (a := 0) (by decide)) (by decide) dX8_ends_156 (fun q187 => ?_) (fun q187 => False.elim (by omega))
            refine go_iload (pc := 174) rfl dX8_ends_174 ?_
            refine gf_if_eq (pc := 176) (tgt := 195) (ti_c (v := 0) (a := 0) (by decide)) (by decide) dX8_ends_176 (fun q188 => ?_) (fun q188 => False.elim (by omega))
            exact gi_vret (pc := 195) ⟨rfl, hv, (k186.symm.trans kf), fx⟩ hv dX8_ends_195
          ·
            have k189 := if_f k184 (fun z => z q185)
            exact gi_vret (pc := 153) ⟨rfl, hv, (k189.symm.trans kf), fx⟩ hv dX8_ends_153
  ·
    have k190 := if_f k12 (fun z => z q13)
    refine go_aload_n (pc := 24) rfl dX8_ends_24 ?_
    refine gi_getF (pc := 25) (q := 99) hv fL_X8_95 rfl (Nat.le_of_ble_eq_true rfl) rfl (hv.rf (by decide)) dX8_ends_25 ?_
    refine go_bipush (pc := 28) (v := 40) (by decide) dX8_ends_28 ?_
    refine go_aload_n (pc := 30) rfl dX8_ends_30 ?_
    refine gi_get (pc := 31) (lo := 0) (hi := 1) hv fL_X8_187 rfl (Nat.le_of_ble_eq_true rfl) rfl rfl dX8_ends_31 (fun v191 v191l v191u v191w => ?_)
    have v191r : v5 = h.2.1 70 6 := v5w
    have v191q : TI v191 v5.toInt := by rw [v191w.trans v191r.symm]; exact (ti_rfl v5)
    refine gf_imul (pc := 34) (ti_c (v := 40) (a := 40) (by decide)) v191q (by omega) (by omega) dX8_ends_34 (fun v192 e193 => ?_)
    refine go_iload_n (pc := 35) rfl dX8_ends_35 ?_
    refine gf_iadd (pc := 36) e193 (ti_rfl a2) (by omega) (by omega) dX8_ends_36 (fun v194 e195 => ?_)
    refine gi_iald (pc := 37) (lo := -1) (hi := 5) (len := 80) hv e195 rfl (by omega) (by omega) (fun _ => rfl) dX8_ends_37 (fun v196 v196l v196u v196w => ?_)
    have k197 := bd_e k190 (congrArg Int32.toInt v196w.symm)
    refine go_iconst (pc := 38) (v := (-1)) (by decide) dX8_ends_38 ?_
    refine gf_icmp_ne (pc := 39) (tgt := 46) (ti_rfl v196) (ti_c (v := (-1)) (a := (-1)) (by decide)) (by decide) dX8_ends_39 (fun q198 => ?_) (fun q198 => ?_)
    ·
      have k199 := if_t k197 q198
      refine go_iconst (pc := 46) (v := 0) (by decide) dX8_ends_46 ?_
      refine go_istore_n (pc := 47) (Nat.le_of_ble_eq_true rfl) dX8_ends_47 (go_lv (lv2 := [(0, .ref 70), (1, .int a2), (2, .int v3), (3, .int 0)]) rfl ?_)
      refine go_aload_n (pc := 48) rfl dX8_ends_48 ?_
      refine go_iload_n (pc := 49) rfl dX8_ends_49 ?_
      refine go_invV (pc := 50) (sl := 0) (s_X8_kindAt2_f l (d + 1) hv a2 (by rw [show (a2 : Int32).toInt = a2.toInt from (ti_rfl a2)]; omega) (by rw [show (a2 : Int32).toInt = a2.toInt from (ti_rfl a2)]; omega)) mL_X8_271 iM_X8_kindAt sM_X8_kindAt (hv.sh rfl) rfl rfl rfl (Nat.le_of_ble_eq_true rfl) (show d + 1 + 2 + 1 ≤ d + 4 by omega) (show 8 + (2 + 11) + 40 * (d + 1 + 2) ≤ 40 * (d + 4) by omega) (g_c0 hv.ln) (Nat.le_of_ble_eq_true rfl) dX8_ends_50 ?_
      intro r h200 hq _
      obtain ⟨v203, rfl, v203l, v203u, rfl, f201, f202⟩ := hq
      replace f202 : PE _ _ := f202
      have k204 := bd_e k199 f202.symm
      refine go_iconst (pc := 53) (v := 5) (by decide) dX8_ends_53 ?_
      refine gf_icmp_eq (pc := 54) (tgt := 70) (ti_rfl v203) (ti_c (v := 5) (a := 5) (by decide)) (by decide) dX8_ends_54 (fun q205 => ?_) (fun q205 => ?_)
      ·
        have k206 := if_t k204 q205
        refine go_iconst (pc := 70) (v := 1) (by decide) dX8_ends_70 ?_
        refine go_goto (pc := 71) (tgt := 75) (by decide) dX8_ends_71 ?_
        refine go_istore (pc := 75) (Nat.le_of_ble_eq_true rfl) dX8_ends_75 (go_lv (lv2 := [(0, .ref 70), (1, .int a2), (2, .int v3), (3, .int 0), (4, .int 1)]) rfl ?_)
        refine go_aload_n (pc := 77) rfl dX8_ends_77 ?_
        refine go_iload_n (pc := 78) rfl dX8_ends_78 ?_
        refine go_invV (pc := 79) (sl := 0) (s_X8_isThrowing2_f l (d + 0) hv a2 (by rw [show (a2 : Int32).toInt = a2.toInt from (ti_rfl a2)]; omega) (by rw [show (a2 : Int32).toInt = a2.toInt from (ti_rfl a2)]; omega) ck) mL_X8_277 iM_X8_isThrowing sM_X8_isThrowing (hv.sh rfl) rfl rfl rfl (Nat.le_of_ble_eq_true rfl) (show d + 0 + 3 + 1 ≤ d + 4 by omega) (show 8 + (2 + 11) + 40 * (d + 0 + 3) ≤ 40 * (d + 4) by omega) (g_c0 hv.ln) (Nat.le_of_ble_eq_true rfl) dX8_ends_79 ?_
        intro r h207 hq _
        obtain ⟨v209, rfl, v209l, v209u, rfl, f208⟩ := hq
        replace f208 : PE _ _ := f208
        have k210 := bd_e k206 f208.symm
        refine gf_if_eq (pc := 82) (tgt := 93) (ti_rfl v209) (by decide) dX8_ends_82 (fun q211 => ?_) (fun q211 => ?_)
        ·
          have k212 := if_t k210 q211
          refine go_iconst (pc := 93) (v := 0) (by decide) dX8_ends_93 ?_
          refine go_istore (pc := 94) (Nat.le_of_ble_eq_true rfl) dX8_ends_94 (go_lv (lv2 := [(0, .ref 70), (1, .int a2), (2, .int v3), (3, .int 0), (4, .int 1), (5, .int 0)]) rfl ?_)
          refine go_iload (pc := 96) rfl dX8_ends_96 ?_
          refine gf_if_eq (pc := 98) (tgt := 116) (ti_c (v := 1) (a := 1) (by decide)) (by decide) dX8_ends_98 (fun q213 => False.elim (by omega)) (fun q213 => ?_)
          refine go_aload_n (pc := 101) rfl dX8_ends_101 ?_
          refine go_iload_n (pc := 102) rfl dX8_ends_102 ?_
          refine go_bipush (pc := 103) (v := 7) (by decide) dX8_ends_103 ?_
          refine go_invS (pc := 105) (sl := 0) (s_X8_procedurePlace2_f l (d + 2) hv v3 (by rw [show (v3 : Int32).toInt = v3.toInt from (ti_rfl v3)]; omega) (by rw [show (v3 : Int32).toInt = v3.toInt from (ti_rfl v3)]; omega) 7 (by rw [show (7 : Int32).toInt = 7 from (ti_c (v := 7) (a := 7) (by decide))]; omega) (by rw [show (7 : Int32).toInt = 7 from (ti_c (v := 7) (a := 7) (by decide))]; omega)) mL_X8_300 iM_X8_procedurePlace rfl rfl (Nat.le_of_ble_eq_true rfl) (show d + 2 + 1 + 1 ≤ d + 4 by omega) (show 8 + (2 + 11) + 40 * (d + 2 + 1) ≤ 40 * (d + 4) by omega) (g_c0 hv.ln) (Nat.le_of_ble_eq_true rfl) dX8_ends_105 ?_
          intro r h214 hq _
          obtain ⟨v216, rfl, v216l, v216u, rfl, f215⟩ := hq
          try rw [show (7 : Int32).toInt = 7 from (ti_c (v := 7) (a := 7) (by decide))] at f215
          replace f215 : PE _ _ := f215
          have k217 := bd_e k212 f215.symm
          refine go_iload_n (pc := 108) rfl dX8_ends_108 ?_
          refine go_iconst (pc := 109) (v := 0) (by decide) dX8_ends_109 ?_
          refine go_invS (pc := 110) (sl := 0) (s_X8_statementPlace2_f l (d + 2) hv a2 (by rw [show (a2 : Int32).toInt = a2.toInt from (ti_rfl a2)]; omega) (by rw [show (a2 : Int32).toInt = a2.toInt from (ti_rfl a2)]; omega) 0 (by rw [show (0 : Int32).toInt = 0 from (ti_c (v := 0) (a := 0) (by decide))]; omega) (by rw [show (0 : Int32).toInt = 0 from (ti_c (v := 0) (a := 0) (by decide))]; omega)) mL_X8_291 iM_X8_statementPlace rfl rfl (Nat.le_of_ble_eq_true rfl) (show d + 2 + 1 + 1 ≤ d + 4 by omega) (show 8 + (2 + 11) + 40 * (d + 2 + 1) ≤ 40 * (d + 4) by omega) (g_c0 hv.ln) (Nat.le_of_ble_eq_true rfl) dX8_ends_110 ?_
          intro r h218 hq _
          obtain ⟨v220, rfl, v220l, v220u, rfl, f219⟩ := hq
          try rw [show (0 : Int32).toInt = 0 from (ti_c (v := 0) (a := 0) (by decide))] at f219
          replace f219 : PE _ _ := f219
          have k221 := bd_e k217 f219.symm
          refine go_invV (pc := 113) (sl := 0) (s_X8_hang2_f l (d + 2) hv v216 (by rw [show (v216 : Int32).toInt = v216.toInt from (ti_rfl v216)]; omega) (by rw [show (v216 : Int32).toInt = v216.toInt from (ti_rfl v216)]; omega) v220 (by rw [show (v220 : Int32).toInt = v220.toInt from (ti_rfl v220)]; omega) (by rw [show (v220 : Int32).toInt = v220.toInt from (ti_rfl v220)]; omega)) mL_X8_303 iM_X8_hang sM_X8_hang (hv.sh rfl) rfl rfl rfl (Nat.le_of_ble_eq_true rfl) (show d + 2 + 1 + 1 ≤ d + 4 by omega) (show 8 + (3 + 11) + 40 * (d + 2 + 1) ≤ 40 * (d + 4) by omega) (g_c0 hv.ln) (Nat.le_of_ble_eq_true rfl) dX8_ends_113 ?_
          intro r h222 hq _
          obtain ⟨rfl, hv222, f223, f224⟩ := hq
          have fx222 : FX KAr h h222 := FX.tr fx f224
          have k225 := bd_e k221 f223.symm
          refine go_iload (pc := 116) rfl dX8_ends_116 ?_
          refine gf_if_eq (pc := 118) (tgt := 137) (ti_c (v := 0) (a := 0) (by decide)) (by decide) dX8_ends_118 (fun q226 => ?_) (fun q226 => False.elim (by omega))
          refine go_aload_n (pc := 137) rfl dX8_ends_137 ?_
          refine gi_getF (pc := 138) (q := 102) hv222 fL_X8_105 rfl (Nat.le_of_ble_eq_true rfl) rfl (hv222.rf (by decide)) dX8_ends_138 ?_
          refine go_iconst (pc := 141) (v := 5) (by decide) dX8_ends_141 ?_
          refine go_aload_n (pc := 142) rfl dX8_ends_142 ?_
          refine gi_get (pc := 143) (lo := 0) (hi := 1) hv222 fL_X8_187 rfl (Nat.le_of_ble_eq_true rfl) rfl rfl dX8_ends_143 (fun v227 v227l v227u v227w => ?_)
          have k228 := bd_e k225 (congrArg Int32.toInt v227w.symm)
          refine gf_imul (pc := 146) (ti_c (v := 5) (a := 5) (by decide)) (ti_rfl v227) (by omega) (by omega) dX8_ends_146 (fun v229 e230 => ?_)
          refine go_iload_n (pc := 147) rfl dX8_ends_147 ?_
          refine gf_iadd (pc := 148) e230 (ti_rfl v3) (by omega) (by omega) dX8_ends_148 (fun v231 e232 => ?_)
          refine gi_zald (pc := 149) (lo := 0) (hi := 1) (len := 10) hv222 e232 rfl (by omega) (by omega) (fun _ => rfl) dX8_ends_149 (fun v233 v233l v233u v233w => ?_)
          have k234 := bd_e k228 (congrArg Int32.toInt v233w.symm)
          refine gf_if_ne (pc := 150) (tgt := 154) (ti_rfl v233) (by decide) dX8_ends_150 (fun q235 => ?_) (fun q235 => ?_)
          ·
            have k236 := if_t k234 q235
            refine go_iload (pc := 154) rfl dX8_ends_154 ?_
            refine gf_if_eq (pc := 156) (tgt := 174) (ti_c (v := 1) (a := 1) (by decide)) (by decide) dX8_ends_156 (fun q237 => False.elim (by omega)) (fun q237 => ?_)
            refine go_aload_n (pc := 159) rfl dX8_ends_159 ?_
            refine go_iload_n (pc := 160) rfl dX8_ends_160 ?_
            refine go_bipush (pc := 161) (v := 8) (by decide) dX8_ends_161 ?_
            refine go_invS (pc := 163) (sl := 0) (s_X8_procedurePlace2_f l (d + 2) hv222 v3 (by rw [show (v3 : Int32).toInt = v3.toInt from (ti_rfl v3)]; omega) (by rw [show (v3 : Int32).toInt = v3.toInt from (ti_rfl v3)]; omega) 8 (by rw [show (8 : Int32).toInt = 8 from (ti_c (v := 8) (a := 8) (by decide))]; omega) (by rw [show (8 : Int32).toInt = 8 from (ti_c (v := 8) (a := 8) (by decide))]; omega)) mL_X8_300 iM_X8_procedurePlace rfl rfl (Nat.le_of_ble_eq_true rfl) (show d + 2 + 1 + 1 ≤ d + 4 by omega) (show 8 + (2 + 11) + 40 * (d + 2 + 1) ≤ 40 * (d + 4) by omega) (g_c0 hv222.ln) (Nat.le_of_ble_eq_true rfl) dX8_ends_163 ?_
            intro r h238 hq _
            obtain ⟨v240, rfl, v240l, v240u, rfl, f239⟩ := hq
            try rw [show (8 : Int32).toInt = 8 from (ti_c (v := 8) (a := 8) (by decide))] at f239
            replace f239 : PE _ _ := f239
            have k241 := bd_e k236 f239.symm
            refine go_iload_n (pc := 166) rfl dX8_ends_166 ?_
            refine go_iconst (pc := 167) (v := 0) (by decide) dX8_ends_167 ?_
            refine go_invS (pc := 168) (sl := 0) (s_X8_statementPlace2_f l (d + 2) hv222 a2 (by rw [show (a2 : Int32).toInt = a2.toInt from (ti_rfl a2)]; omega) (by rw [show (a2 : Int32).toInt = a2.toInt from (ti_rfl a2)]; omega) 0 (by rw [show (0 : Int32).toInt = 0 from (ti_c (v := 0) (a := 0) (by decide))]; omega) (by rw [show (0 : Int32).toInt = 0 from (ti_c (v := 0) (a := 0) (by decide))]; omega)) mL_X8_291 iM_X8_statementPlace rfl rfl (Nat.le_of_ble_eq_true rfl) (show d + 2 + 1 + 1 ≤ d + 4 by omega) (show 8 + (2 + 11) + 40 * (d + 2 + 1) ≤ 40 * (d + 4) by omega) (g_c0 hv222.ln) (Nat.le_of_ble_eq_true rfl) dX8_ends_168 ?_
            intro r h242 hq _
            obtain ⟨v244, rfl, v244l, v244u, rfl, f243⟩ := hq
            try rw [show (0 : Int32).toInt = 0 from (ti_c (v := 0) (a := 0) (by decide))] at f243
            replace f243 : PE _ _ := f243
            have k245 := bd_e k241 f243.symm
            refine go_invV (pc := 171) (sl := 0) (s_X8_hang2_f l (d + 2) hv222 v240 (by rw [show (v240 : Int32).toInt = v240.toInt from (ti_rfl v240)]; omega) (by rw [show (v240 : Int32).toInt = v240.toInt from (ti_rfl v240)]; omega) v244 (by rw [show (v244 : Int32).toInt = v244.toInt from (ti_rfl v244)]; omega) (by rw [show (v244 : Int32).toInt = v244.toInt from (ti_rfl v244)]; omega)) mL_X8_303 iM_X8_hang sM_X8_hang (hv222.sh rfl) rfl rfl rfl (Nat.le_of_ble_eq_true rfl) (show d + 2 + 1 + 1 ≤ d + 4 by omega) (show 8 + (3 + 11) + 40 * (d + 2 + 1) ≤ 40 * (d + 4) by omega) (g_c0 hv222.ln) (Nat.le_of_ble_eq_true rfl) dX8_ends_171 ?_
            intro r h246 hq _
            obtain ⟨rfl, hv246, f247, f248⟩ := hq
            have fx246 : FX KAr h h246 := FX.tr fx222 f248
            have k249 := bd_e k245 f247.symm
            refine go_iload (pc := 174) rfl dX8_ends_174 ?_
            refine gf_if_eq (pc := 176) (tgt := 195) (ti_c (v := 0) (a := 0) (by decide)) (by decide) dX8_ends_176 (fun q250 => ?_) (fun q250 => False.elim (by omega))
            exact gi_vret (pc := 195) ⟨rfl, hv246, (k249.symm.trans kf), fx246⟩ hv246 dX8_ends_195
          ·
            have k251 := if_f k234 (fun z => z q235)
            exact gi_vret (pc := 153) ⟨rfl, hv222, (k251.symm.trans kf), fx222⟩ hv222 dX8_ends_153
        ·
          have k252 := if_f k210 q211
          refine go_iload_n (pc := 85) rfl dX8_ends_85 ?_
          refine gf_if_eq (pc := 86) (tgt := 93) (ti_c (v := 0) (a := 0) (by decide)) (by decide) dX8_ends_86 (fun q253 => ?_) (fun q253 => False.elim (by omega))
          refine go_iconst (pc := 93) (v := 0) (by decide) dX8_ends_93 ?_
          refine go_istore (pc := 94) (Nat.le_of_ble_eq_true rfl) dX8_ends_94 (go_lv (lv2 := [(0, .ref 70), (1, .int a2), (2, .int v3), (3, .int 0), (4, .int 1), (5, .int 0)]) rfl ?_)
          refine go_iload (pc := 96) rfl dX8_ends_96 ?_
          refine gf_if_eq (pc := 98) (tgt := 116) (ti_c (v := 1) (a := 1) (by decide)) (by decide) dX8_ends_98 (fun q254 => False.elim (by omega)) (fun q254 => ?_)
          refine go_aload_n (pc := 101) rfl dX8_ends_101 ?_
          refine go_iload_n (pc := 102) rfl dX8_ends_102 ?_
          refine go_bipush (pc := 103) (v := 7) (by decide) dX8_ends_103 ?_
          refine go_invS (pc := 105) (sl := 0) (s_X8_procedurePlace2_f l (d + 2) hv v3 (by rw [show (v3 : Int32).toInt = v3.toInt from (ti_rfl v3)]; omega) (by rw [show (v3 : Int32).toInt = v3.toInt from (ti_rfl v3)]; omega) 7 (by rw [show (7 : Int32).toInt = 7 from (ti_c (v := 7) (a := 7) (by decide))]; omega) (by rw [show (7 : Int32).toInt = 7 from (ti_c (v := 7) (a := 7) (by decide))]; omega)) mL_X8_300 iM_X8_procedurePlace rfl rfl (Nat.le_of_ble_eq_true rfl) (show d + 2 + 1 + 1 ≤ d + 4 by omega) (show 8 + (2 + 11) + 40 * (d + 2 + 1) ≤ 40 * (d + 4) by omega) (g_c0 hv.ln) (Nat.le_of_ble_eq_true rfl) dX8_ends_105 ?_
          intro r h255 hq _
          obtain ⟨v257, rfl, v257l, v257u, rfl, f256⟩ := hq
          try rw [show (7 : Int32).toInt = 7 from (ti_c (v := 7) (a := 7) (by decide))] at f256
          replace f256 : PE _ _ := f256
          have k258 := bd_e k252 f256.symm
          refine go_iload_n (pc := 108) rfl dX8_ends_108 ?_
          refine go_iconst (pc := 109) (v := 0) (by decide) dX8_ends_109 ?_
          refine go_invS (pc := 110) (sl := 0) (s_X8_statementPlace2_f l (d + 2) hv a2 (by rw [show (a2 : Int32).toInt = a2.toInt from (ti_rfl a2)]; omega) (by rw [show (a2 : Int32).toInt = a2.toInt from (ti_rfl a2)]; omega) 0 (by rw [show (0 : Int32).toInt = 0 from (ti_c (v := 0) (a := 0) (by decide))]; omega) (by rw [show (0 : Int32).toInt = 0 from (ti_c (v := 0) (a := 0) (by decide))]; omega)) mL_X8_291 iM_X8_statementPlace rfl rfl (Nat.le_of_ble_eq_true rfl) (show d + 2 + 1 + 1 ≤ d + 4 by omega) (show 8 + (2 + 11) + 40 * (d + 2 + 1) ≤ 40 * (d + 4) by omega) (g_c0 hv.ln) (Nat.le_of_ble_eq_true rfl) dX8_ends_110 ?_
          intro r h259 hq _
          obtain ⟨v261, rfl, v261l, v261u, rfl, f260⟩ := hq
          try rw [show (0 : Int32).toInt = 0 from (ti_c (v := 0) (a := 0) (by decide))] at f260
          replace f260 : PE _ _ := f260
          have k262 := bd_e k258 f260.symm
          refine go_invV (pc := 113) (sl := 0) (s_X8_hang2_f l (d + 2) hv v257 (by rw [show (v257 : Int32).toInt = v257.toInt from (ti_rfl v257)]; omega) (by rw [show (v257 : Int32).toInt = v257.toInt from (ti_rfl v257)]; omega) v261 (by rw [show (v261 : Int32).toInt = v261.toInt from (ti_rfl v261)]; omega) (by rw [show (v261 : Int32).toInt = v261.toInt from (ti_rfl v261)]; omega)) mL_X8_303 iM_X8_hang sM_X8_hang (hv.sh rfl) rfl rfl rfl (Nat.le_of_ble_eq_true rfl) (show d + 2 + 1 + 1 ≤ d + 4 by omega) (show 8 + (3 + 11) + 40 * (d + 2 + 1) ≤ 40 * (d + 4) by omega) (g_c0 hv.ln) (Nat.le_of_ble_eq_true rfl) dX8_ends_113 ?_
          intro r h263 hq _
          obtain ⟨rfl, hv263, f264, f265⟩ := hq
          have fx263 : FX KAr h h263 := FX.tr fx f265
          have k266 := bd_e k262 f264.symm
          refine go_iload (pc := 116) rfl dX8_ends_116 ?_
          refine gf_if_eq (pc := 118) (tgt := 137) (ti_c (v := 0) (a := 0) (by decide)) (by decide) dX8_ends_118 (fun q267 => ?_) (fun q267 => False.elim (by omega))
          refine go_aload_n (pc := 137) rfl dX8_ends_137 ?_
          refine gi_getF (pc := 138) (q := 102) hv263 fL_X8_105 rfl (Nat.le_of_ble_eq_true rfl) rfl (hv263.rf (by decide)) dX8_ends_138 ?_
          refine go_iconst (pc := 141) (v := 5) (by decide) dX8_ends_141 ?_
          refine go_aload_n (pc := 142) rfl dX8_ends_142 ?_
          refine gi_get (pc := 143) (lo := 0) (hi := 1) hv263 fL_X8_187 rfl (Nat.le_of_ble_eq_true rfl) rfl rfl dX8_ends_143 (fun v268 v268l v268u v268w => ?_)
          have k269 := bd_e k266 (congrArg Int32.toInt v268w.symm)
          refine gf_imul (pc := 146) (ti_c (v := 5) (a := 5) (by decide)) (ti_rfl v268) (by omega) (by omega) dX8_ends_146 (fun v270 e271 => ?_)
          refine go_iload_n (pc := 147) rfl dX8_ends_147 ?_
          refine gf_iadd (pc := 148) e271 (ti_rfl v3) (by omega) (by omega) dX8_ends_148 (fun v272 e273 => ?_)
          refine gi_zald (pc := 149) (lo := 0) (hi := 1) (len := 10) hv263 e273 rfl (by omega) (by omega) (fun _ => rfl) dX8_ends_149 (fun v274 v274l v274u v274w => ?_)
          have k275 := bd_e k269 (congrArg Int32.toInt v274w.symm)
          refine gf_if_ne (pc := 150) (tgt := 154) (ti_rfl v274) (by decide) dX8_ends_150 (fun q276 => ?_) (fun q276 => ?_)
          ·
            have k277 := if_t k275 q276
            refine go_iload (pc := 154) rfl dX8_ends_154 ?_
            refine gf_if_eq (pc := 156) (tgt := 174) (ti_c (v := 1) (a := 1) (by decide)) (by decide) dX8_ends_156 (fun q278 => False.elim (by omega)) (fun q278 => ?_)
            refine go_aload_n (pc := 159) rfl dX8_ends_159 ?_
            refine go_iload_n (pc := 160) rfl dX8_ends_160 ?_
            refine go_bipush (pc := 161) (v := 8) (by decide) dX8_ends_161 ?_
            refine go_invS (pc := 163) (sl := 0) (s_X8_procedurePlace2_f l (d + 2) hv263 v3 (by rw [show (v3 : Int32).toInt = v3.toInt from (ti_rfl v3)]; omega) (by rw [show (v3 : Int32).toInt = v3.toInt from (ti_rfl v3)]; omega) 8 (by rw [show (8 : Int32).toInt = 8 from (ti_c (v := 8) (a := 8) (by decide))]; omega) (by rw [show (8 : Int32).toInt = 8 from (ti_c (v := 8) (a := 8) (by decide))]; omega)) mL_X8_300 iM_X8_procedurePlace rfl rfl (Nat.le_of_ble_eq_true rfl) (show d + 2 + 1 + 1 ≤ d + 4 by omega) (show 8 + (2 + 11) + 40 * (d + 2 + 1) ≤ 40 * (d + 4) by omega) (g_c0 hv263.ln) (Nat.le_of_ble_eq_true rfl) dX8_ends_163 ?_
            intro r h279 hq _
            obtain ⟨v281, rfl, v281l, v281u, rfl, f280⟩ := hq
            try rw [show (8 : Int32).toInt = 8 from (ti_c (v := 8) (a := 8) (by decide))] at f280
            replace f280 : PE _ _ := f280
            have k282 := bd_e k277 f280.symm
            refine go_iload_n (pc := 166) rfl dX8_ends_166 ?_
            refine go_iconst (pc := 167) (v := 0) (by decide) dX8_ends_167 ?_
            refine go_invS (pc := 168) (sl := 0) (s_X8_statementPlace2_f l (d + 2) hv263 a2 (by rw [show (a2 : Int32).toInt = a2.toInt from (ti_rfl a2)]; omega) (by rw [show (a2 : Int32).toInt = a2.toInt from (ti_rfl a2)]; omega) 0 (by rw [show (0 : Int32).toInt = 0 from (ti_c (v := 0) (a := 0) (by decide))]; omega) (by rw [show (0 : Int32).toInt = 0 from (ti_c (v := 0) (a := 0) (by decide))]; omega)) mL_X8_291 iM_X8_statementPlace rfl rfl (Nat.le_of_ble_eq_true rfl) (show d + 2 + 1 + 1 ≤ d + 4 by omega) (show 8 + (2 + 11) + 40 * (d + 2 + 1) ≤ 40 * (d + 4) by omega) (g_c0 hv263.ln) (Nat.le_of_ble_eq_true rfl) dX8_ends_168 ?_
            intro r h283 hq _
            obtain ⟨v285, rfl, v285l, v285u, rfl, f284⟩ := hq
            try rw [show (0 : Int32).toInt = 0 from (ti_c (v := 0) (a := 0) (by decide))] at f284
            replace f284 : PE _ _ := f284
            have k286 := bd_e k282 f284.symm
            refine go_invV (pc := 171) (sl := 0) (s_X8_hang2_f l (d + 2) hv263 v281 (by rw [show (v281 : Int32).toInt = v281.toInt from (ti_rfl v281)]; omega) (by rw [show (v281 : Int32).toInt = v281.toInt from (ti_rfl v281)]; omega) v285 (by rw [show (v285 : Int32).toInt = v285.toInt from (ti_rfl v285)]; omega) (by rw [show (v285 : Int32).toInt = v285.toInt from (ti_rfl v285)]; omega)) mL_X8_303 iM_X8_hang sM_X8_hang (hv263.sh rfl) rfl rfl rfl (Nat.le_of_ble_eq_true rfl) (show d + 2 + 1 + 1 ≤ d + 4 by omega) (show 8 + (3 + 11) + 40 * (d + 2 + 1) ≤ 40 * (d + 4) by omega) (g_c0 hv263.ln) (Nat.le_of_ble_eq_true rfl) dX8_ends_171 ?_
            intro r h287 hq _
            obtain ⟨rfl, hv287, f288, f289⟩ := hq
            have fx287 : FX KAr h h287 := FX.tr fx263 f289
            have k290 := bd_e k286 f288.symm
            refine go_iload (pc := 174) rfl dX8_ends_174 ?_
            refine gf_if_eq (pc := 176) (tgt := 195) (ti_c (v := 0) (a := 0) (by decide)) (by decide) dX8_ends_176 (fun q291 => ?_) (fun q291 => False.elim (by omega))
            exact gi_vret (pc := 195) ⟨rfl, hv287, (k290.symm.trans kf), fx287⟩ hv287 dX8_ends_195
          ·
            have k292 := if_f k275 (fun z => z q276)
            exact gi_vret (pc := 153) ⟨rfl, hv263, (k292.symm.trans kf), fx263⟩ hv263 dX8_ends_153
      ·
        have k293 := if_f k204 q205
        refine go_aload_n (pc := 57) rfl dX8_ends_57 ?_
        refine go_iload_n (pc := 58) rfl dX8_ends_58 ?_
        refine go_invV (pc := 59) (sl := 0) (s_X8_kindAt2_f l (d + 1) hv a2 (by rw [show (a2 : Int32).toInt = a2.toInt from (ti_rfl a2)]; omega) (by rw [show (a2 : Int32).toInt = a2.toInt from (ti_rfl a2)]; omega)) mL_X8_271 iM_X8_kindAt sM_X8_kindAt (hv.sh rfl) rfl rfl rfl (Nat.le_of_ble_eq_true rfl) (show d + 1 + 2 + 1 ≤ d + 4 by omega) (show 8 + (2 + 11) + 40 * (d + 1 + 2) ≤ 40 * (d + 4) by omega) (g_c0 hv.ln) (Nat.le_of_ble_eq_true rfl) dX8_ends_59 ?_
        intro r h294 hq _
        obtain ⟨v297, rfl, v297l, v297u, rfl, f295, f296⟩ := hq
        replace f296 : PE _ _ := f296
        have k298 := bd_e k293 f296.symm
        refine go_iconst (pc := 62) (v := 4) (by decide) dX8_ends_62 ?_
        refine gf_icmp_ne (pc := 63) (tgt := 74) (ti_rfl v297) (ti_c (v := 4) (a := 4) (by decide)) (by decide) dX8_ends_63 (fun q299 => ?_) (fun q299 => ?_)
        ·
          have k300 := if_t k298 q299
          refine go_iconst (pc := 74) (v := 0) (by decide) dX8_ends_74 ?_
          refine go_istore (pc := 75) (Nat.le_of_ble_eq_true rfl) dX8_ends_75 (go_lv (lv2 := [(0, .ref 70), (1, .int a2), (2, .int v3), (3, .int 0), (4, .int 0)]) rfl ?_)
          refine go_aload_n (pc := 77) rfl dX8_ends_77 ?_
          refine go_iload_n (pc := 78) rfl dX8_ends_78 ?_
          refine go_invV (pc := 79) (sl := 0) (s_X8_isThrowing2_f l (d + 0) hv a2 (by rw [show (a2 : Int32).toInt = a2.toInt from (ti_rfl a2)]; omega) (by rw [show (a2 : Int32).toInt = a2.toInt from (ti_rfl a2)]; omega) ck) mL_X8_277 iM_X8_isThrowing sM_X8_isThrowing (hv.sh rfl) rfl rfl rfl (Nat.le_of_ble_eq_true rfl) (show d + 0 + 3 + 1 ≤ d + 4 by omega) (show 8 + (2 + 11) + 40 * (d + 0 + 3) ≤ 40 * (d + 4) by omega) (g_c0 hv.ln) (Nat.le_of_ble_eq_true rfl) dX8_ends_79 ?_
          intro r h301 hq _
          obtain ⟨v303, rfl, v303l, v303u, rfl, f302⟩ := hq
          replace f302 : PE _ _ := f302
          have k304 := bd_e k300 f302.symm
          refine gf_if_eq (pc := 82) (tgt := 93) (ti_rfl v303) (by decide) dX8_ends_82 (fun q305 => ?_) (fun q305 => ?_)
          ·
            have k306 := if_t k304 q305
            refine go_iconst (pc := 93) (v := 0) (by decide) dX8_ends_93 ?_
            refine go_istore (pc := 94) (Nat.le_of_ble_eq_true rfl) dX8_ends_94 (go_lv (lv2 := [(0, .ref 70), (1, .int a2), (2, .int v3), (3, .int 0), (4, .int 0), (5, .int 0)]) rfl ?_)
            refine go_iload (pc := 96) rfl dX8_ends_96 ?_
            refine gf_if_eq (pc := 98) (tgt := 116) (ti_c (v := 0) (a := 0) (by decide)) (by decide) dX8_ends_98 (fun q307 => ?_) (fun q307 => False.elim (by omega))
            refine go_iload (pc := 116) rfl dX8_ends_116 ?_
            refine gf_if_eq (pc := 118) (tgt := 137) (ti_c (v := 0) (a := 0) (by decide)) (by decide) dX8_ends_118 (fun q308 => ?_) (fun q308 => False.elim (by omega))
            refine go_aload_n (pc := 137) rfl dX8_ends_137 ?_
            refine gi_getF (pc := 138) (q := 102) hv fL_X8_105 rfl (Nat.le_of_ble_eq_true rfl) rfl (hv.rf (by decide)) dX8_ends_138 ?_
            refine go_iconst (pc := 141) (v := 5) (by decide) dX8_ends_141 ?_
            refine go_aload_n (pc := 142) rfl dX8_ends_142 ?_
            refine gi_get (pc := 143) (lo := 0) (hi := 1) hv fL_X8_187 rfl (Nat.le_of_ble_eq_true rfl) rfl rfl dX8_ends_143 (fun v309 v309l v309u v309w => ?_)
            have v309r : v5 = h.2.1 70 6 := v5w
            have v309q : TI v309 v5.toInt := by rw [v309w.trans v309r.symm]; exact (ti_rfl v5)
            refine gf_imul (pc := 146) (ti_c (v := 5) (a := 5) (by decide)) v309q (by omega) (by omega) dX8_ends_146 (fun v310 e311 => ?_)
            refine go_iload_n (pc := 147) rfl dX8_ends_147 ?_
            refine gf_iadd (pc := 148) e311 (ti_rfl v3) (by omega) (by omega) dX8_ends_148 (fun v312 e313 => ?_)
            refine gi_zald (pc := 149) (lo := 0) (hi := 1) (len := 10) hv e313 rfl (by omega) (by omega) (fun _ => rfl) dX8_ends_149 (fun v314 v314l v314u v314w => ?_)
            have k315 := bd_e k306 (congrArg Int32.toInt v314w.symm)
            refine gf_if_ne (pc := 150) (tgt := 154) (ti_rfl v314) (by decide) dX8_ends_150 (fun q316 => ?_) (fun q316 => ?_)
            ·
              have k317 := if_t k315 q316
              refine go_iload (pc := 154) rfl dX8_ends_154 ?_
              refine gf_if_eq (pc := 156) (tgt := 174) (ti_c (v := 0) (a := 0) (by decide)) (by decide) dX8_ends_156 (fun q318 => ?_) (fun q318 => False.elim (by omega))
              refine go_iload (pc := 174) rfl dX8_ends_174 ?_
              refine gf_if_eq (pc := 176) (tgt := 195) (ti_c (v := 0) (a := 0) (by decide)) (by decide) dX8_ends_176 (fun q319 => ?_) (fun q319 => False.elim (by omega))
              exact gi_vret (pc := 195) ⟨rfl, hv, (k317.symm.trans kf), fx⟩ hv dX8_ends_195
            ·
              have k320 := if_f k315 (fun z => z q316)
              exact gi_vret (pc := 153) ⟨rfl, hv, (k320.symm.trans kf), fx⟩ hv dX8_ends_153
          ·
            have k321 := if_f k304 q305
            refine go_iload_n (pc := 85) rfl dX8_ends_85 ?_
            refine gf_if_eq (pc := 86) (tgt := 93) (ti_c (v := 0) (a := 0) (by decide)) (by decide) dX8_ends_86 (fun q322 => ?_) (fun q322 => False.elim (by omega))
            refine go_iconst (pc := 93) (v := 0) (by decide) dX8_ends_93 ?_
            refine go_istore (pc := 94) (Nat.le_of_ble_eq_true rfl) dX8_ends_94 (go_lv (lv2 := [(0, .ref 70), (1, .int a2), (2, .int v3), (3, .int 0), (4, .int 0), (5, .int 0)]) rfl ?_)
            refine go_iload (pc := 96) rfl dX8_ends_96 ?_
            refine gf_if_eq (pc := 98) (tgt := 116) (ti_c (v := 0) (a := 0) (by decide)) (by decide) dX8_ends_98 (fun q323 => ?_) (fun q323 => False.elim (by omega))
            refine go_iload (pc := 116) rfl dX8_ends_116 ?_
            refine gf_if_eq (pc := 118) (tgt := 137) (ti_c (v := 0) (a := 0) (by decide)) (by decide) dX8_ends_118 (fun q324 => ?_) (fun q324 => False.elim (by omega))
            refine go_aload_n (pc := 137) rfl dX8_ends_137 ?_
            refine gi_getF (pc := 138) (q := 102) hv fL_X8_105 rfl (Nat.le_of_ble_eq_true rfl) rfl (hv.rf (by decide)) dX8_ends_138 ?_
            refine go_iconst (pc := 141) (v := 5) (by decide) dX8_ends_141 ?_
            refine go_aload_n (pc := 142) rfl dX8_ends_142 ?_
            refine gi_get (pc := 143) (lo := 0) (hi := 1) hv fL_X8_187 rfl (Nat.le_of_ble_eq_true rfl) rfl rfl dX8_ends_143 (fun v325 v325l v325u v325w => ?_)
            have v325r : v5 = h.2.1 70 6 := v5w
            have v325q : TI v325 v5.toInt := by rw [v325w.trans v325r.symm]; exact (ti_rfl v5)
            refine gf_imul (pc := 146) (ti_c (v := 5) (a := 5) (by decide)) v325q (by omega) (by omega) dX8_ends_146 (fun v326 e327 => ?_)
            refine go_iload_n (pc := 147) rfl dX8_ends_147 ?_
            refine gf_iadd (pc := 148) e327 (ti_rfl v3) (by omega) (by omega) dX8_ends_148 (fun v328 e329 => ?_)
            refine gi_zald (pc := 149) (lo := 0) (hi := 1) (len := 10) hv e329 rfl (by omega) (by omega) (fun _ => rfl) dX8_ends_149 (fun v330 v330l v330u v330w => ?_)
            have k331 := bd_e k321 (congrArg Int32.toInt v330w.symm)
            refine gf_if_ne (pc := 150) (tgt := 154) (ti_rfl v330) (by decide) dX8_ends_150 (fun q332 => ?_) (fun q332 => ?_)
            ·
              have k333 := if_t k331 q332
              refine go_iload (pc := 154) rfl dX8_ends_154 ?_
              refine gf_if_eq (pc := 156) (tgt := 174) (ti_c (v := 0) (a := 0) (by decide)) (by decide) dX8_ends_156 (fun q334 => ?_) (fun q334 => False.elim (by omega))
              refine go_iload (pc := 174) rfl dX8_ends_174 ?_
              refine gf_if_eq (pc := 176) (tgt := 195) (ti_c (v := 0) (a := 0) (by decide)) (by decide) dX8_ends_176 (fun q335 => ?_) (fun q335 => False.elim (by omega))
              exact gi_vret (pc := 195) ⟨rfl, hv, (k333.symm.trans kf), fx⟩ hv dX8_ends_195
            ·
              have k336 := if_f k331 (fun z => z q332)
              exact gi_vret (pc := 153) ⟨rfl, hv, (k336.symm.trans kf), fx⟩ hv dX8_ends_153
        ·
          have k337 := if_f k298 (fun z => z q299)
          refine go_iload_n (pc := 66) rfl dX8_ends_66 ?_
          refine gf_if_eq (pc := 67) (tgt := 74) (ti_c (v := 0) (a := 0) (by decide)) (by decide) dX8_ends_67 (fun q338 => ?_) (fun q338 => False.elim (by omega))
          refine go_iconst (pc := 74) (v := 0) (by decide) dX8_ends_74 ?_
          refine go_istore (pc := 75) (Nat.le_of_ble_eq_true rfl) dX8_ends_75 (go_lv (lv2 := [(0, .ref 70), (1, .int a2), (2, .int v3), (3, .int 0), (4, .int 0)]) rfl ?_)
          refine go_aload_n (pc := 77) rfl dX8_ends_77 ?_
          refine go_iload_n (pc := 78) rfl dX8_ends_78 ?_
          refine go_invV (pc := 79) (sl := 0) (s_X8_isThrowing2_f l (d + 0) hv a2 (by rw [show (a2 : Int32).toInt = a2.toInt from (ti_rfl a2)]; omega) (by rw [show (a2 : Int32).toInt = a2.toInt from (ti_rfl a2)]; omega) ck) mL_X8_277 iM_X8_isThrowing sM_X8_isThrowing (hv.sh rfl) rfl rfl rfl (Nat.le_of_ble_eq_true rfl) (show d + 0 + 3 + 1 ≤ d + 4 by omega) (show 8 + (2 + 11) + 40 * (d + 0 + 3) ≤ 40 * (d + 4) by omega) (g_c0 hv.ln) (Nat.le_of_ble_eq_true rfl) dX8_ends_79 ?_
          intro r h339 hq _
          obtain ⟨v341, rfl, v341l, v341u, rfl, f340⟩ := hq
          replace f340 : PE _ _ := f340
          have k342 := bd_e k337 f340.symm
          refine gf_if_eq (pc := 82) (tgt := 93) (ti_rfl v341) (by decide) dX8_ends_82 (fun q343 => ?_) (fun q343 => ?_)
          ·
            have k344 := if_t k342 q343
            refine go_iconst (pc := 93) (v := 0) (by decide) dX8_ends_93 ?_
            refine go_istore (pc := 94) (Nat.le_of_ble_eq_true rfl) dX8_ends_94 (go_lv (lv2 := [(0, .ref 70), (1, .int a2), (2, .int v3), (3, .int 0), (4, .int 0), (5, .int 0)]) rfl ?_)
            refine go_iload (pc := 96) rfl dX8_ends_96 ?_
            refine gf_if_eq (pc := 98) (tgt := 116) (ti_c (v := 0) (a := 0) (by decide)) (by decide) dX8_ends_98 (fun q345 => ?_) (fun q345 => False.elim (by omega))
            refine go_iload (pc := 116) rfl dX8_ends_116 ?_
            refine gf_if_eq (pc := 118) (tgt := 137) (ti_c (v := 0) (a := 0) (by decide)) (by decide) dX8_ends_118 (fun q346 => ?_) (fun q346 => False.elim (by omega))
            refine go_aload_n (pc := 137) rfl dX8_ends_137 ?_
            refine gi_getF (pc := 138) (q := 102) hv fL_X8_105 rfl (Nat.le_of_ble_eq_true rfl) rfl (hv.rf (by decide)) dX8_ends_138 ?_
            refine go_iconst (pc := 141) (v := 5) (by decide) dX8_ends_141 ?_
            refine go_aload_n (pc := 142) rfl dX8_ends_142 ?_
            refine gi_get (pc := 143) (lo := 0) (hi := 1) hv fL_X8_187 rfl (Nat.le_of_ble_eq_true rfl) rfl rfl dX8_ends_143 (fun v347 v347l v347u v347w => ?_)
            have v347r : v5 = h.2.1 70 6 := v5w
            have v347q : TI v347 v5.toInt := by rw [v347w.trans v347r.symm]; exact (ti_rfl v5)
            refine gf_imul (pc := 146) (ti_c (v := 5) (a := 5) (by decide)) v347q (by omega) (by omega) dX8_ends_146 (fun v348 e349 => ?_)
            refine go_iload_n (pc := 147) rfl dX8_ends_147 ?_
            refine gf_iadd (pc := 148) e349 (ti_rfl v3) (by omega) (by omega) dX8_ends_148 (fun v350 e351 => ?_)
            refine gi_zald (pc := 149) (lo := 0) (hi := 1) (len := 10) hv e351 rfl (by omega) (by omega) (fun _ => rfl) dX8_ends_149 (fun v352 v352l v352u v352w => ?_)
            have k353 := bd_e k344 (congrArg Int32.toInt v352w.symm)
            refine gf_if_ne (pc := 150) (tgt := 154) (ti_rfl v352) (by decide) dX8_ends_150 (fun q354 => ?_) (fun q354 => ?_)
            ·
              have k355 := if_t k353 q354
              refine go_iload (pc := 154) rfl dX8_ends_154 ?_
              refine gf_if_eq (pc := 156) (tgt := 174) (ti_c (v := 0) (a := 0) (by decide)) (by decide) dX8_ends_156 (fun q356 => ?_) (fun q356 => False.elim (by omega))
              refine go_iload (pc := 174) rfl dX8_ends_174 ?_
              refine gf_if_eq (pc := 176) (tgt := 195) (ti_c (v := 0) (a := 0) (by decide)) (by decide) dX8_ends_176 (fun q357 => ?_) (fun q357 => False.elim (by omega))
              exact gi_vret (pc := 195) ⟨rfl, hv, (k355.symm.trans kf), fx⟩ hv dX8_ends_195
            ·
              have k358 := if_f k353 (fun z => z q354)
              exact gi_vret (pc := 153) ⟨rfl, hv, (k358.symm.trans kf), fx⟩ hv dX8_ends_153
          ·
            have k359 := if_f k342 q343
            refine go_iload_n (pc := 85) rfl dX8_ends_85 ?_
            refine gf_if_eq (pc := 86) (tgt := 93) (ti_c (v := 0) (a := 0) (by decide)) (by decide) dX8_ends_86 (fun q360 => ?_) (fun q360 => False.elim (by omega))
            refine go_iconst (pc := 93) (v := 0) (by decide) dX8_ends_93 ?_
            refine go_istore (pc := 94) (Nat.le_of_ble_eq_true rfl) dX8_ends_94 (go_lv (lv2 := [(0, .ref 70), (1, .int a2), (2, .int v3), (3, .int 0), (4, .int 0), (5, .int 0)]) rfl ?_)
            refine go_iload (pc := 96) rfl dX8_ends_96 ?_
            refine gf_if_eq (pc := 98) (tgt := 116) (ti_c (v := 0) (a := 0) (by decide)) (by decide) dX8_ends_98 (fun q361 => ?_) (fun q361 => False.elim (by omega))
            refine go_iload (pc := 116) rfl dX8_ends_116 ?_
            refine gf_if_eq (pc := 118) (tgt := 137) (ti_c (v := 0) (a := 0) (by decide)) (by decide) dX8_ends_118 (fun q362 => ?_) (fun q362 => False.elim (by omega))
            refine go_aload_n (pc := 137) rfl dX8_ends_137 ?_
            refine gi_getF (pc := 138) (q := 102) hv fL_X8_105 rfl (Nat.le_of_ble_eq_true rfl) rfl (hv.rf (by decide)) dX8_ends_138 ?_
            refine go_iconst (pc := 141) (v := 5) (by decide) dX8_ends_141 ?_
            refine go_aload_n (pc := 142) rfl dX8_ends_142 ?_
            refine gi_get (pc := 143) (lo := 0) (hi := 1) hv fL_X8_187 rfl (Nat.le_of_ble_eq_true rfl) rfl rfl dX8_ends_143 (fun v363 v363l v363u v363w => ?_)
            have v363r : v5 = h.2.1 70 6 := v5w
            have v363q : TI v363 v5.toInt := by rw [v363w.trans v363r.symm]; exact (ti_rfl v5)
            refine gf_imul (pc := 146) (ti_c (v := 5) (a := 5) (by decide)) v363q (by omega) (by omega) dX8_ends_146 (fun v364 e365 => ?_)
            refine go_iload_n (pc := 147) rfl dX8_ends_147 ?_
            refine gf_iadd (pc := 148) e365 (ti_rfl v3) (by omega) (by omega) dX8_ends_148 (fun v366 e367 => ?_)
            refine gi_zald (pc := 149) (lo := 0) (hi := 1) (len := 10) hv e367 rfl (by omega) (by omega) (fun _ => rfl) dX8_ends_149 (fun v368 v368l v368u v368w => ?_)
            have k369 := bd_e k359 (congrArg Int32.toInt v368w.symm)
            refine gf_if_ne (pc := 150) (tgt := 154) (ti_rfl v368) (by decide) dX8_ends_150 (fun q370 => ?_) (fun q370 => ?_)
            ·
              have k371 := if_t k369 q370
              refine go_iload (pc := 154) rfl dX8_ends_154 ?_
              refine gf_if_eq (pc := 156) (tgt := 174) (ti_c (v := 0) (a := 0) (by decide)) (by decide) dX8_ends_156 (fun q372 => ?_) (fun q372 => False.elim (by omega))
              refine go_iload (pc := 174) rfl dX8_ends_174 ?_
              refine gf_if_eq (pc := 176) (tgt := 195) (ti_c (v := 0) (a := 0) (by decide)) (by decide) dX8_ends_176 (fun q373 => ?_) (fun q373 => False.elim (by omega))
              exact gi_vret (pc := 195) ⟨rfl, hv, (k371.symm.trans kf), fx⟩ hv dX8_ends_195
            ·
              have k374 := if_f k369 (fun z => z q370)
              exact gi_vret (pc := 153) ⟨rfl, hv, (k374.symm.trans kf), fx⟩ hv dX8_ends_153
    ·
      have k375 := if_f k197 (fun z => z q198)
      refine go_iconst (pc := 42) (v := 1) (by decide) dX8_ends_42 ?_
      refine go_goto (pc := 43) (tgt := 47) (by decide) dX8_ends_43 ?_
      refine go_istore_n (pc := 47) (Nat.le_of_ble_eq_true rfl) dX8_ends_47 (go_lv (lv2 := [(0, .ref 70), (1, .int a2), (2, .int v3), (3, .int 1)]) rfl ?_)
      refine go_aload_n (pc := 48) rfl dX8_ends_48 ?_
      refine go_iload_n (pc := 49) rfl dX8_ends_49 ?_
      refine go_invV (pc := 50) (sl := 0) (s_X8_kindAt2_f l (d + 1) hv a2 (by rw [show (a2 : Int32).toInt = a2.toInt from (ti_rfl a2)]; omega) (by rw [show (a2 : Int32).toInt = a2.toInt from (ti_rfl a2)]; omega)) mL_X8_271 iM_X8_kindAt sM_X8_kindAt (hv.sh rfl) rfl rfl rfl (Nat.le_of_ble_eq_true rfl) (show d + 1 + 2 + 1 ≤ d + 4 by omega) (show 8 + (2 + 11) + 40 * (d + 1 + 2) ≤ 40 * (d + 4) by omega) (g_c0 hv.ln) (Nat.le_of_ble_eq_true rfl) dX8_ends_50 ?_
      intro r h376 hq _
      obtain ⟨v379, rfl, v379l, v379u, rfl, f377, f378⟩ := hq
      replace f378 : PE _ _ := f378
      have k380 := bd_e k375 f378.symm
      refine go_iconst (pc := 53) (v := 5) (by decide) dX8_ends_53 ?_
      refine gf_icmp_eq (pc := 54) (tgt := 70) (ti_rfl v379) (ti_c (v := 5) (a := 5) (by decide)) (by decide) dX8_ends_54 (fun q381 => ?_) (fun q381 => ?_)
      ·
        have k382 := if_t k380 q381
        refine go_iconst (pc := 70) (v := 1) (by decide) dX8_ends_70 ?_
        refine go_goto (pc := 71) (tgt := 75) (by decide) dX8_ends_71 ?_
        refine go_istore (pc := 75) (Nat.le_of_ble_eq_true rfl) dX8_ends_75 (go_lv (lv2 := [(0, .ref 70), (1, .int a2), (2, .int v3), (3, .int 1), (4, .int 1)]) rfl ?_)
        refine go_aload_n (pc := 77) rfl dX8_ends_77 ?_
        refine go_iload_n (pc := 78) rfl dX8_ends_78 ?_
        refine go_invV (pc := 79) (sl := 0) (s_X8_isThrowing2_f l (d + 0) hv a2 (by rw [show (a2 : Int32).toInt = a2.toInt from (ti_rfl a2)]; omega) (by rw [show (a2 : Int32).toInt = a2.toInt from (ti_rfl a2)]; omega) ck) mL_X8_277 iM_X8_isThrowing sM_X8_isThrowing (hv.sh rfl) rfl rfl rfl (Nat.le_of_ble_eq_true rfl) (show d + 0 + 3 + 1 ≤ d + 4 by omega) (show 8 + (2 + 11) + 40 * (d + 0 + 3) ≤ 40 * (d + 4) by omega) (g_c0 hv.ln) (Nat.le_of_ble_eq_true rfl) dX8_ends_79 ?_
        intro r h383 hq _
        obtain ⟨v385, rfl, v385l, v385u, rfl, f384⟩ := hq
        replace f384 : PE _ _ := f384
        have k386 := bd_e k382 f384.symm
        refine gf_if_eq (pc := 82) (tgt := 93) (ti_rfl v385) (by decide) dX8_ends_82 (fun q387 => ?_) (fun q387 => ?_)
        ·
          have k388 := if_t k386 q387
          refine go_iconst (pc := 93) (v := 0) (by decide) dX8_ends_93 ?_
          refine go_istore (pc := 94) (Nat.le_of_ble_eq_true rfl) dX8_ends_94 (go_lv (lv2 := [(0, .ref 70), (1, .int a2), (2, .int v3), (3, .int 1), (4, .int 1), (5, .int 0)]) rfl ?_)
          refine go_iload (pc := 96) rfl dX8_ends_96 ?_
          refine gf_if_eq (pc := 98) (tgt := 116) (ti_c (v := 1) (a := 1) (by decide)) (by decide) dX8_ends_98 (fun q389 => False.elim (by omega)) (fun q389 => ?_)
          refine go_aload_n (pc := 101) rfl dX8_ends_101 ?_
          refine go_iload_n (pc := 102) rfl dX8_ends_102 ?_
          refine go_bipush (pc := 103) (v := 7) (by decide) dX8_ends_103 ?_
          refine go_invS (pc := 105) (sl := 0) (s_X8_procedurePlace2_f l (d + 2) hv v3 (by rw [show (v3 : Int32).toInt = v3.toInt from (ti_rfl v3)]; omega) (by rw [show (v3 : Int32).toInt = v3.toInt from (ti_rfl v3)]; omega) 7 (by rw [show (7 : Int32).toInt = 7 from (ti_c (v := 7) (a := 7) (by decide))]; omega) (by rw [show (7 : Int32).toInt = 7 from (ti_c (v := 7) (a := 7) (by decide))]; omega)) mL_X8_300 iM_X8_procedurePlace rfl rfl (Nat.le_of_ble_eq_true rfl) (show d + 2 + 1 + 1 ≤ d + 4 by omega) (show 8 + (2 + 11) + 40 * (d + 2 + 1) ≤ 40 * (d + 4) by omega) (g_c0 hv.ln) (Nat.le_of_ble_eq_true rfl) dX8_ends_105 ?_
          intro r h390 hq _
          obtain ⟨v392, rfl, v392l, v392u, rfl, f391⟩ := hq
          try rw [show (7 : Int32).toInt = 7 from (ti_c (v := 7) (a := 7) (by decide))] at f391
          replace f391 : PE _ _ := f391
          have k393 := bd_e k388 f391.symm
          refine go_iload_n (pc := 108) rfl dX8_ends_108 ?_
          refine go_iconst (pc := 109) (v := 0) (by decide) dX8_ends_109 ?_
          refine go_invS (pc := 110) (sl := 0) (s_X8_statementPlace2_f l (d + 2) hv a2 (by rw [show (a2 : Int32).toInt = a2.toInt from (ti_rfl a2)]; omega) (by rw [show (a2 : Int32).toInt = a2.toInt from (ti_rfl a2)]; omega) 0 (by rw [show (0 : Int32).toInt = 0 from (ti_c (v := 0) (a := 0) (by decide))]; omega) (by rw [show (0 : Int32).toInt = 0 from (ti_c (v := 0) (a := 0) (by decide))]; omega)) mL_X8_291 iM_X8_statementPlace rfl rfl (Nat.le_of_ble_eq_true rfl) (show d + 2 + 1 + 1 ≤ d + 4 by omega) (show 8 + (2 + 11) + 40 * (d + 2 + 1) ≤ 40 * (d + 4) by omega) (g_c0 hv.ln) (Nat.le_of_ble_eq_true rfl) dX8_ends_110 ?_
          intro r h394 hq _
          obtain ⟨v396, rfl, v396l, v396u, rfl, f395⟩ := hq
          try rw [show (0 : Int32).toInt = 0 from (ti_c (v := 0) (a := 0) (by decide))] at f395
          replace f395 : PE _ _ := f395
          have k397 := bd_e k393 f395.symm
          refine go_invV (pc := 113) (sl := 0) (s_X8_hang2_f l (d + 2) hv v392 (by rw [show (v392 : Int32).toInt = v392.toInt from (ti_rfl v392)]; omega) (by rw [show (v392 : Int32).toInt = v392.toInt from (ti_rfl v392)]; omega) v396 (by rw [show (v396 : Int32).toInt = v396.toInt from (ti_rfl v396)]; omega) (by rw [show (v396 : Int32).toInt = v396.toInt from (ti_rfl v396)]; omega)) mL_X8_303 iM_X8_hang sM_X8_hang (hv.sh rfl) rfl rfl rfl (Nat.le_of_ble_eq_true rfl) (show d + 2 + 1 + 1 ≤ d + 4 by omega) (show 8 + (3 + 11) + 40 * (d + 2 + 1) ≤ 40 * (d + 4) by omega) (g_c0 hv.ln) (Nat.le_of_ble_eq_true rfl) dX8_ends_113 ?_
          intro r h398 hq _
          obtain ⟨rfl, hv398, f399, f400⟩ := hq
          have fx398 : FX KAr h h398 := FX.tr fx f400
          have k401 := bd_e k397 f399.symm
          refine go_iload (pc := 116) rfl dX8_ends_116 ?_
          refine gf_if_eq (pc := 118) (tgt := 137) (ti_c (v := 0) (a := 0) (by decide)) (by decide) dX8_ends_118 (fun q402 => ?_) (fun q402 => False.elim (by omega))
          refine go_aload_n (pc := 137) rfl dX8_ends_137 ?_
          refine gi_getF (pc := 138) (q := 102) hv398 fL_X8_105 rfl (Nat.le_of_ble_eq_true rfl) rfl (hv398.rf (by decide)) dX8_ends_138 ?_
          refine go_iconst (pc := 141) (v := 5) (by decide) dX8_ends_141 ?_
          refine go_aload_n (pc := 142) rfl dX8_ends_142 ?_
          refine gi_get (pc := 143) (lo := 0) (hi := 1) hv398 fL_X8_187 rfl (Nat.le_of_ble_eq_true rfl) rfl rfl dX8_ends_143 (fun v403 v403l v403u v403w => ?_)
          have k404 := bd_e k401 (congrArg Int32.toInt v403w.symm)
          refine gf_imul (pc := 146) (ti_c (v := 5) (a := 5) (by decide)) (ti_rfl v403) (by omega) (by omega) dX8_ends_146 (fun v405 e406 => ?_)
          refine go_iload_n (pc := 147) rfl dX8_ends_147 ?_
          refine gf_iadd (pc := 148) e406 (ti_rfl v3) (by omega) (by omega) dX8_ends_148 (fun v407 e408 => ?_)
          refine gi_zald (pc := 149) (lo := 0) (hi := 1) (len := 10) hv398 e408 rfl (by omega) (by omega) (fun _ => rfl) dX8_ends_149 (fun v409 v409l v409u v409w => ?_)
          have k410 := bd_e k404 (congrArg Int32.toInt v409w.symm)
          refine gf_if_ne (pc := 150) (tgt := 154) (ti_rfl v409) (by decide) dX8_ends_150 (fun q411 => ?_) (fun q411 => ?_)
          ·
            have k412 := if_t k410 q411
            refine go_iload (pc := 154) rfl dX8_ends_154 ?_
            refine gf_if_eq (pc := 156) (tgt := 174) (ti_c (v := 1) (a := 1) (by decide)) (by decide) dX8_ends_156 (fun q413 => False.elim (by omega)) (fun q413 => ?_)
            refine go_aload_n (pc := 159) rfl dX8_ends_159 ?_
            refine go_iload_n (pc := 160) rfl dX8_ends_160 ?_
            refine go_bipush (pc := 161) (v := 8) (by decide) dX8_ends_161 ?_
            refine go_invS (pc := 163) (sl := 0) (s_X8_procedurePlace2_f l (d + 2) hv398 v3 (by rw [show (v3 : Int32).toInt = v3.toInt from (ti_rfl v3)]; omega) (by rw [show (v3 : Int32).toInt = v3.toInt from (ti_rfl v3)]; omega) 8 (by rw [show (8 : Int32).toInt = 8 from (ti_c (v := 8) (a := 8) (by decide))]; omega) (by rw [show (8 : Int32).toInt = 8 from (ti_c (v := 8) (a := 8) (by decide))]; omega)) mL_X8_300 iM_X8_procedurePlace rfl rfl (Nat.le_of_ble_eq_true rfl) (show d + 2 + 1 + 1 ≤ d + 4 by omega) (show 8 + (2 + 11) + 40 * (d + 2 + 1) ≤ 40 * (d + 4) by omega) (g_c0 hv398.ln) (Nat.le_of_ble_eq_true rfl) dX8_ends_163 ?_
            intro r h414 hq _
            obtain ⟨v416, rfl, v416l, v416u, rfl, f415⟩ := hq
            try rw [show (8 : Int32).toInt = 8 from (ti_c (v := 8) (a := 8) (by decide))] at f415
            replace f415 : PE _ _ := f415
            have k417 := bd_e k412 f415.symm
            refine go_iload_n (pc := 166) rfl dX8_ends_166 ?_
            refine go_iconst (pc := 167) (v := 0) (by decide) dX8_ends_167 ?_
            refine go_invS (pc := 168) (sl := 0) (s_X8_statementPlace2_f l (d + 2) hv398 a2 (by rw [show (a2 : Int32).toInt = a2.toInt from (ti_rfl a2)]; omega) (by rw [show (a2 : Int32).toInt = a2.toInt from (ti_rfl a2)]; omega) 0 (by rw [show (0 : Int32).toInt = 0 from (ti_c (v := 0) (a := 0) (by decide))]; omega) (by rw [show (0 : Int32).toInt = 0 from (ti_c (v := 0) (a := 0) (by decide))]; omega)) mL_X8_291 iM_X8_statementPlace rfl rfl (Nat.le_of_ble_eq_true rfl) (show d + 2 + 1 + 1 ≤ d + 4 by omega) (show 8 + (2 + 11) + 40 * (d + 2 + 1) ≤ 40 * (d + 4) by omega) (g_c0 hv398.ln) (Nat.le_of_ble_eq_true rfl) dX8_ends_168 ?_
            intro r h418 hq _
            obtain ⟨v420, rfl, v420l, v420u, rfl, f419⟩ := hq
            try rw [show (0 : Int32).toInt = 0 from (ti_c (v := 0) (a := 0) (by decide))] at f419
            replace f419 : PE _ _ := f419
            have k421 := bd_e k417 f419.symm
            refine go_invV (pc := 171) (sl := 0) (s_X8_hang2_f l (d + 2) hv398 v416 (by rw [show (v416 : Int32).toInt = v416.toInt from (ti_rfl v416)]; omega) (by rw [show (v416 : Int32).toInt = v416.toInt from (ti_rfl v416)]; omega) v420 (by rw [show (v420 : Int32).toInt = v420.toInt from (ti_rfl v420)]; omega) (by rw [show (v420 : Int32).toInt = v420.toInt from (ti_rfl v420)]; omega)) mL_X8_303 iM_X8_hang sM_X8_hang (hv398.sh rfl) rfl rfl rfl (Nat.le_of_ble_eq_true rfl) (show d + 2 + 1 + 1 ≤ d + 4 by omega) (show 8 + (3 + 11) + 40 * (d + 2 + 1) ≤ 40 * (d + 4) by omega) (g_c0 hv398.ln) (Nat.le_of_ble_eq_true rfl) dX8_ends_171 ?_
            intro r h422 hq _
            obtain ⟨rfl, hv422, f423, f424⟩ := hq
            have fx422 : FX KAr h h422 := FX.tr fx398 f424
            have k425 := bd_e k421 f423.symm
            refine go_iload (pc := 174) rfl dX8_ends_174 ?_
            refine gf_if_eq (pc := 176) (tgt := 195) (ti_c (v := 0) (a := 0) (by decide)) (by decide) dX8_ends_176 (fun q426 => ?_) (fun q426 => False.elim (by omega))
            exact gi_vret (pc := 195) ⟨rfl, hv422, (k425.symm.trans kf), fx422⟩ hv422 dX8_ends_195
          ·
            have k427 := if_f k410 (fun z => z q411)
            exact gi_vret (pc := 153) ⟨rfl, hv398, (k427.symm.trans kf), fx398⟩ hv398 dX8_ends_153
        ·
          have k428 := if_f k386 q387
          refine go_iload_n (pc := 85) rfl dX8_ends_85 ?_
          refine gf_if_eq (pc := 86) (tgt := 93) (ti_c (v := 1) (a := 1) (by decide)) (by decide) dX8_ends_86 (fun q429 => False.elim (by omega)) (fun q429 => ?_)
          refine go_iconst (pc := 89) (v := 1) (by decide) dX8_ends_89 ?_
          refine go_goto (pc := 90) (tgt := 94) (by decide) dX8_ends_90 ?_
          refine go_istore (pc := 94) (Nat.le_of_ble_eq_true rfl) dX8_ends_94 (go_lv (lv2 := [(0, .ref 70), (1, .int a2), (2, .int v3), (3, .int 1), (4, .int 1), (5, .int 1)]) rfl ?_)
          refine go_iload (pc := 96) rfl dX8_ends_96 ?_
          refine gf_if_eq (pc := 98) (tgt := 116) (ti_c (v := 1) (a := 1) (by decide)) (by decide) dX8_ends_98 (fun q430 => False.elim (by omega)) (fun q430 => ?_)
          refine go_aload_n (pc := 101) rfl dX8_ends_101 ?_
          refine go_iload_n (pc := 102) rfl dX8_ends_102 ?_
          refine go_bipush (pc := 103) (v := 7) (by decide) dX8_ends_103 ?_
          refine go_invS (pc := 105) (sl := 0) (s_X8_procedurePlace2_f l (d + 2) hv v3 (by rw [show (v3 : Int32).toInt = v3.toInt from (ti_rfl v3)]; omega) (by rw [show (v3 : Int32).toInt = v3.toInt from (ti_rfl v3)]; omega) 7 (by rw [show (7 : Int32).toInt = 7 from (ti_c (v := 7) (a := 7) (by decide))]; omega) (by rw [show (7 : Int32).toInt = 7 from (ti_c (v := 7) (a := 7) (by decide))]; omega)) mL_X8_300 iM_X8_procedurePlace rfl rfl (Nat.le_of_ble_eq_true rfl) (show d + 2 + 1 + 1 ≤ d + 4 by omega) (show 8 + (2 + 11) + 40 * (d + 2 + 1) ≤ 40 * (d + 4) by omega) (g_c0 hv.ln) (Nat.le_of_ble_eq_true rfl) dX8_ends_105 ?_
          intro r h431 hq _
          obtain ⟨v433, rfl, v433l, v433u, rfl, f432⟩ := hq
          try rw [show (7 : Int32).toInt = 7 from (ti_c (v := 7) (a := 7) (by decide))] at f432
          replace f432 : PE _ _ := f432
          have k434 := bd_e k428 f432.symm
          refine go_iload_n (pc := 108) rfl dX8_ends_108 ?_
          refine go_iconst (pc := 109) (v := 0) (by decide) dX8_ends_109 ?_
          refine go_invS (pc := 110) (sl := 0) (s_X8_statementPlace2_f l (d + 2) hv a2 (by rw [show (a2 : Int32).toInt = a2.toInt from (ti_rfl a2)]; omega) (by rw [show (a2 : Int32).toInt = a2.toInt from (ti_rfl a2)]; omega) 0 (by rw [show (0 : Int32).toInt = 0 from (ti_c (v := 0) (a := 0) (by decide))]; omega) (by rw [show (0 : Int32).toInt = 0 from (ti_c (v := 0) (a := 0) (by decide))]; omega)) mL_X8_291 iM_X8_statementPlace rfl rfl (Nat.le_of_ble_eq_true rfl) (show d + 2 + 1 + 1 ≤ d + 4 by omega) (show 8 + (2 + 11) + 40 * (d + 2 + 1) ≤ 40 * (d + 4) by omega) (g_c0 hv.ln) (Nat.le_of_ble_eq_true rfl) dX8_ends_110 ?_
          intro r h435 hq _
          obtain ⟨v437, rfl, v437l, v437u, rfl, f436⟩ := hq
          try rw [show (0 : Int32).toInt = 0 from (ti_c (v := 0) (a := 0) (by decide))] at f436
          replace f436 : PE _ _ := f436
          have k438 := bd_e k434 f436.symm
          refine go_invV (pc := 113) (sl := 0) (s_X8_hang2_f l (d + 2) hv v433 (by rw [show (v433 : Int32).toInt = v433.toInt from (ti_rfl v433)]; omega) (by rw [show (v433 : Int32).toInt = v433.toInt from (ti_rfl v433)]; omega) v437 (by rw [show (v437 : Int32).toInt = v437.toInt from (ti_rfl v437)]; omega) (by rw [show (v437 : Int32).toInt = v437.toInt from (ti_rfl v437)]; omega)) mL_X8_303 iM_X8_hang sM_X8_hang (hv.sh rfl) rfl rfl rfl (Nat.le_of_ble_eq_true rfl) (show d + 2 + 1 + 1 ≤ d + 4 by omega) (show 8 + (3 + 11) + 40 * (d + 2 + 1) ≤ 40 * (d + 4) by omega) (g_c0 hv.ln) (Nat.le_of_ble_eq_true rfl) dX8_ends_113 ?_
          intro r h439 hq _
          obtain ⟨rfl, hv439, f440, f441⟩ := hq
          have fx439 : FX KAr h h439 := FX.tr fx f441
          have k442 := bd_e k438 f440.symm
          refine go_iload (pc := 116) rfl dX8_ends_116 ?_
          refine gf_if_eq (pc := 118) (tgt := 137) (ti_c (v := 1) (a := 1) (by decide)) (by decide) dX8_ends_118 (fun q443 => False.elim (by omega)) (fun q443 => ?_)
          refine go_aload_n (pc := 121) rfl dX8_ends_121 ?_
          refine go_iload_n (pc := 122) rfl dX8_ends_122 ?_
          refine go_bipush (pc := 123) (v := 7) (by decide) dX8_ends_123 ?_
          refine go_invS (pc := 125) (sl := 0) (s_X8_procedurePlace2_f l (d + 2) hv439 v3 (by rw [show (v3 : Int32).toInt = v3.toInt from (ti_rfl v3)]; omega) (by rw [show (v3 : Int32).toInt = v3.toInt from (ti_rfl v3)]; omega) 7 (by rw [show (7 : Int32).toInt = 7 from (ti_c (v := 7) (a := 7) (by decide))]; omega) (by rw [show (7 : Int32).toInt = 7 from (ti_c (v := 7) (a := 7) (by decide))]; omega)) mL_X8_300 iM_X8_procedurePlace rfl rfl (Nat.le_of_ble_eq_true rfl) (show d + 2 + 1 + 1 ≤ d + 4 by omega) (show 8 + (2 + 11) + 40 * (d + 2 + 1) ≤ 40 * (d + 4) by omega) (g_c0 hv439.ln) (Nat.le_of_ble_eq_true rfl) dX8_ends_125 ?_
          intro r h444 hq _
          obtain ⟨v446, rfl, v446l, v446u, rfl, f445⟩ := hq
          try rw [show (7 : Int32).toInt = 7 from (ti_c (v := 7) (a := 7) (by decide))] at f445
          replace f445 : PE _ _ := f445
          have k447 := bd_e k442 f445.symm
          refine go_iload_n (pc := 128) rfl dX8_ends_128 ?_
          refine go_bipush (pc := 129) (v := 7) (by decide) dX8_ends_129 ?_
          refine go_invS (pc := 131) (sl := 0) (s_X8_statementPlace2_f l (d + 2) hv439 a2 (by rw [show (a2 : Int32).toInt = a2.toInt from (ti_rfl a2)]; omega) (by rw [show (a2 : Int32).toInt = a2.toInt from (ti_rfl a2)]; omega) 7 (by rw [show (7 : Int32).toInt = 7 from (ti_c (v := 7) (a := 7) (by decide))]; omega) (by rw [show (7 : Int32).toInt = 7 from (ti_c (v := 7) (a := 7) (by decide))]; omega)) mL_X8_291 iM_X8_statementPlace rfl rfl (Nat.le_of_ble_eq_true rfl) (show d + 2 + 1 + 1 ≤ d + 4 by omega) (show 8 + (2 + 11) + 40 * (d + 2 + 1) ≤ 40 * (d + 4) by omega) (g_c0 hv439.ln) (Nat.le_of_ble_eq_true rfl) dX8_ends_131 ?_
          intro r h448 hq _
          obtain ⟨v450, rfl, v450l, v450u, rfl, f449⟩ := hq
          try rw [show (7 : Int32).toInt = 7 from (ti_c (v := 7) (a := 7) (by decide))] at f449
          replace f449 : PE _ _ := f449
          have k451 := bd_e k447 f449.symm
          refine go_invV (pc := 134) (sl := 0) (s_X8_hang2_f l (d + 2) hv439 v446 (by rw [show (v446 : Int32).toInt = v446.toInt from (ti_rfl v446)]; omega) (by rw [show (v446 : Int32).toInt = v446.toInt from (ti_rfl v446)]; omega) v450 (by rw [show (v450 : Int32).toInt = v450.toInt from (ti_rfl v450)]; omega) (by rw [show (v450 : Int32).toInt = v450.toInt from (ti_rfl v450)]; omega)) mL_X8_303 iM_X8_hang sM_X8_hang (hv439.sh rfl) rfl rfl rfl (Nat.le_of_ble_eq_true rfl) (show d + 2 + 1 + 1 ≤ d + 4 by omega) (show 8 + (3 + 11) + 40 * (d + 2 + 1) ≤ 40 * (d + 4) by omega) (g_c0 hv439.ln) (Nat.le_of_ble_eq_true rfl) dX8_ends_134 ?_
          intro r h452 hq _
          obtain ⟨rfl, hv452, f453, f454⟩ := hq
          have fx452 : FX KAr h h452 := FX.tr fx439 f454
          have k455 := bd_e k451 f453.symm
          refine go_aload_n (pc := 137) rfl dX8_ends_137 ?_
          refine gi_getF (pc := 138) (q := 102) hv452 fL_X8_105 rfl (Nat.le_of_ble_eq_true rfl) rfl (hv452.rf (by decide)) dX8_ends_138 ?_
          refine go_iconst (pc := 141) (v := 5) (by decide) dX8_ends_141 ?_
          refine go_aload_n (pc := 142) rfl dX8_ends_142 ?_
          refine gi_get (pc := 143) (lo := 0) (hi := 1) hv452 fL_X8_187 rfl (Nat.le_of_ble_eq_true rfl) rfl rfl dX8_ends_143 (fun v456 v456l v456u v456w => ?_)
          have k457 := bd_e k455 (congrArg Int32.toInt v456w.symm)
          refine gf_imul (pc := 146) (ti_c (v := 5) (a := 5) (by decide)) (ti_rfl v456) (by omega) (by omega) dX8_ends_146 (fun v458 e459 => ?_)
          refine go_iload_n (pc := 147) rfl dX8_ends_147 ?_
          refine gf_iadd (pc := 148) e459 (ti_rfl v3) (by omega) (by omega) dX8_ends_148 (fun v460 e461 => ?_)
          refine gi_zald (pc := 149) (lo := 0) (hi := 1) (len := 10) hv452 e461 rfl (by omega) (by omega) (fun _ => rfl) dX8_ends_149 (fun v462 v462l v462u v462w => ?_)
          have k463 := bd_e k457 (congrArg Int32.toInt v462w.symm)
          refine gf_if_ne (pc := 150) (tgt := 154) (ti_rfl v462) (by decide) dX8_ends_150 (fun q464 => ?_) (fun q464 => ?_)
          ·
            have k465 := if_t k463 q464
            refine go_iload (pc := 154) rfl dX8_ends_154 ?_
            refine gf_if_eq (pc := 156) (tgt := 174) (ti_c (v := 1) (a := 1) (by decide)) (by decide) dX8_ends_156 (fun q466 => False.elim (by omega)) (fun q466 => ?_)
            refine go_aload_n (pc := 159) rfl dX8_ends_159 ?_
            refine go_iload_n (pc := 160) rfl dX8_ends_160 ?_
            refine go_bipush (pc := 161) (v := 8) (by decide) dX8_ends_161 ?_
            refine go_invS (pc := 163) (sl := 0) (s_X8_procedurePlace2_f l (d + 2) hv452 v3 (by rw [show (v3 : Int32).toInt = v3.toInt from (ti_rfl v3)]; omega) (by rw [show (v3 : Int32).toInt = v3.toInt from (ti_rfl v3)]; omega) 8 (by rw [show (8 : Int32).toInt = 8 from (ti_c (v := 8) (a := 8) (by decide))]; omega) (by rw [show (8 : Int32).toInt = 8 from (ti_c (v := 8) (a := 8) (by decide))]; omega)) mL_X8_300 iM_X8_procedurePlace rfl rfl (Nat.le_of_ble_eq_true rfl) (show d + 2 + 1 + 1 ≤ d + 4 by omega) (show 8 + (2 + 11) + 40 * (d + 2 + 1) ≤ 40 * (d + 4) by omega) (g_c0 hv452.ln) (Nat.le_of_ble_eq_true rfl) dX8_ends_163 ?_
            intro r h467 hq _
            obtain ⟨v469, rfl, v469l, v469u, rfl, f468⟩ := hq
            try rw [show (8 : Int32).toInt = 8 from (ti_c (v := 8) (a := 8) (by decide))] at f468
            replace f468 : PE _ _ := f468
            have k470 := bd_e k465 f468.symm
            refine go_iload_n (pc := 166) rfl dX8_ends_166 ?_
            refine go_iconst (pc := 167) (v := 0) (by decide) dX8_ends_167 ?_
            refine go_invS (pc := 168) (sl := 0) (s_X8_statementPlace2_f l (d + 2) hv452 a2 (by rw [show (a2 : Int32).toInt = a2.toInt from (ti_rfl a2)]; omega) (by rw [show (a2 : Int32).toInt = a2.toInt from (ti_rfl a2)]; omega) 0 (by rw [show (0 : Int32).toInt = 0 from (ti_c (v := 0) (a := 0) (by decide))]; omega) (by rw [show (0 : Int32).toInt = 0 from (ti_c (v := 0) (a := 0) (by decide))]; omega)) mL_X8_291 iM_X8_statementPlace rfl rfl (Nat.le_of_ble_eq_true rfl) (show d + 2 + 1 + 1 ≤ d + 4 by omega) (show 8 + (2 + 11) + 40 * (d + 2 + 1) ≤ 40 * (d + 4) by omega) (g_c0 hv452.ln) (Nat.le_of_ble_eq_true rfl) dX8_ends_168 ?_
            intro r h471 hq _
            obtain ⟨v473, rfl, v473l, v473u, rfl, f472⟩ := hq
            try rw [show (0 : Int32).toInt = 0 from (ti_c (v := 0) (a := 0) (by decide))] at f472
            replace f472 : PE _ _ := f472
            have k474 := bd_e k470 f472.symm
            refine go_invV (pc := 171) (sl := 0) (s_X8_hang2_f l (d + 2) hv452 v469 (by rw [show (v469 : Int32).toInt = v469.toInt from (ti_rfl v469)]; omega) (by rw [show (v469 : Int32).toInt = v469.toInt from (ti_rfl v469)]; omega) v473 (by rw [show (v473 : Int32).toInt = v473.toInt from (ti_rfl v473)]; omega) (by rw [show (v473 : Int32).toInt = v473.toInt from (ti_rfl v473)]; omega)) mL_X8_303 iM_X8_hang sM_X8_hang (hv452.sh rfl) rfl rfl rfl (Nat.le_of_ble_eq_true rfl) (show d + 2 + 1 + 1 ≤ d + 4 by omega) (show 8 + (3 + 11) + 40 * (d + 2 + 1) ≤ 40 * (d + 4) by omega) (g_c0 hv452.ln) (Nat.le_of_ble_eq_true rfl) dX8_ends_171 ?_
            intro r h475 hq _
            obtain ⟨rfl, hv475, f476, f477⟩ := hq
            have fx475 : FX KAr h h475 := FX.tr fx452 f477
            have k478 := bd_e k474 f476.symm
            refine go_iload (pc := 174) rfl dX8_ends_174 ?_
            refine gf_if_eq (pc := 176) (tgt := 195) (ti_c (v := 1) (a := 1) (by decide)) (by decide) dX8_ends_176 (fun q479 => False.elim (by omega)) (fun q479 => ?_)
            refine go_aload_n (pc := 179) rfl dX8_ends_179 ?_
            refine go_iload_n (pc := 180) rfl dX8_ends_180 ?_
            refine go_bipush (pc := 181) (v := 8) (by decide) dX8_ends_181 ?_
            refine go_invS (pc := 183) (sl := 0) (s_X8_procedurePlace2_f l (d + 2) hv475 v3 (by rw [show (v3 : Int32).toInt = v3.toInt from (ti_rfl v3)]; omega) (by rw [show (v3 : Int32).toInt = v3.toInt from (ti_rfl v3)]; omega) 8 (by rw [show (8 : Int32).toInt = 8 from (ti_c (v := 8) (a := 8) (by decide))]; omega) (by rw [show (8 : Int32).toInt = 8 from (ti_c (v := 8) (a := 8) (by decide))]; omega)) mL_X8_300 iM_X8_procedurePlace rfl rfl (Nat.le_of_ble_eq_true rfl) (show d + 2 + 1 + 1 ≤ d + 4 by omega) (show 8 + (2 + 11) + 40 * (d + 2 + 1) ≤ 40 * (d + 4) by omega) (g_c0 hv475.ln) (Nat.le_of_ble_eq_true rfl) dX8_ends_183 ?_
            intro r h480 hq _
            obtain ⟨v482, rfl, v482l, v482u, rfl, f481⟩ := hq
            try rw [show (8 : Int32).toInt = 8 from (ti_c (v := 8) (a := 8) (by decide))] at f481
            replace f481 : PE _ _ := f481
            have k483 := bd_e k478 f481.symm
            refine go_iload_n (pc := 186) rfl dX8_ends_186 ?_
            refine go_bipush (pc := 187) (v := 8) (by decide) dX8_ends_187 ?_
            refine go_invS (pc := 189) (sl := 0) (s_X8_statementPlace2_f l (d + 2) hv475 a2 (by rw [show (a2 : Int32).toInt = a2.toInt from (ti_rfl a2)]; omega) (by rw [show (a2 : Int32).toInt = a2.toInt from (ti_rfl a2)]; omega) 8 (by rw [show (8 : Int32).toInt = 8 from (ti_c (v := 8) (a := 8) (by decide))]; omega) (by rw [show (8 : Int32).toInt = 8 from (ti_c (v := 8) (a := 8) (by decide))]; omega)) mL_X8_291 iM_X8_statementPlace rfl rfl (Nat.le_of_ble_eq_true rfl) (show d + 2 + 1 + 1 ≤ d + 4 by omega) (show 8 + (2 + 11) + 40 * (d + 2 + 1) ≤ 40 * (d + 4) by omega) (g_c0 hv475.ln) (Nat.le_of_ble_eq_true rfl) dX8_ends_189 ?_
            intro r h484 hq _
            obtain ⟨v486, rfl, v486l, v486u, rfl, f485⟩ := hq
            try rw [show (8 : Int32).toInt = 8 from (ti_c (v := 8) (a := 8) (by decide))] at f485
            replace f485 : PE _ _ := f485
            have k487 := bd_e k483 f485.symm
            refine go_invV (pc := 192) (sl := 0) (s_X8_hang2_f l (d + 2) hv475 v482 (by rw [show (v482 : Int32).toInt = v482.toInt from (ti_rfl v482)]; omega) (by rw [show (v482 : Int32).toInt = v482.toInt from (ti_rfl v482)]; omega) v486 (by rw [show (v486 : Int32).toInt = v486.toInt from (ti_rfl v486)]; omega) (by rw [show (v486 : Int32).toInt = v486.toInt from (ti_rfl v486)]; omega)) mL_X8_303 iM_X8_hang sM_X8_hang (hv475.sh rfl) rfl rfl rfl (Nat.le_of_ble_eq_true rfl) (show d + 2 + 1 + 1 ≤ d + 4 by omega) (show 8 + (3 + 11) + 40 * (d + 2 + 1) ≤ 40 * (d + 4) by omega) (g_c0 hv475.ln) (Nat.le_of_ble_eq_true rfl) dX8_ends_192 ?_
            intro r h488 hq _
            obtain ⟨rfl, hv488, f489, f490⟩ := hq
            have fx488 : FX KAr h h488 := FX.tr fx475 f490
            have k491 := bd_e k487 f489.symm
            exact gi_vret (pc := 195) ⟨rfl, hv488, (k491.symm.trans kf), fx488⟩ hv488 dX8_ends_195
          ·
            have k492 := if_f k463 (fun z => z q464)
            exact gi_vret (pc := 153) ⟨rfl, hv452, (k492.symm.trans kf), fx452⟩ hv452 dX8_ends_153
      ·
        have k493 := if_f k380 q381
        refine go_aload_n (pc := 57) rfl dX8_ends_57 ?_
        refine go_iload_n (pc := 58) rfl dX8_ends_58 ?_
        refine go_invV (pc := 59) (sl := 0) (s_X8_kindAt2_f l (d + 1) hv a2 (by rw [show (a2 : Int32).toInt = a2.toInt from (ti_rfl a2)]; omega) (by rw [show (a2 : Int32).toInt = a2.toInt from (ti_rfl a2)]; omega)) mL_X8_271 iM_X8_kindAt sM_X8_kindAt (hv.sh rfl) rfl rfl rfl (Nat.le_of_ble_eq_true rfl) (show d + 1 + 2 + 1 ≤ d + 4 by omega) (show 8 + (2 + 11) + 40 * (d + 1 + 2) ≤ 40 * (d + 4) by omega) (g_c0 hv.ln) (Nat.le_of_ble_eq_true rfl) dX8_ends_59 ?_
        intro r h494 hq _
        obtain ⟨v497, rfl, v497l, v497u, rfl, f495, f496⟩ := hq
        replace f496 : PE _ _ := f496
        have k498 := bd_e k493 f496.symm
        refine go_iconst (pc := 62) (v := 4) (by decide) dX8_ends_62 ?_
        refine gf_icmp_ne (pc := 63) (tgt := 74) (ti_rfl v497) (ti_c (v := 4) (a := 4) (by decide)) (by decide) dX8_ends_63 (fun q499 => ?_) (fun q499 => ?_)
        ·
          have k500 := if_t k498 q499
          refine go_iconst (pc := 74) (v := 0) (by decide) dX8_ends_74 ?_
          refine go_istore (pc := 75) (Nat.le_of_ble_eq_true rfl) dX8_ends_75 (go_lv (lv2 := [(0, .ref 70), (1, .int a2), (2, .int v3), (3, .int 1), (4, .int 0)]) rfl ?_)
          refine go_aload_n (pc := 77) rfl dX8_ends_77 ?_
          refine go_iload_n (pc := 78) rfl dX8_ends_78 ?_
          refine go_invV (pc := 79) (sl := 0) (s_X8_isThrowing2_f l (d + 0) hv a2 (by rw [show (a2 : Int32).toInt = a2.toInt from (ti_rfl a2)]; omega) (by rw [show (a2 : Int32).toInt = a2.toInt from (ti_rfl a2)]; omega) ck) mL_X8_277 iM_X8_isThrowing sM_X8_isThrowing (hv.sh rfl) rfl rfl rfl (Nat.le_of_ble_eq_true rfl) (show d + 0 + 3 + 1 ≤ d + 4 by omega) (show 8 + (2 + 11) + 40 * (d + 0 + 3) ≤ 40 * (d + 4) by omega) (g_c0 hv.ln) (Nat.le_of_ble_eq_true rfl) dX8_ends_79 ?_
          intro r h501 hq _
          obtain ⟨v503, rfl, v503l, v503u, rfl, f502⟩ := hq
          replace f502 : PE _ _ := f502
          have k504 := bd_e k500 f502.symm
          refine gf_if_eq (pc := 82) (tgt := 93) (ti_rfl v503) (by decide) dX8_ends_82 (fun q505 => ?_) (fun q505 => ?_)
          ·
            have k506 := if_t k504 q505
            refine go_iconst (pc := 93) (v := 0) (by decide) dX8_ends_93 ?_
            refine go_istore (pc := 94) (Nat.le_of_ble_eq_true rfl) dX8_ends_94 (go_lv (lv2 := [(0, .ref 70), (1, .int a2), (2, .int v3), (3, .int 1), (4, .int 0), (5, .int 0)]) rfl ?_)
            refine go_iload (pc := 96) rfl dX8_ends_96 ?_
            refine gf_if_eq (pc := 98) (tgt := 116) (ti_c (v := 0) (a := 0) (by decide)) (by decide) dX8_ends_98 (fun q507 => ?_) (fun q507 => False.elim (by omega))
            refine go_iload (pc := 116) rfl dX8_ends_116 ?_
            refine gf_if_eq (pc := 118) (tgt := 137) (ti_c (v := 0) (a := 0) (by decide)) (by decide) dX8_ends_118 (fun q508 => ?_) (fun q508 => False.elim (by omega))
            refine go_aload_n (pc := 137) rfl dX8_ends_137 ?_
            refine gi_getF (pc := 138) (q := 102) hv fL_X8_105 rfl (Nat.le_of_ble_eq_true rfl) rfl (hv.rf (by decide)) dX8_ends_138 ?_
            refine go_iconst (pc := 141) (v := 5) (by decide) dX8_ends_141 ?_
            refine go_aload_n (pc := 142) rfl dX8_ends_142 ?_
            refine gi_get (pc := 143) (lo := 0) (hi := 1) hv fL_X8_187 rfl (Nat.le_of_ble_eq_true rfl) rfl rfl dX8_ends_143 (fun v509 v509l v509u v509w => ?_)
            have v509r : v5 = h.2.1 70 6 := v5w
            have v509q : TI v509 v5.toInt := by rw [v509w.trans v509r.symm]; exact (ti_rfl v5)
            refine gf_imul (pc := 146) (ti_c (v := 5) (a := 5) (by decide)) v509q (by omega) (by omega) dX8_ends_146 (fun v510 e511 => ?_)
            refine go_iload_n (pc := 147) rfl dX8_ends_147 ?_
            refine gf_iadd (pc := 148) e511 (ti_rfl v3) (by omega) (by omega) dX8_ends_148 (fun v512 e513 => ?_)
            refine gi_zald (pc := 149) (lo := 0) (hi := 1) (len := 10) hv e513 rfl (by omega) (by omega) (fun _ => rfl) dX8_ends_149 (fun v514 v514l v514u v514w => ?_)
            have k515 := bd_e k506 (congrArg Int32.toInt v514w.symm)
            refine gf_if_ne (pc := 150) (tgt := 154) (ti_rfl v514) (by decide) dX8_ends_150 (fun q516 => ?_) (fun q516 => ?_)
            ·
              have k517 := if_t k515 q516
              refine go_iload (pc := 154) rfl dX8_ends_154 ?_
              refine gf_if_eq (pc := 156) (tgt := 174) (ti_c (v := 0) (a := 0) (by decide)) (by decide) dX8_ends_156 (fun q518 => ?_) (fun q518 => False.elim (by omega))
              refine go_iload (pc := 174) rfl dX8_ends_174 ?_
              refine gf_if_eq (pc := 176) (tgt := 195) (ti_c (v := 0) (a := 0) (by decide)) (by decide) dX8_ends_176 (fun q519 => ?_) (fun q519 => False.elim (by omega))
              exact gi_vret (pc := 195) ⟨rfl, hv, (k517.symm.trans kf), fx⟩ hv dX8_ends_195
            ·
              have k520 := if_f k515 (fun z => z q516)
              exact gi_vret (pc := 153) ⟨rfl, hv, (k520.symm.trans kf), fx⟩ hv dX8_ends_153
          ·
            have k521 := if_f k504 q505
            refine go_iload_n (pc := 85) rfl dX8_ends_85 ?_
            refine gf_if_eq (pc := 86) (tgt := 93) (ti_c (v := 1) (a := 1) (by decide)) (by decide) dX8_ends_86 (fun q522 => False.elim (by omega)) (fun q522 => ?_)
            refine go_iconst (pc := 89) (v := 1) (by decide) dX8_ends_89 ?_
            refine go_goto (pc := 90) (tgt := 94) (by decide) dX8_ends_90 ?_
            refine go_istore (pc := 94) (Nat.le_of_ble_eq_true rfl) dX8_ends_94 (go_lv (lv2 := [(0, .ref 70), (1, .int a2), (2, .int v3), (3, .int 1), (4, .int 0), (5, .int 1)]) rfl ?_)
            refine go_iload (pc := 96) rfl dX8_ends_96 ?_
            refine gf_if_eq (pc := 98) (tgt := 116) (ti_c (v := 0) (a := 0) (by decide)) (by decide) dX8_ends_98 (fun q523 => ?_) (fun q523 => False.elim (by omega))
            refine go_iload (pc := 116) rfl dX8_ends_116 ?_
            refine gf_if_eq (pc := 118) (tgt := 137) (ti_c (v := 1) (a := 1) (by decide)) (by decide) dX8_ends_118 (fun q524 => False.elim (by omega)) (fun q524 => ?_)
            refine go_aload_n (pc := 121) rfl dX8_ends_121 ?_
            refine go_iload_n (pc := 122) rfl dX8_ends_122 ?_
            refine go_bipush (pc := 123) (v := 7) (by decide) dX8_ends_123 ?_
            refine go_invS (pc := 125) (sl := 0) (s_X8_procedurePlace2_f l (d + 2) hv v3 (by rw [show (v3 : Int32).toInt = v3.toInt from (ti_rfl v3)]; omega) (by rw [show (v3 : Int32).toInt = v3.toInt from (ti_rfl v3)]; omega) 7 (by rw [show (7 : Int32).toInt = 7 from (ti_c (v := 7) (a := 7) (by decide))]; omega) (by rw [show (7 : Int32).toInt = 7 from (ti_c (v := 7) (a := 7) (by decide))]; omega)) mL_X8_300 iM_X8_procedurePlace rfl rfl (Nat.le_of_ble_eq_true rfl) (show d + 2 + 1 + 1 ≤ d + 4 by omega) (show 8 + (2 + 11) + 40 * (d + 2 + 1) ≤ 40 * (d + 4) by omega) (g_c0 hv.ln) (Nat.le_of_ble_eq_true rfl) dX8_ends_125 ?_
            intro r h525 hq _
            obtain ⟨v527, rfl, v527l, v527u, rfl, f526⟩ := hq
            try rw [show (7 : Int32).toInt = 7 from (ti_c (v := 7) (a := 7) (by decide))] at f526
            replace f526 : PE _ _ := f526
            have k528 := bd_e k521 f526.symm
            refine go_iload_n (pc := 128) rfl dX8_ends_128 ?_
            refine go_bipush (pc := 129) (v := 7) (by decide) dX8_ends_129 ?_
            refine go_invS (pc := 131) (sl := 0) (s_X8_statementPlace2_f l (d + 2) hv a2 (by rw [show (a2 : Int32).toInt = a2.toInt from (ti_rfl a2)]; omega) (by rw [show (a2 : Int32).toInt = a2.toInt from (ti_rfl a2)]; omega) 7 (by rw [show (7 : Int32).toInt = 7 from (ti_c (v := 7) (a := 7) (by decide))]; omega) (by rw [show (7 : Int32).toInt = 7 from (ti_c (v := 7) (a := 7) (by decide))]; omega)) mL_X8_291 iM_X8_statementPlace rfl rfl (Nat.le_of_ble_eq_true rfl) (show d + 2 + 1 + 1 ≤ d + 4 by omega) (show 8 + (2 + 11) + 40 * (d + 2 + 1) ≤ 40 * (d + 4) by omega) (g_c0 hv.ln) (Nat.le_of_ble_eq_true rfl) dX8_ends_131 ?_
            intro r h529 hq _
            obtain ⟨v531, rfl, v531l, v531u, rfl, f530⟩ := hq
            try rw [show (7 : Int32).toInt = 7 from (ti_c (v := 7) (a := 7) (by decide))] at f530
            replace f530 : PE _ _ := f530
            have k532 := bd_e k528 f530.symm
            refine go_invV (pc := 134) (sl := 0) (s_X8_hang2_f l (d + 2) hv v527 (by rw [show (v527 : Int32).toInt = v527.toInt from (ti_rfl v527)]; omega) (by rw [show (v527 : Int32).toInt = v527.toInt from (ti_rfl v527)]; omega) v531 (by rw [show (v531 : Int32).toInt = v531.toInt from (ti_rfl v531)]; omega) (by rw [show (v531 : Int32).toInt = v531.toInt from (ti_rfl v531)]; omega)) mL_X8_303 iM_X8_hang sM_X8_hang (hv.sh rfl) rfl rfl rfl (Nat.le_of_ble_eq_true rfl) (show d + 2 + 1 + 1 ≤ d + 4 by omega) (show 8 + (3 + 11) + 40 * (d + 2 + 1) ≤ 40 * (d + 4) by omega) (g_c0 hv.ln) (Nat.le_of_ble_eq_true rfl) dX8_ends_134 ?_
            intro r h533 hq _
            obtain ⟨rfl, hv533, f534, f535⟩ := hq
            have fx533 : FX KAr h h533 := FX.tr fx f535
            have k536 := bd_e k532 f534.symm
            refine go_aload_n (pc := 137) rfl dX8_ends_137 ?_
            refine gi_getF (pc := 138) (q := 102) hv533 fL_X8_105 rfl (Nat.le_of_ble_eq_true rfl) rfl (hv533.rf (by decide)) dX8_ends_138 ?_
            refine go_iconst (pc := 141) (v := 5) (by decide) dX8_ends_141 ?_
            refine go_aload_n (pc := 142) rfl dX8_ends_142 ?_
            refine gi_get (pc := 143) (lo := 0) (hi := 1) hv533 fL_X8_187 rfl (Nat.le_of_ble_eq_true rfl) rfl rfl dX8_ends_143 (fun v537 v537l v537u v537w => ?_)
            have k538 := bd_e k536 (congrArg Int32.toInt v537w.symm)
            refine gf_imul (pc := 146) (ti_c (v := 5) (a := 5) (by decide)) (ti_rfl v537) (by omega) (by omega) dX8_ends_146 (fun v539 e540 => ?_)
            refine go_iload_n (pc := 147) rfl dX8_ends_147 ?_
            refine gf_iadd (pc := 148) e540 (ti_rfl v3) (by omega) (by omega) dX8_ends_148 (fun v541 e542 => ?_)
            refine gi_zald (pc := 149) (lo := 0) (hi := 1) (len := 10) hv533 e542 rfl (by omega) (by omega) (fun _ => rfl) dX8_ends_149 (fun v543 v543l v543u v543w => ?_)
            have k544 := bd_e k538 (congrArg Int32.toInt v543w.symm)
            refine gf_if_ne (pc := 150) (tgt := 154) (ti_rfl v543) (by decide) dX8_ends_150 (fun q545 => ?_) (fun q545 => ?_)
            ·
              have k546 := if_t k544 q545
              refine go_iload (pc := 154) rfl dX8_ends_154 ?_
              refine gf_if_eq (pc := 156) (tgt := 174) (ti_c (v := 0) (a := 0) (by decide)) (by decide) dX8_ends_156 (fun q547 => ?_) (fun q547 => False.elim (by omega))
              refine go_iload (pc := 174) rfl dX8_ends_174 ?_
              refine gf_if_eq (pc := 176) (tgt := 195) (ti_c (v := 1) (a := 1) (by decide)) (by decide) dX8_ends_176 (fun q548 => False.elim (by omega)) (fun q548 => ?_)
              refine go_aload_n (pc := 179) rfl dX8_ends_179 ?_
              refine go_iload_n (pc := 180) rfl dX8_ends_180 ?_
              refine go_bipush (pc := 181) (v := 8) (by decide) dX8_ends_181 ?_
              refine go_invS (pc := 183) (sl := 0) (s_X8_procedurePlace2_f l (d + 2) hv533 v3 (by rw [show (v3 : Int32).toInt = v3.toInt from (ti_rfl v3)]; omega) (by rw [show (v3 : Int32).toInt = v3.toInt from (ti_rfl v3)]; omega) 8 (by rw [show (8 : Int32).toInt = 8 from (ti_c (v := 8) (a := 8) (by decide))]; omega) (by rw [show (8 : Int32).toInt = 8 from (ti_c (v := 8) (a := 8) (by decide))]; omega)) mL_X8_300 iM_X8_procedurePlace rfl rfl (Nat.le_of_ble_eq_true rfl) (show d + 2 + 1 + 1 ≤ d + 4 by omega) (show 8 + (2 + 11) + 40 * (d + 2 + 1) ≤ 40 * (d + 4) by omega) (g_c0 hv533.ln) (Nat.le_of_ble_eq_true rfl) dX8_ends_183 ?_
              intro r h549 hq _
              obtain ⟨v551, rfl, v551l, v551u, rfl, f550⟩ := hq
              try rw [show (8 : Int32).toInt = 8 from (ti_c (v := 8) (a := 8) (by decide))] at f550
              replace f550 : PE _ _ := f550
              have k552 := bd_e k546 f550.symm
              refine go_iload_n (pc := 186) rfl dX8_ends_186 ?_
              refine go_bipush (pc := 187) (v := 8) (by decide) dX8_ends_187 ?_
              refine go_invS (pc := 189) (sl := 0) (s_X8_statementPlace2_f l (d + 2) hv533 a2 (by rw [show (a2 : Int32).toInt = a2.toInt from (ti_rfl a2)]; omega) (by rw [show (a2 : Int32).toInt = a2.toInt from (ti_rfl a2)]; omega) 8 (by rw [show (8 : Int32).toInt = 8 from (ti_c (v := 8) (a := 8) (by decide))]; omega) (by rw [show (8 : Int32).toInt = 8 from (ti_c (v := 8) (a := 8) (by decide))]; omega)) mL_X8_291 iM_X8_statementPlace rfl rfl (Nat.le_of_ble_eq_true rfl) (show d + 2 + 1 + 1 ≤ d + 4 by omega) (show 8 + (2 + 11) + 40 * (d + 2 + 1) ≤ 40 * (d + 4) by omega) (g_c0 hv533.ln) (Nat.le_of_ble_eq_true rfl) dX8_ends_189 ?_
              intro r h553 hq _
              obtain ⟨v555, rfl, v555l, v555u, rfl, f554⟩ := hq
              try rw [show (8 : Int32).toInt = 8 from (ti_c (v := 8) (a := 8) (by decide))] at f554
              replace f554 : PE _ _ := f554
              have k556 := bd_e k552 f554.symm
              refine go_invV (pc := 192) (sl := 0) (s_X8_hang2_f l (d + 2) hv533 v551 (by rw [show (v551 : Int32).toInt = v551.toInt from (ti_rfl v551)]; omega) (by rw [show (v551 : Int32).toInt = v551.toInt from (ti_rfl v551)]; omega) v555 (by rw [show (v555 : Int32).toInt = v555.toInt from (ti_rfl v555)]; omega) (by rw [show (v555 : Int32).toInt = v555.toInt from (ti_rfl v555)]; omega)) mL_X8_303 iM_X8_hang sM_X8_hang (hv533.sh rfl) rfl rfl rfl (Nat.le_of_ble_eq_true rfl) (show d + 2 + 1 + 1 ≤ d + 4 by omega) (show 8 + (3 + 11) + 40 * (d + 2 + 1) ≤ 40 * (d + 4) by omega) (g_c0 hv533.ln) (Nat.le_of_ble_eq_true rfl) dX8_ends_192 ?_
              intro r h557 hq _
              obtain ⟨rfl, hv557, f558, f559⟩ := hq
              have fx557 : FX KAr h h557 := FX.tr fx533 f559
              have k560 := bd_e k556 f558.symm
              exact gi_vret (pc := 195) ⟨rfl, hv557, (k560.symm.trans kf), fx557⟩ hv557 dX8_ends_195
            ·
              have k561 := if_f k544 (fun z => z q545)
              exact gi_vret (pc := 153) ⟨rfl, hv533, (k561.symm.trans kf), fx533⟩ hv533 dX8_ends_153
        ·
          have k562 := if_f k498 (fun z => z q499)
          refine go_iload_n (pc := 66) rfl dX8_ends_66 ?_
          refine gf_if_eq (pc := 67) (tgt := 74) (ti_c (v := 1) (a := 1) (by decide)) (by decide) dX8_ends_67 (fun q563 => False.elim (by omega)) (fun q563 => ?_)
          refine go_iconst (pc := 70) (v := 1) (by decide) dX8_ends_70 ?_
          refine go_goto (pc := 71) (tgt := 75) (by decide) dX8_ends_71 ?_
          refine go_istore (pc := 75) (Nat.le_of_ble_eq_true rfl) dX8_ends_75 (go_lv (lv2 := [(0, .ref 70), (1, .int a2), (2, .int v3), (3, .int 1), (4, .int 1)]) rfl ?_)
          refine go_aload_n (pc := 77) rfl dX8_ends_77 ?_
          refine go_iload_n (pc := 78) rfl dX8_ends_78 ?_
          refine go_invV (pc := 79) (sl := 0) (s_X8_isThrowing2_f l (d + 0) hv a2 (by rw [show (a2 : Int32).toInt = a2.toInt from (ti_rfl a2)]; omega) (by rw [show (a2 : Int32).toInt = a2.toInt from (ti_rfl a2)]; omega) ck) mL_X8_277 iM_X8_isThrowing sM_X8_isThrowing (hv.sh rfl) rfl rfl rfl (Nat.le_of_ble_eq_true rfl) (show d + 0 + 3 + 1 ≤ d + 4 by omega) (show 8 + (2 + 11) + 40 * (d + 0 + 3) ≤ 40 * (d + 4) by omega) (g_c0 hv.ln) (Nat.le_of_ble_eq_true rfl) dX8_ends_79 ?_
          intro r h564 hq _
          obtain ⟨v566, rfl, v566l, v566u, rfl, f565⟩ := hq
          replace f565 : PE _ _ := f565
          have k567 := bd_e k562 f565.symm
          refine gf_if_eq (pc := 82) (tgt := 93) (ti_rfl v566) (by decide) dX8_ends_82 (fun q568 => ?_) (fun q568 => ?_)
          ·
            have k569 := if_t k567 q568
            refine go_iconst (pc := 93) (v := 0) (by decide) dX8_ends_93 ?_
            refine go_istore (pc := 94) (Nat.le_of_ble_eq_true rfl) dX8_ends_94 (go_lv (lv2 := [(0, .ref 70), (1, .int a2), (2, .int v3), (3, .int 1), (4, .int 1), (5, .int 0)]) rfl ?_)
            refine go_iload (pc := 96) rfl dX8_ends_96 ?_
            refine gf_if_eq (pc := 98) (tgt := 116) (ti_c (v := 1) (a := 1) (by decide)) (by decide) dX8_ends_98 (fun q570 => False.elim (by omega)) (fun q570 => ?_)
            refine go_aload_n (pc := 101) rfl dX8_ends_101 ?_
            refine go_iload_n (pc := 102) rfl dX8_ends_102 ?_
            refine go_bipush (pc := 103) (v := 7) (by decide) dX8_ends_103 ?_
            refine go_invS (pc := 105) (sl := 0) (s_X8_procedurePlace2_f l (d + 2) hv v3 (by rw [show (v3 : Int32).toInt = v3.toInt from (ti_rfl v3)]; omega) (by rw [show (v3 : Int32).toInt = v3.toInt from (ti_rfl v3)]; omega) 7 (by rw [show (7 : Int32).toInt = 7 from (ti_c (v := 7) (a := 7) (by decide))]; omega) (by rw [show (7 : Int32).toInt = 7 from (ti_c (v := 7) (a := 7) (by decide))]; omega)) mL_X8_300 iM_X8_procedurePlace rfl rfl (Nat.le_of_ble_eq_true rfl) (show d + 2 + 1 + 1 ≤ d + 4 by omega) (show 8 + (2 + 11) + 40 * (d + 2 + 1) ≤ 40 * (d + 4) by omega) (g_c0 hv.ln) (Nat.le_of_ble_eq_true rfl) dX8_ends_105 ?_
            intro r h571 hq _
            obtain ⟨v573, rfl, v573l, v573u, rfl, f572⟩ := hq
            try rw [show (7 : Int32).toInt = 7 from (ti_c (v := 7) (a := 7) (by decide))] at f572
            replace f572 : PE _ _ := f572
            have k574 := bd_e k569 f572.symm
            refine go_iload_n (pc := 108) rfl dX8_ends_108 ?_
            refine go_iconst (pc := 109) (v := 0) (by decide) dX8_ends_109 ?_
            refine go_invS (pc := 110) (sl := 0) (s_X8_statementPlace2_f l (d + 2) hv a2 (by rw [show (a2 : Int32).toInt = a2.toInt from (ti_rfl a2)]; omega) (by rw [show (a2 : Int32).toInt = a2.toInt from (ti_rfl a2)]; omega) 0 (by rw [show (0 : Int32).toInt = 0 from (ti_c (v := 0) (a := 0) (by decide))]; omega) (by rw [show (0 : Int32).toInt = 0 from (ti_c (v := 0) (a := 0) (by decide))]; omega)) mL_X8_291 iM_X8_statementPlace rfl rfl (Nat.le_of_ble_eq_true rfl) (show d + 2 + 1 + 1 ≤ d + 4 by omega) (show 8 + (2 + 11) + 40 * (d + 2 + 1) ≤ 40 * (d + 4) by omega) (g_c0 hv.ln) (Nat.le_of_ble_eq_true rfl) dX8_ends_110 ?_
            intro r h575 hq _
            obtain ⟨v577, rfl, v577l, v577u, rfl, f576⟩ := hq
            try rw [show (0 : Int32).toInt = 0 from (ti_c (v := 0) (a := 0) (by decide))] at f576
            replace f576 : PE _ _ := f576
            have k578 := bd_e k574 f576.symm
            refine go_invV (pc := 113) (sl := 0) (s_X8_hang2_f l (d + 2) hv v573 (by rw [show (v573 : Int32).toInt = v573.toInt from (ti_rfl v573)]; omega) (by rw [show (v573 : Int32).toInt = v573.toInt from (ti_rfl v573)]; omega) v577 (by rw [show (v577 : Int32).toInt = v577.toInt from (ti_rfl v577)]; omega) (by rw [show (v577 : Int32).toInt = v577.toInt from (ti_rfl v577)]; omega)) mL_X8_303 iM_X8_hang sM_X8_hang (hv.sh rfl) rfl rfl rfl (Nat.le_of_ble_eq_true rfl) (show d + 2 + 1 + 1 ≤ d + 4 by omega) (show 8 + (3 + 11) + 40 * (d + 2 + 1) ≤ 40 * (d + 4) by omega) (g_c0 hv.ln) (Nat.le_of_ble_eq_true rfl) dX8_ends_113 ?_
            intro r h579 hq _
            obtain ⟨rfl, hv579, f580, f581⟩ := hq
            have fx579 : FX KAr h h579 := FX.tr fx f581
            have k582 := bd_e k578 f580.symm
            refine go_iload (pc := 116) rfl dX8_ends_116 ?_
            refine gf_if_eq (pc := 118) (tgt := 137) (ti_c (v := 0) (a := 0) (by decide)) (by decide) dX8_ends_118 (fun q583 => ?_) (fun q583 => False.elim (by omega))
            refine go_aload_n (pc := 137) rfl dX8_ends_137 ?_
            refine gi_getF (pc := 138) (q := 102) hv579 fL_X8_105 rfl (Nat.le_of_ble_eq_true rfl) rfl (hv579.rf (by decide)) dX8_ends_138 ?_
            refine go_iconst (pc := 141) (v := 5) (by decide) dX8_ends_141 ?_
            refine go_aload_n (pc := 142) rfl dX8_ends_142 ?_
            refine gi_get (pc := 143) (lo := 0) (hi := 1) hv579 fL_X8_187 rfl (Nat.le_of_ble_eq_true rfl) rfl rfl dX8_ends_143 (fun v584 v584l v584u v584w => ?_)
            have k585 := bd_e k582 (congrArg Int32.toInt v584w.symm)
            refine gf_imul (pc := 146) (ti_c (v := 5) (a := 5) (by decide)) (ti_rfl v584) (by omega) (by omega) dX8_ends_146 (fun v586 e587 => ?_)
            refine go_iload_n (pc := 147) rfl dX8_ends_147 ?_
            refine gf_iadd (pc := 148) e587 (ti_rfl v3) (by omega) (by omega) dX8_ends_148 (fun v588 e589 => ?_)
            refine gi_zald (pc := 149) (lo := 0) (hi := 1) (len := 10) hv579 e589 rfl (by omega) (by omega) (fun _ => rfl) dX8_ends_149 (fun v590 v590l v590u v590w => ?_)
            have k591 := bd_e k585 (congrArg Int32.toInt v590w.symm)
            refine gf_if_ne (pc := 150) (tgt := 154) (ti_rfl v590) (by decide) dX8_ends_150 (fun q592 => ?_) (fun q592 => ?_)
            ·
              have k593 := if_t k591 q592
              refine go_iload (pc := 154) rfl dX8_ends_154 ?_
              refine gf_if_eq (pc := 156) (tgt := 174) (ti_c (v := 1) (a := 1) (by decide)) (by decide) dX8_ends_156 (fun q594 => False.elim (by omega)) (fun q594 => ?_)
              refine go_aload_n (pc := 159) rfl dX8_ends_159 ?_
              refine go_iload_n (pc := 160) rfl dX8_ends_160 ?_
              refine go_bipush (pc := 161) (v := 8) (by decide) dX8_ends_161 ?_
              refine go_invS (pc := 163) (sl := 0) (s_X8_procedurePlace2_f l (d + 2) hv579 v3 (by rw [show (v3 : Int32).toInt = v3.toInt from (ti_rfl v3)]; omega) (by rw [show (v3 : Int32).toInt = v3.toInt from (ti_rfl v3)]; omega) 8 (by rw [show (8 : Int32).toInt = 8 from (ti_c (v := 8) (a := 8) (by decide))]; omega) (by rw [show (8 : Int32).toInt = 8 from (ti_c (v := 8) (a := 8) (by decide))]; omega)) mL_X8_300 iM_X8_procedurePlace rfl rfl (Nat.le_of_ble_eq_true rfl) (show d + 2 + 1 + 1 ≤ d + 4 by omega) (show 8 + (2 + 11) + 40 * (d + 2 + 1) ≤ 40 * (d + 4) by omega) (g_c0 hv579.ln) (Nat.le_of_ble_eq_true rfl) dX8_ends_163 ?_
              intro r h595 hq _
              obtain ⟨v597, rfl, v597l, v597u, rfl, f596⟩ := hq
              try rw [show (8 : Int32).toInt = 8 from (ti_c (v := 8) (a := 8) (by decide))] at f596
              replace f596 : PE _ _ := f596
              have k598 := bd_e k593 f596.symm
              refine go_iload_n (pc := 166) rfl dX8_ends_166 ?_
              refine go_iconst (pc := 167) (v := 0) (by decide) dX8_ends_167 ?_
              refine go_invS (pc := 168) (sl := 0) (s_X8_statementPlace2_f l (d + 2) hv579 a2 (by rw [show (a2 : Int32).toInt = a2.toInt from (ti_rfl a2)]; omega) (by rw [show (a2 : Int32).toInt = a2.toInt from (ti_rfl a2)]; omega) 0 (by rw [show (0 : Int32).toInt = 0 from (ti_c (v := 0) (a := 0) (by decide))]; omega) (by rw [show (0 : Int32).toInt = 0 from (ti_c (v := 0) (a := 0) (by decide))]; omega)) mL_X8_291 iM_X8_statementPlace rfl rfl (Nat.le_of_ble_eq_true rfl) (show d + 2 + 1 + 1 ≤ d + 4 by omega) (show 8 + (2 + 11) + 40 * (d + 2 + 1) ≤ 40 * (d + 4) by omega) (g_c0 hv579.ln) (Nat.le_of_ble_eq_true rfl) dX8_ends_168 ?_
              intro r h599 hq _
              obtain ⟨v601, rfl, v601l, v601u, rfl, f600⟩ := hq
              try rw [show (0 : Int32).toInt = 0 from (ti_c (v := 0) (a := 0) (by decide))] at f600
              replace f600 : PE _ _ := f600
              have k602 := bd_e k598 f600.symm
              refine go_invV (pc := 171) (sl := 0) (s_X8_hang2_f l (d + 2) hv579 v597 (by rw [show (v597 : Int32).toInt = v597.toInt from (ti_rfl v597)]; omega) (by rw [show (v597 : Int32).toInt = v597.toInt from (ti_rfl v597)]; omega) v601 (by rw [show (v601 : Int32).toInt = v601.toInt from (ti_rfl v601)]; omega) (by rw [show (v601 : Int32).toInt = v601.toInt from (ti_rfl v601)]; omega)) mL_X8_303 iM_X8_hang sM_X8_hang (hv579.sh rfl) rfl rfl rfl (Nat.le_of_ble_eq_true rfl) (show d + 2 + 1 + 1 ≤ d + 4 by omega) (show 8 + (3 + 11) + 40 * (d + 2 + 1) ≤ 40 * (d + 4) by omega) (g_c0 hv579.ln) (Nat.le_of_ble_eq_true rfl) dX8_ends_171 ?_
              intro r h603 hq _
              obtain ⟨rfl, hv603, f604, f605⟩ := hq
              have fx603 : FX KAr h h603 := FX.tr fx579 f605
              have k606 := bd_e k602 f604.symm
              refine go_iload (pc := 174) rfl dX8_ends_174 ?_
              refine gf_if_eq (pc := 176) (tgt := 195) (ti_c (v := 0) (a := 0) (by decide)) (by decide) dX8_ends_176 (fun q607 => ?_) (fun q607 => False.elim (by omega))
              exact gi_vret (pc := 195) ⟨rfl, hv603, (k606.symm.trans kf), fx603⟩ hv603 dX8_ends_195
            ·
              have k608 := if_f k591 (fun z => z q592)
              exact gi_vret (pc := 153) ⟨rfl, hv579, (k608.symm.trans kf), fx579⟩ hv579 dX8_ends_153
          ·
            have k609 := if_f k567 q568
            refine go_iload_n (pc := 85) rfl dX8_ends_85 ?_
            refine gf_if_eq (pc := 86) (tgt := 93) (ti_c (v := 1) (a := 1) (by decide)) (by decide) dX8_ends_86 (fun q610 => False.elim (by omega)) (fun q610 => ?_)
            refine go_iconst (pc := 89) (v := 1) (by decide) dX8_ends_89 ?_
            refine go_goto (pc := 90) (tgt := 94) (by decide) dX8_ends_90 ?_
            refine go_istore (pc := 94) (Nat.le_of_ble_eq_true rfl) dX8_ends_94 (go_lv (lv2 := [(0, .ref 70), (1, .int a2), (2, .int v3), (3, .int 1), (4, .int 1), (5, .int 1)]) rfl ?_)
            refine go_iload (pc := 96) rfl dX8_ends_96 ?_
            refine gf_if_eq (pc := 98) (tgt := 116) (ti_c (v := 1) (a := 1) (by decide)) (by decide) dX8_ends_98 (fun q611 => False.elim (by omega)) (fun q611 => ?_)
            refine go_aload_n (pc := 101) rfl dX8_ends_101 ?_
            refine go_iload_n (pc := 102) rfl dX8_ends_102 ?_
            refine go_bipush (pc := 103) (v := 7) (by decide) dX8_ends_103 ?_
            refine go_invS (pc := 105) (sl := 0) (s_X8_procedurePlace2_f l (d + 2) hv v3 (by rw [show (v3 : Int32).toInt = v3.toInt from (ti_rfl v3)]; omega) (by rw [show (v3 : Int32).toInt = v3.toInt from (ti_rfl v3)]; omega) 7 (by rw [show (7 : Int32).toInt = 7 from (ti_c (v := 7) (a := 7) (by decide))]; omega) (by rw [show (7 : Int32).toInt = 7 from (ti_c (v := 7) (a := 7) (by decide))]; omega)) mL_X8_300 iM_X8_procedurePlace rfl rfl (Nat.le_of_ble_eq_true rfl) (show d + 2 + 1 + 1 ≤ d + 4 by omega) (show 8 + (2 + 11) + 40 * (d + 2 + 1) ≤ 40 * (d + 4) by omega) (g_c0 hv.ln) (Nat.le_of_ble_eq_true rfl) dX8_ends_105 ?_
            intro r h612 hq _
            obtain ⟨v614, rfl, v614l, v614u, rfl, f613⟩ := hq
            try rw [show (7 : Int32).toInt = 7 from (ti_c (v := 7) (a := 7) (by decide))] at f613
            replace f613 : PE _ _ := f613
            have k615 := bd_e k609 f613.symm
            refine go_iload_n (pc := 108) rfl dX8_ends_108 ?_
            refine go_iconst (pc := 109) (v := 0) (by decide) dX8_ends_109 ?_
            refine go_invS (pc := 110) (sl := 0) (s_X8_statementPlace2_f l (d + 2) hv a2 (by rw [show (a2 : Int32).toInt = a2.toInt from (ti_rfl a2)]; omega) (by rw [show (a2 : Int32).toInt = a2.toInt from (ti_rfl a2)]; omega) 0 (by rw [show (0 : Int32).toInt = 0 from (ti_c (v := 0) (a := 0) (by decide))]; omega) (by rw [show (0 : Int32).toInt = 0 from (ti_c (v := 0) (a := 0) (by decide))]; omega)) mL_X8_291 iM_X8_statementPlace rfl rfl (Nat.le_of_ble_eq_true rfl) (show d + 2 + 1 + 1 ≤ d + 4 by omega) (show 8 + (2 + 11) + 40 * (d + 2 + 1) ≤ 40 * (d + 4) by omega) (g_c0 hv.ln) (Nat.le_of_ble_eq_true rfl) dX8_ends_110 ?_
            intro r h616 hq _
            obtain ⟨v618, rfl, v618l, v618u, rfl, f617⟩ := hq
            try rw [show (0 : Int32).toInt = 0 from (ti_c (v := 0) (a := 0) (by decide))] at f617
            replace f617 : PE _ _ := f617
            have k619 := bd_e k615 f617.symm
            refine go_invV (pc := 113) (sl := 0) (s_X8_hang2_f l (d + 2) hv v614 (by rw [show (v614 : Int32).toInt = v614.toInt from (ti_rfl v614)]; omega) (by rw [show (v614 : Int32).toInt = v614.toInt from (ti_rfl v614)]; omega) v618 (by rw [show (v618 : Int32).toInt = v618.toInt from (ti_rfl v618)]; omega) (by rw [show (v618 : Int32).toInt = v618.toInt from (ti_rfl v618)]; omega)) mL_X8_303 iM_X8_hang sM_X8_hang (hv.sh rfl) rfl rfl rfl (Nat.le_of_ble_eq_true rfl) (show d + 2 + 1 + 1 ≤ d + 4 by omega) (show 8 + (3 + 11) + 40 * (d + 2 + 1) ≤ 40 * (d + 4) by omega) (g_c0 hv.ln) (Nat.le_of_ble_eq_true rfl) dX8_ends_113 ?_
            intro r h620 hq _
            obtain ⟨rfl, hv620, f621, f622⟩ := hq
            have fx620 : FX KAr h h620 := FX.tr fx f622
            have k623 := bd_e k619 f621.symm
            refine go_iload (pc := 116) rfl dX8_ends_116 ?_
            refine gf_if_eq (pc := 118) (tgt := 137) (ti_c (v := 1) (a := 1) (by decide)) (by decide) dX8_ends_118 (fun q624 => False.elim (by omega)) (fun q624 => ?_)
            refine go_aload_n (pc := 121) rfl dX8_ends_121 ?_
            refine go_iload_n (pc := 122) rfl dX8_ends_122 ?_
            refine go_bipush (pc := 123) (v := 7) (by decide) dX8_ends_123 ?_
            refine go_invS (pc := 125) (sl := 0) (s_X8_procedurePlace2_f l (d + 2) hv620 v3 (by rw [show (v3 : Int32).toInt = v3.toInt from (ti_rfl v3)]; omega) (by rw [show (v3 : Int32).toInt = v3.toInt from (ti_rfl v3)]; omega) 7 (by rw [show (7 : Int32).toInt = 7 from (ti_c (v := 7) (a := 7) (by decide))]; omega) (by rw [show (7 : Int32).toInt = 7 from (ti_c (v := 7) (a := 7) (by decide))]; omega)) mL_X8_300 iM_X8_procedurePlace rfl rfl (Nat.le_of_ble_eq_true rfl) (show d + 2 + 1 + 1 ≤ d + 4 by omega) (show 8 + (2 + 11) + 40 * (d + 2 + 1) ≤ 40 * (d + 4) by omega) (g_c0 hv620.ln) (Nat.le_of_ble_eq_true rfl) dX8_ends_125 ?_
            intro r h625 hq _
            obtain ⟨v627, rfl, v627l, v627u, rfl, f626⟩ := hq
            try rw [show (7 : Int32).toInt = 7 from (ti_c (v := 7) (a := 7) (by decide))] at f626
            replace f626 : PE _ _ := f626
            have k628 := bd_e k623 f626.symm
            refine go_iload_n (pc := 128) rfl dX8_ends_128 ?_
            refine go_bipush (pc := 129) (v := 7) (by decide) dX8_ends_129 ?_
            refine go_invS (pc := 131) (sl := 0) (s_X8_statementPlace2_f l (d + 2) hv620 a2 (by rw [show (a2 : Int32).toInt = a2.toInt from (ti_rfl a2)]; omega) (by rw [show (a2 : Int32).toInt = a2.toInt from (ti_rfl a2)]; omega) 7 (by rw [show (7 : Int32).toInt = 7 from (ti_c (v := 7) (a := 7) (by decide))]; omega) (by rw [show (7 : Int32).toInt = 7 from (ti_c (v := 7) (a := 7) (by decide))]; omega)) mL_X8_291 iM_X8_statementPlace rfl rfl (Nat.le_of_ble_eq_true rfl) (show d + 2 + 1 + 1 ≤ d + 4 by omega) (show 8 + (2 + 11) + 40 * (d + 2 + 1) ≤ 40 * (d + 4) by omega) (g_c0 hv620.ln) (Nat.le_of_ble_eq_true rfl) dX8_ends_131 ?_
            intro r h629 hq _
            obtain ⟨v631, rfl, v631l, v631u, rfl, f630⟩ := hq
            try rw [show (7 : Int32).toInt = 7 from (ti_c (v := 7) (a := 7) (by decide))] at f630
            replace f630 : PE _ _ := f630
            have k632 := bd_e k628 f630.symm
            refine go_invV (pc := 134) (sl := 0) (s_X8_hang2_f l (d + 2) hv620 v627 (by rw [show (v627 : Int32).toInt = v627.toInt from (ti_rfl v627)]; omega) (by rw [show (v627 : Int32).toInt = v627.toInt from (ti_rfl v627)]; omega) v631 (by rw [show (v631 : Int32).toInt = v631.toInt from (ti_rfl v631)]; omega) (by rw [show (v631 : Int32).toInt = v631.toInt from (ti_rfl v631)]; omega)) mL_X8_303 iM_X8_hang sM_X8_hang (hv620.sh rfl) rfl rfl rfl (Nat.le_of_ble_eq_true rfl) (show d + 2 + 1 + 1 ≤ d + 4 by omega) (show 8 + (3 + 11) + 40 * (d + 2 + 1) ≤ 40 * (d + 4) by omega) (g_c0 hv620.ln) (Nat.le_of_ble_eq_true rfl) dX8_ends_134 ?_
            intro r h633 hq _
            obtain ⟨rfl, hv633, f634, f635⟩ := hq
            have fx633 : FX KAr h h633 := FX.tr fx620 f635
            have k636 := bd_e k632 f634.symm
            refine go_aload_n (pc := 137) rfl dX8_ends_137 ?_
            refine gi_getF (pc := 138) (q := 102) hv633 fL_X8_105 rfl (Nat.le_of_ble_eq_true rfl) rfl (hv633.rf (by decide)) dX8_ends_138 ?_
            refine go_iconst (pc := 141) (v := 5) (by decide) dX8_ends_141 ?_
            refine go_aload_n (pc := 142) rfl dX8_ends_142 ?_
            refine gi_get (pc := 143) (lo := 0) (hi := 1) hv633 fL_X8_187 rfl (Nat.le_of_ble_eq_true rfl) rfl rfl dX8_ends_143 (fun v637 v637l v637u v637w => ?_)
            have k638 := bd_e k636 (congrArg Int32.toInt v637w.symm)
            refine gf_imul (pc := 146) (ti_c (v := 5) (a := 5) (by decide)) (ti_rfl v637) (by omega) (by omega) dX8_ends_146 (fun v639 e640 => ?_)
            refine go_iload_n (pc := 147) rfl dX8_ends_147 ?_
            refine gf_iadd (pc := 148) e640 (ti_rfl v3) (by omega) (by omega) dX8_ends_148 (fun v641 e642 => ?_)
            refine gi_zald (pc := 149) (lo := 0) (hi := 1) (len := 10) hv633 e642 rfl (by omega) (by omega) (fun _ => rfl) dX8_ends_149 (fun v643 v643l v643u v643w => ?_)
            have k644 := bd_e k638 (congrArg Int32.toInt v643w.symm)
            refine gf_if_ne (pc := 150) (tgt := 154) (ti_rfl v643) (by decide) dX8_ends_150 (fun q645 => ?_) (fun q645 => ?_)
            ·
              have k646 := if_t k644 q645
              refine go_iload (pc := 154) rfl dX8_ends_154 ?_
              refine gf_if_eq (pc := 156) (tgt := 174) (ti_c (v := 1) (a := 1) (by decide)) (by decide) dX8_ends_156 (fun q647 => False.elim (by omega)) (fun q647 => ?_)
              refine go_aload_n (pc := 159) rfl dX8_ends_159 ?_
              refine go_iload_n (pc := 160) rfl dX8_ends_160 ?_
              refine go_bipush (pc := 161) (v := 8) (by decide) dX8_ends_161 ?_
              refine go_invS (pc := 163) (sl := 0) (s_X8_procedurePlace2_f l (d + 2) hv633 v3 (by rw [show (v3 : Int32).toInt = v3.toInt from (ti_rfl v3)]; omega) (by rw [show (v3 : Int32).toInt = v3.toInt from (ti_rfl v3)]; omega) 8 (by rw [show (8 : Int32).toInt = 8 from (ti_c (v := 8) (a := 8) (by decide))]; omega) (by rw [show (8 : Int32).toInt = 8 from (ti_c (v := 8) (a := 8) (by decide))]; omega)) mL_X8_300 iM_X8_procedurePlace rfl rfl (Nat.le_of_ble_eq_true rfl) (show d + 2 + 1 + 1 ≤ d + 4 by omega) (show 8 + (2 + 11) + 40 * (d + 2 + 1) ≤ 40 * (d + 4) by omega) (g_c0 hv633.ln) (Nat.le_of_ble_eq_true rfl) dX8_ends_163 ?_
              intro r h648 hq _
              obtain ⟨v650, rfl, v650l, v650u, rfl, f649⟩ := hq
              try rw [show (8 : Int32).toInt = 8 from (ti_c (v := 8) (a := 8) (by decide))] at f649
              replace f649 : PE _ _ := f649
              have k651 := bd_e k646 f649.symm
              refine go_iload_n (pc := 166) rfl dX8_ends_166 ?_
              refine go_iconst (pc := 167) (v := 0) (by decide) dX8_ends_167 ?_
              refine go_invS (pc := 168) (sl := 0) (s_X8_statementPlace2_f l (d + 2) hv633 a2 (by rw [show (a2 : Int32).toInt = a2.toInt from (ti_rfl a2)]; omega) (by rw [show (a2 : Int32).toInt = a2.toInt from (ti_rfl a2)]; omega) 0 (by rw [show (0 : Int32).toInt = 0 from (ti_c (v := 0) (a := 0) (by decide))]; omega) (by rw [show (0 : Int32).toInt = 0 from (ti_c (v := 0) (a := 0) (by decide))]; omega)) mL_X8_291 iM_X8_statementPlace rfl rfl (Nat.le_of_ble_eq_true rfl) (show d + 2 + 1 + 1 ≤ d + 4 by omega) (show 8 + (2 + 11) + 40 * (d + 2 + 1) ≤ 40 * (d + 4) by omega) (g_c0 hv633.ln) (Nat.le_of_ble_eq_true rfl) dX8_ends_168 ?_
              intro r h652 hq _
              obtain ⟨v654, rfl, v654l, v654u, rfl, f653⟩ := hq
              try rw [show (0 : Int32).toInt = 0 from (ti_c (v := 0) (a := 0) (by decide))] at f653
              replace f653 : PE _ _ := f653
              have k655 := bd_e k651 f653.symm
              refine go_invV (pc := 171) (sl := 0) (s_X8_hang2_f l (d + 2) hv633 v650 (by rw [show (v650 : Int32).toInt = v650.toInt from (ti_rfl v650)]; omega) (by rw [show (v650 : Int32).toInt = v650.toInt from (ti_rfl v650)]; omega) v654 (by rw [show (v654 : Int32).toInt = v654.toInt from (ti_rfl v654)]; omega) (by rw [show (v654 : Int32).toInt = v654.toInt from (ti_rfl v654)]; omega)) mL_X8_303 iM_X8_hang sM_X8_hang (hv633.sh rfl) rfl rfl rfl (Nat.le_of_ble_eq_true rfl) (show d + 2 + 1 + 1 ≤ d + 4 by omega) (show 8 + (3 + 11) + 40 * (d + 2 + 1) ≤ 40 * (d + 4) by omega) (g_c0 hv633.ln) (Nat.le_of_ble_eq_true rfl) dX8_ends_171 ?_
              intro r h656 hq _
              obtain ⟨rfl, hv656, f657, f658⟩ := hq
              have fx656 : FX KAr h h656 := FX.tr fx633 f658
              have k659 := bd_e k655 f657.symm
              refine go_iload (pc := 174) rfl dX8_ends_174 ?_
              refine gf_if_eq (pc := 176) (tgt := 195) (ti_c (v := 1) (a := 1) (by decide)) (by decide) dX8_ends_176 (fun q660 => False.elim (by omega)) (fun q660 => ?_)
              refine go_aload_n (pc := 179) rfl dX8_ends_179 ?_
              refine go_iload_n (pc := 180) rfl dX8_ends_180 ?_
              refine go_bipush (pc := 181) (v := 8) (by decide) dX8_ends_181 ?_
              refine go_invS (pc := 183) (sl := 0) (s_X8_procedurePlace2_f l (d + 2) hv656 v3 (by rw [show (v3 : Int32).toInt = v3.toInt from (ti_rfl v3)]; omega) (by rw [show (v3 : Int32).toInt = v3.toInt from (ti_rfl v3)]; omega) 8 (by rw [show (8 : Int32).toInt = 8 from (ti_c (v := 8) (a := 8) (by decide))]; omega) (by rw [show (8 : Int32).toInt = 8 from (ti_c (v := 8) (a := 8) (by decide))]; omega)) mL_X8_300 iM_X8_procedurePlace rfl rfl (Nat.le_of_ble_eq_true rfl) (show d + 2 + 1 + 1 ≤ d + 4 by omega) (show 8 + (2 + 11) + 40 * (d + 2 + 1) ≤ 40 * (d + 4) by omega) (g_c0 hv656.ln) (Nat.le_of_ble_eq_true rfl) dX8_ends_183 ?_
              intro r h661 hq _
              obtain ⟨v663, rfl, v663l, v663u, rfl, f662⟩ := hq
              try rw [show (8 : Int32).toInt = 8 from (ti_c (v := 8) (a := 8) (by decide))] at f662
              replace f662 : PE _ _ := f662
              have k664 := bd_e k659 f662.symm
              refine go_iload_n (pc := 186) rfl dX8_ends_186 ?_
              refine go_bipush (pc := 187) (v := 8) (by decide) dX8_ends_187 ?_
              refine go_invS (pc := 189) (sl := 0) (s_X8_statementPlace2_f l (d + 2) hv656 a2 (by rw [show (a2 : Int32).toInt = a2.toInt from (ti_rfl a2)]; omega) (by rw [show (a2 : Int32).toInt = a2.toInt from (ti_rfl a2)]; omega) 8 (by rw [show (8 : Int32).toInt = 8 from (ti_c (v := 8) (a := 8) (by decide))]; omega) (by rw [show (8 : Int32).toInt = 8 from (ti_c (v := 8) (a := 8) (by decide))]; omega)) mL_X8_291 iM_X8_statementPlace rfl rfl (Nat.le_of_ble_eq_true rfl) (show d + 2 + 1 + 1 ≤ d + 4 by omega) (show 8 + (2 + 11) + 40 * (d + 2 + 1) ≤ 40 * (d + 4) by omega) (g_c0 hv656.ln) (Nat.le_of_ble_eq_true rfl) dX8_ends_189 ?_
              intro r h665 hq _
              obtain ⟨v667, rfl, v667l, v667u, rfl, f666⟩ := hq
              try rw [show (8 : Int32).toInt = 8 from (ti_c (v := 8) (a := 8) (by decide))] at f666
              replace f666 : PE _ _ := f666
              have k668 := bd_e k664 f666.symm
              refine go_invV (pc := 192) (sl := 0) (s_X8_hang2_f l (d + 2) hv656 v663 (by rw [show (v663 : Int32).toInt = v663.toInt from (ti_rfl v663)]; omega) (by rw [show (v663 : Int32).toInt = v663.toInt from (ti_rfl v663)]; omega) v667 (by rw [show (v667 : Int32).toInt = v667.toInt from (ti_rfl v667)]; omega) (by rw [show (v667 : Int32).toInt = v667.toInt from (ti_rfl v667)]; omega)) mL_X8_303 iM_X8_hang sM_X8_hang (hv656.sh rfl) rfl rfl rfl (Nat.le_of_ble_eq_true rfl) (show d + 2 + 1 + 1 ≤ d + 4 by omega) (show 8 + (3 + 11) + 40 * (d + 2 + 1) ≤ 40 * (d + 4) by omega) (g_c0 hv656.ln) (Nat.le_of_ble_eq_true rfl) dX8_ends_192 ?_
              intro r h669 hq _
              obtain ⟨rfl, hv669, f670, f671⟩ := hq
              have fx669 : FX KAr h h669 := FX.tr fx656 f671
              have k672 := bd_e k668 f670.symm
              exact gi_vret (pc := 195) ⟨rfl, hv669, (k672.symm.trans kf), fx669⟩ hv669 dX8_ends_195
            ·
              have k673 := if_f k644 (fun z => z q645)
              exact gi_vret (pc := 153) ⟨rfl, hv633, (k673.symm.trans kf), fx633⟩ hv633 dX8_ends_153
noncomputable def f_X8_laysValues2_ : Nat → Nat → Int → Int → Int → ST → ST
  | 0, _, _, _, _, sx => sx
  | n + 1, lab, l1, l2, l3, sx => if lab = 2 then (bd (sx.1 70 6) fun v1 => bd (sx.1 75 (v1).toNat) fun v3 => if v3 ≤ l1 then (f_X8_laysValues2_ n 110 0 0 0 sx) else (bd (f_X8_kindAt2 sx l1) fun v12 => if ¬ v12 = 1 then (f_X8_laysValues2_ n 32 l1 0 0 sx) else (f_X8_laysValues2_ n 32 l1 1 0 sx))) else if lab = 32 then (if 2 ≤ l3 then (f_X8_laysValues2_ n 66 l1 l2 0 sx) else (if l2 = 0 then (bd (f_X8_statementPlace2 sx l1 0) fun v29 => bd (f_X8_usesOperand2 sx v29 l1 l3) fun s32 => f_X8_laysValues2_ n 32 l1 l2 ((l3 + 1)) s32) else (bd (f_X8_statementPlace2 sx l1 ((1 + l3))) fun v44 => bd (f_X8_usesOperand2 sx v44 l1 l3) fun s47 => f_X8_laysValues2_ n 32 l1 l2 ((l3 + 1)) s47))) else if lab = 66 then (if 4 ≤ l3 then (f_X8_laysValues2_ n 2 ((l1 + 1)) 0 0 sx) else (if l2 = 0 then (f_X8_laysValues2_ n 2 ((l1 + 1)) 0 0 sx) else (bd (f_X8_statementPlace2 sx l1 ((3 + l3))) fun v70 => bd (f_X8_procedureOf2 sx l1) fun v74 => bd (f_X8_uses2 sx v70 v74 l1 ((6 + l3))) fun s78 => f_X8_laysValues2_ n 66 l1 l2 ((l3 + 1)) s78))) else if lab = 110 then (bd (sx.1 70 6) fun v85 => bd (sx.1 76 (v85).toNat) fun v87 => if v87 ≤ l1 then (f_X8_laysValues2_ n 162 0 0 0 sx) else (f_X8_laysValues2_ n 125 l1 0 0 sx)) else if lab = 125 then (if 4 ≤ l2 then (f_X8_laysValues2_ n 110 ((l1 + 1)) 0 0 sx) else (bd (f_X8_procedurePlace2 sx l1 ((9 + l2))) fun v104 => bd (f_X8_uses2 sx v104 l1 (-1) ((6 + l2))) fun s108 => f_X8_laysValues2_ n 125 l1 ((l2 + 1)) 0 s108)) else if lab = 162 then (bd (sx.1 70 6) fun v115 => bd (sx.1 75 (v115).toNat) fun v117 => if v117 ≤ l1 then (f_X8_laysValues2_ n 236 0 0 0 sx) else (bd (sL sx 104 (l1).toNat (0 : Int64)) fun s123 => f_X8_laysValues2_ n 184 l1 0 0 s123)) else if lab = 184 then (bd (sx.1 70 6) fun v126 => bd (sx.1 75 (v126).toNat) fun v128 => if v128 ≤ l2 then (f_X8_laysValues2_ n 162 ((l1 + 1)) 0 0 sx) else (bd (sx.2.1 104 (l1).toNat) fun v136 => bd (f_X8_isAnyHung2 sx l1 l2) fun v140 => if v140 = 0 then (bd (o_lor v136 (0 : Int64)) fun v144 => bd (sL sx 104 (l1).toNat v144) fun s146 => f_X8_laysValues2_ n 184 l1 ((l2 + 1)) 0 s146) else (bd (o_lshl (1 : Int64) l2) fun v152 => bd (o_lor v136 v152) fun v154 => bd (sL sx 104 (l1).toNat v154) fun s156 => f_X8_laysValues2_ n 184 l1 ((l2 + 1)) 0 s156))) else bd (sx.1 70 6) fun v161 => bd (sx.1 75 (v161).toNat) fun v163 => if v163 ≤ l1 then (sx) else (bd (f_X8_ends_x2 sx l1) fun s168 => f_X8_laysValues2_ n 236 ((l1 + 1)) 0 0 s168)
noncomputable def f_X8_laysValues2 (s : ST) : ST :=
  f_X8_laysValues2_ (BG 7090) 2 0 0 0 s
set_option maxHeartbeats 4000000 in
set_option maxRecDepth 100000 in
theorem s_X8_laysValues2_f (l : Launch) (d : Nat) {P : PP} {h : HP} (hv : Iv P h) (ckf : CKF h.2.1) (ht : TR h.2.1 (h.2.1 70 6).toInt) : Mt l yX8_laysValues cX8_laysValues 4 none (d + 7) [.ref 70] h 0 0 (fun r h' => r = none ∧ Iv P h' ∧ (st h' = f_X8_laysValues2 (st h)) ∧ (FX KAr h h')) := by
  refine Mt_iv hv (by decide) (Nat.le_of_ble_eq_true rfl) ?_
  show Go l RX8 cX8_laysValues 4 (g_rm (d + 7) 0 0) "laysValues" none 117 0 0 (fun _ _ => True) (fun r h' => r = none ∧ Iv P h' ∧ (st h' = f_X8_laysValues2 (st h)) ∧ (FX KAr h h')) 0 0 [(0, .ref 70)] [] h
  obtain ⟨S, hS⟩ : ∃ S : Int, S = (h.2.1 70 6).toInt := ⟨_, rfl⟩
  have S0 : 0 ≤ S := by rw [hS]; exact (hv.2.1 70 6).1
  have S1 : S ≤ 1 := by rw [hS]; exact (hv.2.1 70 6).2
  rw [← hS] at ht
  have fx : FX KAr h h := FX.rfl
  obtain ⟨fin, kf⟩ : ∃ z, z = f_X8_laysValues2 (st h) := ⟨_, _root_.rfl⟩
  have k0 := kf
  unfold f_X8_laysValues2 at k0
  have key : ∀ n : Nat, (∀ (l1 : Int32) (hx : HP), Iv P hx → 0 ≤ l1.toInt → l1.toInt ≤ 40 → FX KAr h hx → fin = f_X8_laysValues2_ n 2 l1.toInt 0 0 (st hx) → (33 * (40 - l1.toInt) + 5723 : Int) < n → Go l RX8 cX8_laysValues 4 (g_rm (d + 7) 0 0) "laysValues" none 117 0 0 (fun _ _ => True) (fun r h' => r = none ∧ Iv P h' ∧ (st h' = f_X8_laysValues2 (st h)) ∧ (FX KAr h h')) 0 2 [(0, .ref 70), (1, .int l1)] [] hx) ∧ (∀ (l1 : Int32) (l2 : Int32) (l3 : Int32) (hx : HP), Iv P hx → 0 ≤ l1.toInt → l1.toInt ≤ 39 → 0 ≤ l2.toInt → l2.toInt ≤ 1 → 0 ≤ l3.toInt → l3.toInt ≤ 2 → (l1.toInt < V h.2.1 75 S) → FX KAr h hx → fin = f_X8_laysValues2_ n 32 l1.toInt l2.toInt l3.toInt (st hx) → (3 * (2 - l3.toInt) + 33 * (40 - l1.toInt) + 5712 : Int) < n → Go l RX8 cX8_laysValues 4 (g_rm (d + 7) 0 0) "laysValues" none 117 0 0 (fun _ _ => True) (fun r h' => r = none ∧ Iv P h' ∧ (st h' = f_X8_laysValues2 (st h)) ∧ (FX KAr h h')) 0 32 [(0, .ref 70), (1, .int l1), (2, .int l2), (3, .int l3)] [] hx) ∧ (∀ (l1 : Int32) (l2 : Int32) (l3 : Int32) (hx : HP), Iv P hx → 0 ≤ l1.toInt → l1.toInt ≤ 39 → 0 ≤ l2.toInt → l2.toInt ≤ 1 → 0 ≤ l3.toInt → l3.toInt ≤ 4 → (l1.toInt < V h.2.1 75 S) → FX KAr h hx → fin = f_X8_laysValues2_ n 66 l1.toInt l2.toInt l3.toInt (st hx) → (3 * (4 - l3.toInt) + 33 * (40 - l1.toInt) + 5694 : Int) < n → Go l RX8 cX8_laysValues 4 (g_rm (d + 7) 0 0) "laysValues" none 117 0 0 (fun _ _ => True) (fun r h' => r = none ∧ Iv P h' ∧ (st h' = f_X8_laysValues2 (st h)) ∧ (FX KAr h h')) 0 66 [(0, .ref 70), (1, .int l1), (2, .int l2), (3, .int l3)] [] hx) ∧ (∀ (l1 : Int32) (hx : HP), Iv P hx → 0 ≤ l1.toInt → l1.toInt ≤ 5 → FX KAr h hx → fin = f_X8_laysValues2_ n 110 l1.toInt 0 0 (st hx) → (21 * (5 - l1.toInt) + 5564 : Int) < n → Go l RX8 cX8_laysValues 4 (g_rm (d + 7) 0 0) "laysValues" none 117 0 0 (fun _ _ => True) (fun r h' => r = none ∧ Iv P h' ∧ (st h' = f_X8_laysValues2 (st h)) ∧ (FX KAr h h')) 0 110 [(0, .ref 70), (1, .int l1)] [] hx) ∧ (∀ (l1 : Int32) (l2 : Int32) (hx : HP), Iv P hx → 0 ≤ l1.toInt → l1.toInt ≤ 4 → 0 ≤ l2.toInt → l2.toInt ≤ 4 → FX KAr h hx → fin = f_X8_laysValues2_ n 125 l1.toInt l2.toInt 0 (st hx) → (3 * (4 - l2.toInt) + 21 * (5 - l1.toInt) + 5547 : Int) < n → Go l RX8 cX8_laysValues 4 (g_rm (d + 7) 0 0) "laysValues" none 117 0 0 (fun _ _ => True) (fun r h' => r = none ∧ Iv P h' ∧ (st h' = f_X8_laysValues2 (st h)) ∧ (FX KAr h h')) 0 125 [(0, .ref 70), (1, .int l1), (2, .int l2)] [] hx) ∧ (∀ (l1 : Int32) (hx : HP), Iv P hx → 0 ≤ l1.toInt → l1.toInt ≤ 40 → FX KAr h hx → fin = f_X8_laysValues2_ n 162 l1.toInt 0 0 (st hx) → (129 * (40 - l1.toInt) + 254 : Int) < n → Go l RX8 cX8_laysValues 4 (g_rm (d + 7) 0 0) "laysValues" none 117 0 0 (fun _ _ => True) (fun r h' => r = none ∧ Iv P h' ∧ (st h' = f_X8_laysValues2 (st h)) ∧ (FX KAr h h')) 0 162 [(0, .ref 70), (1, .int l1)] [] hx) ∧ (∀ (l1 : Int32) (l2 : Int32) (hx : HP), Iv P hx → 0 ≤ l1.toInt → l1.toInt ≤ 39 → 0 ≤ l2.toInt → l2.toInt ≤ 40 → FX KAr h hx → fin = f_X8_laysValues2_ n 184 l1.toInt l2.toInt 0 (st hx) → (3 * (40 - l2.toInt) + 129 * (40 - l1.toInt) + 129 : Int) < n → Go l RX8 cX8_laysValues 4 (g_rm (d + 7) 0 0) "laysValues" none 117 0 0 (fun _ _ => True) (fun r h' => r = none ∧ Iv P h' ∧ (st h' = f_X8_laysValues2 (st h)) ∧ (FX KAr h h')) 0 184 [(0, .ref 70), (1, .int l1), (2, .int l2)] [] hx) ∧ (∀ (l1 : Int32) (hx : HP), Iv P hx → 0 ≤ l1.toInt → l1.toInt ≤ 40 → FX KAr h hx → fin = f_X8_laysValues2_ n 236 l1.toInt 0 0 (st hx) → (3 * (40 - l1.toInt) + 2 : Int) < n → Go l RX8 cX8_laysValues 4 (g_rm (d + 7) 0 0) "laysValues" none 117 0 0 (fun _ _ => True) (fun r h' => r = none ∧ Iv P h' ∧ (st h' = f_X8_laysValues2 (st h)) ∧ (FX KAr h h')) 0 236 [(0, .ref 70), (1, .int l1)] [] hx) := by
    intro n
    induction n with
    | zero => exact ⟨(by intros; omega), (by intros; omega), (by intros; omega), (by intros; omega), (by intros; omega), (by intros; omega), (by intros; omega), (by intros; omega)⟩
    | succ n ih =>
      refine ⟨?_, ?_, ?_, ?_, ?_, ?_, ?_, ?_⟩
      ·
        intro l1 hx hvx l1l l1u fxx kL hm
        rw [f_X8_laysValues2_] at kL
        replace kL := if_t kL _root_.rfl
        refine go_iload_n (pc := 2) rfl dX8_laysValues_2 ?_
        refine go_aload_n (pc := 3) rfl dX8_laysValues_3 ?_
        refine gi_getF (pc := 4) (q := 75) hvx fL_X8_23 rfl (Nat.le_of_ble_eq_true rfl) rfl (hvx.rf (by decide)) dX8_laysValues_4 ?_
        refine go_aload_n (pc := 7) rfl dX8_laysValues_7 ?_
        refine gi_get (pc := 8) (lo := 0) (hi := 1) hvx fL_X8_187 rfl (Nat.le_of_ble_eq_true rfl) rfl rfl dX8_laysValues_8 (fun v1 v1l v1u v1w => ?_)
        have k2 := bd_e kL (congrArg Int32.toInt v1w.symm)
        have v1S : v1.toInt = S := by rw [v1w, hvx.fy (j := 6) (by omega), ← hv.fy (j := 6) (by omega)]; exact hS.symm
        refine gi_iald (pc := 11) (lo := 0) (hi := 40) (len := 2) hvx (ti_rfl v1) rfl (by omega) (by omega) (fun _ => rfl) dX8_laysValues_11 (fun v3 v3l v3u v3w => ?_)
        have k4 := bd_e k2 (congrArg Int32.toInt v3w.symm)
        have v3V : v3.toInt = V h.2.1 75 S := by rw [v3w, v1S, hvx.fz (c := 75) (by omega) (by omega), ← hv.fz (c := 75) (by omega) (by omega)]; rfl
        refine gf_icmp_ge (pc := 12) (tgt := 108) (ti_rfl l1) (ti_rfl v3) (by decide) dX8_laysValues_12 (fun q5 => ?_) (fun q5 => ?_)
        ·
          have k6 := if_t k4 q5
          refine go_iconst (pc := 108) (v := 0) (by decide) dX8_laysValues_108 ?_
          refine go_istore_n (pc := 109) (Nat.le_of_ble_eq_true rfl) dX8_laysValues_109 (go_lv (lv2 := [(0, .ref 70), (1, .int 0)]) rfl ?_)
          have z7 : (0 : Int32).toInt = 0 := (ti_c (v := 0) (a := 0) (by decide))
          exact go_lv rfl (ih.2.2.2.1 0 hx hvx (by omega) (by omega) fxx (by rw [show (0 : Int32).toInt = 0 from (ti_c (v := 0) (a := 0) (by decide))]; exact k6) (by omega))
        ·
          have k8 := if_f k4 (Int.not_le.mpr q5)
          refine go_aload_n (pc := 15) rfl dX8_laysValues_15 ?_
          refine go_iload_n (pc := 16) rfl dX8_laysValues_16 ?_
          refine go_invV (pc := 17) (sl := 0) (s_X8_kindAt2_f l (d + 4) hvx l1 (by rw [show (l1 : Int32).toInt = l1.toInt from (ti_rfl l1)]; omega) (by rw [show (l1 : Int32).toInt = l1.toInt from (ti_rfl l1)]; omega)) mL_X8_271 iM_X8_kindAt sM_X8_kindAt (hvx.sh rfl) rfl rfl rfl (Nat.le_of_ble_eq_true rfl) (show d + 4 + 2 + 1 ≤ d + 7 by omega) (show 8 + (2 + 11) + 40 * (d + 4 + 2) ≤ 40 * (d + 7) by omega) (g_c0 hvx.ln) (Nat.le_of_ble_eq_true rfl) dX8_laysValues_17 ?_
          intro r h9 hq _
          obtain ⟨v12, rfl, v12l, v12u, rfl, f10, f11⟩ := hq
          have v12K : v12.toInt = V h.2.1 77 (V h.2.1 93 (40 * S + l1.toInt)) := by rw [f10]; unfold g_kd g_it; rw [hvx.fy (j := 6) (by omega), ← hv.fy (j := 6) (by omega), ← hS, hvx.fz (c := 93) (by omega) (by omega), ← hv.fz (c := 93) (by omega) (by omega), hvx.fz (c := 77) (by omega) (by omega), ← hv.fz (c := 77) (by omega) (by omega)]; rfl
          replace f11 : PE _ _ := f11
          have k13 := bd_e k8 f11.symm
          refine go_iconst (pc := 20) (v := 1) (by decide) dX8_laysValues_20 ?_
          refine gf_icmp_ne (pc := 21) (tgt := 28) (ti_rfl v12) (ti_c (v := 1) (a := 1) (by decide)) (by decide) dX8_laysValues_21 (fun q14 => ?_) (fun q14 => ?_)
          ·
            have k15 := if_t k13 q14
            refine go_iconst (pc := 28) (v := 0) (by decide) dX8_laysValues_28 ?_
            refine go_istore_n (pc := 29) (Nat.le_of_ble_eq_true rfl) dX8_laysValues_29 (go_lv (lv2 := [(0, .ref 70), (1, .int l1), (2, .int 0)]) rfl ?_)
            refine go_iconst (pc := 30) (v := 0) (by decide) dX8_laysValues_30 ?_
            refine go_istore_n (pc := 31) (Nat.le_of_ble_eq_true rfl) dX8_laysValues_31 (go_lv (lv2 := [(0, .ref 70), (1, .int l1), (2, .int 0), (3, .int 0)]) rfl ?_)
            have z16 : (0 : Int32).toInt = 0 := (ti_c (v := 0) (a := 0) (by decide))
            have z17 : (0 : Int32).toInt = 0 := (ti_c (v := 0) (a := 0) (by decide))
            exact go_lv rfl (ih.2.1 l1 0 0 hx hvx (by omega) (by omega) (by omega) (by omega) (by omega) (by omega) (by omega) fxx (by rw [show (0 : Int32).toInt = 0 from (ti_c (v := 0) (a := 0) (by decide))]; exact k15) (by omega))
          ·
            have k18 := if_f k13 (fun z => z q14)
            refine go_iconst (pc := 24) (v := 1) (by decide) dX8_laysValues_24 ?_
            refine go_goto (pc := 25) (tgt := 29) (by decide) dX8_laysValues_25 ?_
            refine go_istore_n (pc := 29) (Nat.le_of_ble_eq_true rfl) dX8_laysValues_29 (go_lv (lv2 := [(0, .ref 70), (1, .int l1), (2, .int 1)]) rfl ?_)
            refine go_iconst (pc := 30) (v := 0) (by decide) dX8_laysValues_30 ?_
            refine go_istore_n (pc := 31) (Nat.le_of_ble_eq_true rfl) dX8_laysValues_31 (go_lv (lv2 := [(0, .ref 70), (1, .int l1), (2, .int 1), (3, .int 0)]) rfl ?_)
            have z19 : (1 : Int32).toInt = 1 := (ti_c (v := 1) (a := 1) (by decide))
            have z20 : (0 : Int32).toInt = 0 := (ti_c (v := 0) (a := 0) (by decide))
            exact go_lv rfl (ih.2.1 l1 1 0 hx hvx (by omega) (by omega) (by omega) (by omega) (by omega) (by omega) (by omega) fxx (by rw [show (1 : Int32).toInt = 1 from (ti_c (v := 1) (a := 1) (by decide)), show (0 : Int32).toInt = 0 from (ti_c (v := 0) (a := 0) (by decide))]; exact k18) (by omega))
      ·
        intro l1 l2 l3 hx hvx l1l l1u l2l l2u l3l l3u x0 fxx kL hm
        rw [f_X8_laysValues2_] at kL
        replace kL := if_f kL (by decide)
        replace kL := if_t kL _root_.rfl
        refine go_iload_n (pc := 32) rfl dX8_laysValues_32 ?_
        refine go_iconst (pc := 33) (v := 2) (by decide) dX8_laysValues_33 ?_
        refine gf_icmp_ge (pc := 34) (tgt := 64) (ti_rfl l3) (ti_c (v := 2) (a := 2) (by decide)) (by decide) dX8_laysValues_34 (fun q21 => ?_) (fun q21 => ?_)
        ·
          have k22 := if_t kL q21
          refine go_iconst (pc := 64) (v := 0) (by decide) dX8_laysValues_64 ?_
          refine go_istore_n (pc := 65) (Nat.le_of_ble_eq_true rfl) dX8_laysValues_65 (go_lv (lv2 := [(0, .ref 70), (1, .int l1), (2, .int l2), (3, .int 0)]) rfl ?_)
          have z23 : (0 : Int32).toInt = 0 := (ti_c (v := 0) (a := 0) (by decide))
          exact go_lv rfl (ih.2.2.1 l1 l2 0 hx hvx (by omega) (by omega) (by omega) (by omega) (by omega) (by omega) (by omega) fxx (by rw [show (0 : Int32).toInt = 0 from (ti_c (v := 0) (a := 0) (by decide))]; exact k22) (by omega))
        ·
          have k24 := if_f kL (Int.not_le.mpr q21)
          refine go_aload_n (pc := 37) rfl dX8_laysValues_37 ?_
          refine go_iload_n (pc := 38) rfl dX8_laysValues_38 ?_
          refine go_iload_n (pc := 39) rfl dX8_laysValues_39 ?_
          refine gf_if_eq (pc := 40) (tgt := 49) (ti_rfl l2) (by decide) dX8_laysValues_40 (fun q25 => ?_) (fun q25 => ?_)
          ·
            have k26 := if_t k24 q25
            refine go_iconst (pc := 49) (v := 0) (by decide) dX8_laysValues_49 ?_
            refine go_invS (pc := 50) (sl := 0) (s_X8_statementPlace2_f l (d + 5) hvx l1 (by rw [show (l1 : Int32).toInt = l1.toInt from (ti_rfl l1)]; omega) (by rw [show (l1 : Int32).toInt = l1.toInt from (ti_rfl l1)]; omega) 0 (by rw [show (0 : Int32).toInt = 0 from (ti_c (v := 0) (a := 0) (by decide))]; omega) (by rw [show (0 : Int32).toInt = 0 from (ti_c (v := 0) (a := 0) (by decide))]; omega)) mL_X8_291 iM_X8_statementPlace rfl rfl (Nat.le_of_ble_eq_true rfl) (show d + 5 + 1 + 1 ≤ d + 7 by omega) (show 8 + (2 + 11) + 40 * (d + 5 + 1) ≤ 40 * (d + 7) by omega) (g_c0 hvx.ln) (Nat.le_of_ble_eq_true rfl) dX8_laysValues_50 ?_
            intro r h27 hq _
            obtain ⟨v29, rfl, v29l, v29u, rfl, f28⟩ := hq
            try rw [show (0 : Int32).toInt = 0 from (ti_c (v := 0) (a := 0) (by decide))] at f28
            replace f28 : PE _ _ := f28
            have k30 := bd_e k26 f28.symm
            refine go_iload_n (pc := 53) rfl dX8_laysValues_53 ?_
            refine go_iload_n (pc := 54) rfl dX8_laysValues_54 ?_
            have sM31 : (hx.2.1 70 6).toInt = S := by rw [hvx.fy (j := 6) (by omega), ← hv.fy (j := 6) (by omega)]; exact hS.symm
            refine go_invV (pc := 55) (sl := 0) (s_X8_usesOperand2_f l (d + 0) hvx v29 (by rw [show (v29 : Int32).toInt = v29.toInt from (ti_rfl v29)]; omega) (by rw [show (v29 : Int32).toInt = v29.toInt from (ti_rfl v29)]; omega) l1 (by rw [show (l1 : Int32).toInt = l1.toInt from (ti_rfl l1)]; omega) (by rw [show (l1 : Int32).toInt = l1.toInt from (ti_rfl l1)]; omega) l3 (by rw [show (l3 : Int32).toInt = l3.toInt from (ti_rfl l3)]; omega) (by rw [show (l3 : Int32).toInt = l3.toInt from (ti_rfl l3)]; omega) (CKF.ve (VE.of hv hvx) ckf) (by rw [sM31]; exact (TR.ve (VE.of hv hvx) ht)) (by rw [sM31]; exact (by rw [VE.v (VE.of hv hvx) (c := 75) (by omega) (by omega)]; omega))) mL_X8_316 iM_X8_usesOperand sM_X8_usesOperand (hvx.sh rfl) rfl rfl rfl (Nat.le_of_ble_eq_true rfl) (show d + 0 + 6 + 1 ≤ d + 7 by omega) (show 8 + (5 + 11) + 40 * (d + 0 + 6) ≤ 40 * (d + 7) by omega) (g_c0 hvx.ln) (Nat.le_of_ble_eq_true rfl) dX8_laysValues_55 ?_
            intro r h32 hq _
            obtain ⟨rfl, hv32, f33, f34⟩ := hq
            have fx32 : FX KAr h h32 := FX.tr fxx f34
            have k35 := bd_e k30 f33.symm
            refine gf_iinc (pc := 58) (Nat.le_of_ble_eq_true rfl) rfl (ti_rfl l3) (ti_c (by decide)) (by omega) (by omega) dX8_laysValues_58 (fun v36 e37 => ?_)
            refine go_lv (lv2 := [(0, .ref 70), (1, .int l1), (2, .int l2), (3, .int v36)]) rfl ?_
            refine go_goto (pc := 61) (tgt := 32) (by decide) dX8_laysValues_61 ?_
            have z38 : (v36 : Int32).toInt = (l3.toInt + 1) := e37
            exact go_lv rfl (ih.2.1 l1 l2 v36 h32 hv32 (by omega) (by omega) (by omega) (by omega) (by omega) (by omega) (by omega) fx32 (by rw [show (v36 : Int32).toInt = (l3.toInt + 1) from e37]; exact k35) (by omega))
          ·
            have k39 := if_f k24 q25
            refine go_iconst (pc := 43) (v := 1) (by decide) dX8_laysValues_43 ?_
            refine go_iload_n (pc := 44) rfl dX8_laysValues_44 ?_
            refine gf_iadd (pc := 45) (ti_c (v := 1) (a := 1) (by decide)) (ti_rfl l3) (by omega) (by omega) dX8_laysValues_45 (fun v40 e41 => ?_)
            refine go_goto (pc := 46) (tgt := 50) (by decide) dX8_laysValues_46 ?_
            refine go_invS (pc := 50) (sl := 0) (s_X8_statementPlace2_f l (d + 5) hvx l1 (by rw [show (l1 : Int32).toInt = l1.toInt from (ti_rfl l1)]; omega) (by rw [show (l1 : Int32).toInt = l1.toInt from (ti_rfl l1)]; omega) v40 (by rw [show (v40 : Int32).toInt = (1 + l3.toInt) from e41]; omega) (by rw [show (v40 : Int32).toInt = (1 + l3.toInt) from e41]; omega)) mL_X8_291 iM_X8_statementPlace rfl rfl (Nat.le_of_ble_eq_true rfl) (show d + 5 + 1 + 1 ≤ d + 7 by omega) (show 8 + (2 + 11) + 40 * (d + 5 + 1) ≤ 40 * (d + 7) by omega) (g_c0 hvx.ln) (Nat.le_of_ble_eq_true rfl) dX8_laysValues_50 ?_
            intro r h42 hq _
            obtain ⟨v44, rfl, v44l, v44u, rfl, f43⟩ := hq
            try rw [show (v40 : Int32).toInt = (1 + l3.toInt) from e41] at f43
            replace f43 : PE _ _ := f43
            have k45 := bd_e k39 f43.symm
            refine go_iload_n (pc := 53) rfl dX8_laysValues_53 ?_
            refine go_iload_n (pc := 54) rfl dX8_laysValues_54 ?_
            have sM46 : (hx.2.1 70 6).toInt = S := by rw [hvx.fy (j := 6) (by omega), ← hv.fy (j := 6) (by omega)]; exact hS.symm
            refine go_invV (pc := 55) (sl := 0) (s_X8_usesOperand2_f l (d + 0) hvx v44 (by rw [show (v44 : Int32).toInt = v44.toInt from (ti_rfl v44)]; omega) (by rw [show (v44 : Int32).toInt = v44.toInt from (ti_rfl v44)]; omega) l1 (by rw [show (l1 : Int32).toInt = l1.toInt from (ti_rfl l1)]; omega) (by rw [show (l1 : Int32).toInt = l1.toInt from (ti_rfl l1)]; omega) l3 (by rw [show (l3 : Int32).toInt = l3.toInt from (ti_rfl l3)]; omega) (by rw [show (l3 : Int32).toInt = l3.toInt from (ti_rfl l3)]; omega) (CKF.ve (VE.of hv hvx) ckf) (by rw [sM46]; exact (TR.ve (VE.of hv hvx) ht)) (by rw [sM46]; exact (by rw [VE.v (VE.of hv hvx) (c := 75) (by omega) (by omega)]; omega))) mL_X8_316 iM_X8_usesOperand sM_X8_usesOperand (hvx.sh rfl) rfl rfl rfl (Nat.le_of_ble_eq_true rfl) (show d + 0 + 6 + 1 ≤ d + 7 by omega) (show 8 + (5 + 11) + 40 * (d + 0 + 6) ≤ 40 * (d + 7) by omega) (g_c0 hvx.ln) (Nat.le_of_ble_eq_true rfl) dX8_laysValues_55 ?_
            intro r h47 hq _
            obtain ⟨rfl, hv47, f48, f49⟩ := hq
            have fx47 : FX KAr h h47 := FX.tr fxx f49
            have k50 := bd_e k45 f48.symm
            refine gf_iinc (pc := 58) (Nat.le_of_ble_eq_true rfl) rfl (ti_rfl l3) (ti_c (by decide)) (by omega) (by omega) dX8_laysValues_58 (fun v51 e52 => ?_)
            refine go_lv (lv2 := [(0, .ref 70), (1, .int l1), (2, .int l2), (3, .int v51)]) rfl ?_
            refine go_goto (pc := 61) (tgt := 32) (by decide) dX8_laysValues_61 ?_
            have z53 : (v51 : Int32).toInt = (l3.toInt + 1) := e52
            exact go_lv rfl (ih.2.1 l1 l2 v51 h47 hv47 (by omega) (by omega) (by omega) (by omega) (by omega) (by omega) (by omega) fx47 (by rw [show (v51 : Int32).toInt = (l3.toInt + 1) from e52]; exact k50) (by omega))
      ·
        intro l1 l2 l3 hx hvx l1l l1u l2l l2u l3l l3u x0 fxx kL hm
        rw [f_X8_laysValues2_] at kL
        replace kL := if_f kL (by decide)
        replace kL := if_f kL (by decide)
        replace kL := if_t kL _root_.rfl
        refine go_iload_n (pc := 66) rfl dX8_laysValues_66 ?_
        refine go_iconst (pc := 67) (v := 4) (by decide) dX8_laysValues_67 ?_
        refine gf_icmp_ge (pc := 68) (tgt := 102) (ti_rfl l3) (ti_c (v := 4) (a := 4) (by decide)) (by decide) dX8_laysValues_68 (fun q54 => ?_) (fun q54 => ?_)
        ·
          have k55 := if_t kL q54
          refine gf_iinc (pc := 102) (Nat.le_of_ble_eq_true rfl) rfl (ti_rfl l1) (ti_c (by decide)) (by omega) (by omega) dX8_laysValues_102 (fun v56 e57 => ?_)
          refine go_lv (lv2 := [(0, .ref 70), (1, .int v56), (2, .int l2), (3, .int l3)]) rfl ?_
          refine go_goto (pc := 105) (tgt := 2) (by decide) dX8_laysValues_105 ?_
          have z58 : (v56 : Int32).toInt = (l1.toInt + 1) := e57
          exact go_lv rfl (ih.1 v56 hx hvx (by omega) (by omega) fxx (by rw [show (v56 : Int32).toInt = (l1.toInt + 1) from e57]; exact k55) (by omega))
        ·
          have k59 := if_f kL (Int.not_le.mpr q54)
          refine go_iload_n (pc := 71) rfl dX8_laysValues_71 ?_
          refine gf_if_eq (pc := 72) (tgt := 102) (ti_rfl l2) (by decide) dX8_laysValues_72 (fun q60 => ?_) (fun q60 => ?_)
          ·
            have k61 := if_t k59 q60
            refine gf_iinc (pc := 102) (Nat.le_of_ble_eq_true rfl) rfl (ti_rfl l1) (ti_c (by decide)) (by omega) (by omega) dX8_laysValues_102 (fun v62 e63 => ?_)
            refine go_lv (lv2 := [(0, .ref 70), (1, .int v62), (2, .int l2), (3, .int l3)]) rfl ?_
            refine go_goto (pc := 105) (tgt := 2) (by decide) dX8_laysValues_105 ?_
            have z64 : (v62 : Int32).toInt = (l1.toInt + 1) := e63
            exact go_lv rfl (ih.1 v62 hx hvx (by omega) (by omega) fxx (by rw [show (v62 : Int32).toInt = (l1.toInt + 1) from e63]; exact k61) (by omega))
          ·
            have k65 := if_f k59 q60
            refine go_aload_n (pc := 75) rfl dX8_laysValues_75 ?_
            refine go_iload_n (pc := 76) rfl dX8_laysValues_76 ?_
            refine go_iconst (pc := 77) (v := 3) (by decide) dX8_laysValues_77 ?_
            refine go_iload_n (pc := 78) rfl dX8_laysValues_78 ?_
            refine gf_iadd (pc := 79) (ti_c (v := 3) (a := 3) (by decide)) (ti_rfl l3) (by omega) (by omega) dX8_laysValues_79 (fun v66 e67 => ?_)
            refine go_invS (pc := 80) (sl := 0) (s_X8_statementPlace2_f l (d + 5) hvx l1 (by rw [show (l1 : Int32).toInt = l1.toInt from (ti_rfl l1)]; omega) (by rw [show (l1 : Int32).toInt = l1.toInt from (ti_rfl l1)]; omega) v66 (by rw [show (v66 : Int32).toInt = (3 + l3.toInt) from e67]; omega) (by rw [show (v66 : Int32).toInt = (3 + l3.toInt) from e67]; omega)) mL_X8_291 iM_X8_statementPlace rfl rfl (Nat.le_of_ble_eq_true rfl) (show d + 5 + 1 + 1 ≤ d + 7 by omega) (show 8 + (2 + 11) + 40 * (d + 5 + 1) ≤ 40 * (d + 7) by omega) (g_c0 hvx.ln) (Nat.le_of_ble_eq_true rfl) dX8_laysValues_80 ?_
            intro r h68 hq _
            obtain ⟨v70, rfl, v70l, v70u, rfl, f69⟩ := hq
            try rw [show (v66 : Int32).toInt = (3 + l3.toInt) from e67] at f69
            replace f69 : PE _ _ := f69
            have k71 := bd_e k65 f69.symm
            refine go_aload_n (pc := 83) rfl dX8_laysValues_83 ?_
            refine go_iload_n (pc := 84) rfl dX8_laysValues_84 ?_
            refine go_invV (pc := 85) (sl := 0) (s_X8_procedureOf2_f l (d + 4) hvx l1 (by rw [show (l1 : Int32).toInt = l1.toInt from (ti_rfl l1)]; omega) (by rw [show (l1 : Int32).toInt = l1.toInt from (ti_rfl l1)]; omega)) mL_X8_306 iM_X8_procedureOf sM_X8_procedureOf (hvx.sh rfl) rfl rfl rfl (Nat.le_of_ble_eq_true rfl) (show d + 4 + 2 + 1 ≤ d + 7 by omega) (show 8 + (2 + 11) + 40 * (d + 4 + 2) ≤ 40 * (d + 7) by omega) (g_c0 hvx.ln) (Nat.le_of_ble_eq_true rfl) dX8_laysValues_85 ?_
            intro r h72 hq _
            obtain ⟨v74, rfl, v74l, v74u, rfl, f73⟩ := hq
            replace f73 : PE _ _ := f73
            have k75 := bd_e k71 f73.symm
            refine go_iload_n (pc := 88) rfl dX8_laysValues_88 ?_
            refine go_bipush (pc := 89) (v := 6) (by decide) dX8_laysValues_89 ?_
            refine go_iload_n (pc := 91) rfl dX8_laysValues_91 ?_
            refine gf_iadd (pc := 92) (ti_c (v := 6) (a := 6) (by decide)) (ti_rfl l3) (by omega) (by omega) dX8_laysValues_92 (fun v76 e77 => ?_)
            refine go_invV (pc := 93) (sl := 0) (s_X8_uses2_f l (d + 1) hvx v70 (by rw [show (v70 : Int32).toInt = v70.toInt from (ti_rfl v70)]; omega) (by rw [show (v70 : Int32).toInt = v70.toInt from (ti_rfl v70)]; omega) v74 (by rw [show (v74 : Int32).toInt = v74.toInt from (ti_rfl v74)]; omega) (by rw [show (v74 : Int32).toInt = v74.toInt from (ti_rfl v74)]; omega) l1 (by rw [show (l1 : Int32).toInt = l1.toInt from (ti_rfl l1)]; omega) (by rw [show (l1 : Int32).toInt = l1.toInt from (ti_rfl l1)]; omega) v76 (by rw [show (v76 : Int32).toInt = (6 + l3.toInt) from e77]; omega) (by rw [show (v76 : Int32).toInt = (6 + l3.toInt) from e77]; omega) (CKF.ve (VE.of hv hvx) ckf)) mL_X8_312 iM_X8_uses sM_X8_uses (hvx.sh rfl) rfl rfl rfl (Nat.le_of_ble_eq_true rfl) (show d + 1 + 5 + 1 ≤ d + 7 by omega) (show 8 + (14 + 11) + 40 * (d + 1 + 5) ≤ 40 * (d + 7) by omega) (g_c0 hvx.ln) (Nat.le_of_ble_eq_true rfl) dX8_laysValues_93 ?_
            intro r h78 hq _
            obtain ⟨rfl, hv78, f79, f80⟩ := hq
            try rw [show (v76 : Int32).toInt = (6 + l3.toInt) from e77] at f79
            try rw [show (v76 : Int32).toInt = (6 + l3.toInt) from e77] at f80
            have fx78 : FX KAr h h78 := FX.tr fxx f80
            have k81 := bd_e k75 f79.symm
            refine gf_iinc (pc := 96) (Nat.le_of_ble_eq_true rfl) rfl (ti_rfl l3) (ti_c (by decide)) (by omega) (by omega) dX8_laysValues_96 (fun v82 e83 => ?_)
            refine go_lv (lv2 := [(0, .ref 70), (1, .int l1), (2, .int l2), (3, .int v82)]) rfl ?_
            refine go_goto (pc := 99) (tgt := 66) (by decide) dX8_laysValues_99 ?_
            have z84 : (v82 : Int32).toInt = (l3.toInt + 1) := e83
            exact go_lv rfl (ih.2.2.1 l1 l2 v82 h78 hv78 (by omega) (by omega) (by omega) (by omega) (by omega) (by omega) (by omega) fx78 (by rw [show (v82 : Int32).toInt = (l3.toInt + 1) from e83]; exact k81) (by omega))
      ·
        intro l1 hx hvx l1l l1u fxx kL hm
        rw [f_X8_laysValues2_] at kL
        replace kL := if_f kL (by decide)
        replace kL := if_f kL (by decide)
        replace kL := if_f kL (by decide)
        replace kL := if_t kL _root_.rfl
        refine go_iload_n (pc := 110) rfl dX8_laysValues_110 ?_
        refine go_aload_n (pc := 111) rfl dX8_laysValues_111 ?_
        refine gi_getF (pc := 112) (q := 76) hvx fL_X8_26 rfl (Nat.le_of_ble_eq_true rfl) rfl (hvx.rf (by decide)) dX8_laysValues_112 ?_
        refine go_aload_n (pc := 115) rfl dX8_laysValues_115 ?_
        refine gi_get (pc := 116) (lo := 0) (hi := 1) hvx fL_X8_187 rfl (Nat.le_of_ble_eq_true rfl) rfl rfl dX8_laysValues_116 (fun v85 v85l v85u v85w => ?_)
        have k86 := bd_e kL (congrArg Int32.toInt v85w.symm)
        have v85S : v85.toInt = S := by rw [v85w, hvx.fy (j := 6) (by omega), ← hv.fy (j := 6) (by omega)]; exact hS.symm
        refine gi_iald (pc := 119) (lo := 0) (hi := 5) (len := 2) hvx (ti_rfl v85) rfl (by omega) (by omega) (fun _ => rfl) dX8_laysValues_119 (fun v87 v87l v87u v87w => ?_)
        have k88 := bd_e k86 (congrArg Int32.toInt v87w.symm)
        have v87V : v87.toInt = V h.2.1 76 S := by rw [v87w, v85S, hvx.fz (c := 76) (by omega) (by omega), ← hv.fz (c := 76) (by omega) (by omega)]; rfl
        refine gf_icmp_ge (pc := 120) (tgt := 160) (ti_rfl l1) (ti_rfl v87) (by decide) dX8_laysValues_120 (fun q89 => ?_) (fun q89 => ?_)
        ·
          have k90 := if_t k88 q89
          refine go_iconst (pc := 160) (v := 0) (by decide) dX8_laysValues_160 ?_
          refine go_istore_n (pc := 161) (Nat.le_of_ble_eq_true rfl) dX8_laysValues_161 (go_lv (lv2 := [(0, .ref 70), (1, .int 0)]) rfl ?_)
          have z91 : (0 : Int32).toInt = 0 := (ti_c (v := 0) (a := 0) (by decide))
          exact go_lv rfl (ih.2.2.2.2.2.1 0 hx hvx (by omega) (by omega) fxx (by rw [show (0 : Int32).toInt = 0 from (ti_c (v := 0) (a := 0) (by decide))]; exact k90) (by omega))
        ·
          have k92 := if_f k88 (Int.not_le.mpr q89)
          refine go_iconst (pc := 123) (v := 0) (by decide) dX8_laysValues_123 ?_
          refine go_istore_n (pc := 124) (Nat.le_of_ble_eq_true rfl) dX8_laysValues_124 (go_lv (lv2 := [(0, .ref 70), (1, .int l1), (2, .int 0)]) rfl ?_)
          have z93 : (0 : Int32).toInt = 0 := (ti_c (v := 0) (a := 0) (by decide))
          exact go_lv rfl (ih.2.2.2.2.1 l1 0 hx hvx (by omega) (by omega) (by omega) (by omega) fxx (by rw [show (0 : Int32).toInt = 0 from (ti_c (v := 0) (a := 0) (by decide))]; exact k92) (by omega))
      ·
        intro l1 l2 hx hvx l1l l1u l2l l2u fxx kL hm
        rw [f_X8_laysValues2_] at kL
        replace kL := if_f kL (by decide)
        replace kL := if_f kL (by decide)
        replace kL := if_f kL (by decide)
        replace kL := if_f kL (by decide)
        replace kL := if_t kL _root_.rfl
        refine go_iload_n (pc := 125) rfl dX8_laysValues_125 ?_
        refine go_iconst (pc := 126) (v := 4) (by decide) dX8_laysValues_126 ?_
        refine gf_icmp_ge (pc := 127) (tgt := 154) (ti_rfl l2) (ti_c (v := 4) (a := 4) (by decide)) (by decide) dX8_laysValues_127 (fun q94 => ?_) (fun q94 => ?_)
        ·
          have k95 := if_t kL q94
          refine gf_iinc (pc := 154) (Nat.le_of_ble_eq_true rfl) rfl (ti_rfl l1) (ti_c (by decide)) (by omega) (by omega) dX8_laysValues_154 (fun v96 e97 => ?_)
          refine go_lv (lv2 := [(0, .ref 70), (1, .int v96), (2, .int l2)]) rfl ?_
          refine go_goto (pc := 157) (tgt := 110) (by decide) dX8_laysValues_157 ?_
          have z98 : (v96 : Int32).toInt = (l1.toInt + 1) := e97
          exact go_lv rfl (ih.2.2.2.1 v96 hx hvx (by omega) (by omega) fxx (by rw [show (v96 : Int32).toInt = (l1.toInt + 1) from e97]; exact k95) (by omega))
        ·
          have k99 := if_f kL (Int.not_le.mpr q94)
          refine go_aload_n (pc := 130) rfl dX8_laysValues_130 ?_
          refine go_iload_n (pc := 131) rfl dX8_laysValues_131 ?_
          refine go_bipush (pc := 132) (v := 9) (by decide) dX8_laysValues_132 ?_
          refine go_iload_n (pc := 134) rfl dX8_laysValues_134 ?_
          refine gf_iadd (pc := 135) (ti_c (v := 9) (a := 9) (by decide)) (ti_rfl l2) (by omega) (by omega) dX8_laysValues_135 (fun v100 e101 => ?_)
          refine go_invS (pc := 136) (sl := 0) (s_X8_procedurePlace2_f l (d + 5) hvx l1 (by rw [show (l1 : Int32).toInt = l1.toInt from (ti_rfl l1)]; omega) (by rw [show (l1 : Int32).toInt = l1.toInt from (ti_rfl l1)]; omega) v100 (by rw [show (v100 : Int32).toInt = (9 + l2.toInt) from e101]; omega) (by rw [show (v100 : Int32).toInt = (9 + l2.toInt) from e101]; omega)) mL_X8_300 iM_X8_procedurePlace rfl rfl (Nat.le_of_ble_eq_true rfl) (show d + 5 + 1 + 1 ≤ d + 7 by omega) (show 8 + (2 + 11) + 40 * (d + 5 + 1) ≤ 40 * (d + 7) by omega) (g_c0 hvx.ln) (Nat.le_of_ble_eq_true rfl) dX8_laysValues_136 ?_
          intro r h102 hq _
          obtain ⟨v104, rfl, v104l, v104u, rfl, f103⟩ := hq
          try rw [show (v100 : Int32).toInt = (9 + l2.toInt) from e101] at f103
          replace f103 : PE _ _ := f103
          have k105 := bd_e k99 f103.symm
          refine go_iload_n (pc := 139) rfl dX8_laysValues_139 ?_
          refine go_iconst (pc := 140) (v := (-1)) (by decide) dX8_laysValues_140 ?_
          refine go_bipush (pc := 141) (v := 6) (by decide) dX8_laysValues_141 ?_
          refine go_iload_n (pc := 143) rfl dX8_laysValues_143 ?_
          refine gf_iadd (pc := 144) (ti_c (v := 6) (a := 6) (by decide)) (ti_rfl l2) (by omega) (by omega) dX8_laysValues_144 (fun v106 e107 => ?_)
          refine go_invV (pc := 145) (sl := 0) (s_X8_uses2_f l (d + 1) hvx v104 (by rw [show (v104 : Int32).toInt = v104.toInt from (ti_rfl v104)]; omega) (by rw [show (v104 : Int32).toInt = v104.toInt from (ti_rfl v104)]; omega) l1 (by rw [show (l1 : Int32).toInt = l1.toInt from (ti_rfl l1)]; omega) (by rw [show (l1 : Int32).toInt = l1.toInt from (ti_rfl l1)]; omega) (-1) (by rw [show ((-1) : Int32).toInt = (-1) from (ti_c (v := (-1)) (a := (-1)) (by decide))]; omega) (by rw [show ((-1) : Int32).toInt = (-1) from (ti_c (v := (-1)) (a := (-1)) (by decide))]; omega) v106 (by rw [show (v106 : Int32).toInt = (6 + l2.toInt) from e107]; omega) (by rw [show (v106 : Int32).toInt = (6 + l2.toInt) from e107]; omega) (CKF.ve (VE.of hv hvx) ckf)) mL_X8_312 iM_X8_uses sM_X8_uses (hvx.sh rfl) rfl rfl rfl (Nat.le_of_ble_eq_true rfl) (show d + 1 + 5 + 1 ≤ d + 7 by omega) (show 8 + (14 + 11) + 40 * (d + 1 + 5) ≤ 40 * (d + 7) by omega) (g_c0 hvx.ln) (Nat.le_of_ble_eq_true rfl) dX8_laysValues_145 ?_
          intro r h108 hq _
          obtain ⟨rfl, hv108, f109, f110⟩ := hq
          try rw [show ((-1) : Int32).toInt = (-1) from (ti_c (v := (-1)) (a := (-1)) (by decide))] at f109
          try rw [show (v106 : Int32).toInt = (6 + l2.toInt) from e107] at f109
          try rw [show ((-1) : Int32).toInt = (-1) from (ti_c (v := (-1)) (a := (-1)) (by decide))] at f110
          try rw [show (v106 : Int32).toInt = (6 + l2.toInt) from e107] at f110
          have fx108 : FX KAr h h108 := FX.tr fxx f110
          have k111 := bd_e k105 f109.symm
          refine gf_iinc (pc := 148) (Nat.le_of_ble_eq_true rfl) rfl (ti_rfl l2) (ti_c (by decide)) (by omega) (by omega) dX8_laysValues_148 (fun v112 e113 => ?_)
          refine go_lv (lv2 := [(0, .ref 70), (1, .int l1), (2, .int v112)]) rfl ?_
          refine go_goto (pc := 151) (tgt := 125) (by decide) dX8_laysValues_151 ?_
          have z114 : (v112 : Int32).toInt = (l2.toInt + 1) := e113
          exact go_lv rfl (ih.2.2.2.2.1 l1 v112 h108 hv108 (by omega) (by omega) (by omega) (by omega) fx108 (by rw [show (v112 : Int32).toInt = (l2.toInt + 1) from e113]; exact k111) (by omega))
      ·
        intro l1 hx hvx l1l l1u fxx kL hm
        rw [f_X8_laysValues2_] at kL
        replace kL := if_f kL (by decide)
        replace kL := if_f kL (by decide)
        replace kL := if_f kL (by decide)
        replace kL := if_f kL (by decide)
        replace kL := if_f kL (by decide)
        replace kL := if_t kL _root_.rfl
        refine go_iload_n (pc := 162) rfl dX8_laysValues_162 ?_
        refine go_aload_n (pc := 163) rfl dX8_laysValues_163 ?_
        refine gi_getF (pc := 164) (q := 75) hvx fL_X8_23 rfl (Nat.le_of_ble_eq_true rfl) rfl (hvx.rf (by decide)) dX8_laysValues_164 ?_
        refine go_aload_n (pc := 167) rfl dX8_laysValues_167 ?_
        refine gi_get (pc := 168) (lo := 0) (hi := 1) hvx fL_X8_187 rfl (Nat.le_of_ble_eq_true rfl) rfl rfl dX8_laysValues_168 (fun v115 v115l v115u v115w => ?_)
        have k116 := bd_e kL (congrArg Int32.toInt v115w.symm)
        have v115S : v115.toInt = S := by rw [v115w, hvx.fy (j := 6) (by omega), ← hv.fy (j := 6) (by omega)]; exact hS.symm
        refine gi_iald (pc := 171) (lo := 0) (hi := 40) (len := 2) hvx (ti_rfl v115) rfl (by omega) (by omega) (fun _ => rfl) dX8_laysValues_171 (fun v117 v117l v117u v117w => ?_)
        have k118 := bd_e k116 (congrArg Int32.toInt v117w.symm)
        have v117V : v117.toInt = V h.2.1 75 S := by rw [v117w, v115S, hvx.fz (c := 75) (by omega) (by omega), ← hv.fz (c := 75) (by omega) (by omega)]; rfl
        refine gf_icmp_ge (pc := 172) (tgt := 234) (ti_rfl l1) (ti_rfl v117) (by decide) dX8_laysValues_172 (fun q119 => ?_) (fun q119 => ?_)
        ·
          have k120 := if_t k118 q119
          refine go_iconst (pc := 234) (v := 0) (by decide) dX8_laysValues_234 ?_
          refine go_istore_n (pc := 235) (Nat.le_of_ble_eq_true rfl) dX8_laysValues_235 (go_lv (lv2 := [(0, .ref 70), (1, .int 0)]) rfl ?_)
          have z121 : (0 : Int32).toInt = 0 := (ti_c (v := 0) (a := 0) (by decide))
          exact go_lv rfl (ih.2.2.2.2.2.2.2 0 hx hvx (by omega) (by omega) fxx (by rw [show (0 : Int32).toInt = 0 from (ti_c (v := 0) (a := 0) (by decide))]; exact k120) (by omega))
        ·
          have k122 := if_f k118 (Int.not_le.mpr q119)
          refine go_aload_n (pc := 175) rfl dX8_laysValues_175 ?_
          refine gi_getF (pc := 176) (q := 104) hvx fL_X8_111 rfl (Nat.le_of_ble_eq_true rfl) rfl (hvx.rf (by decide)) dX8_laysValues_176 ?_
          refine go_iload_n (pc := 179) rfl dX8_laysValues_179 ?_
          refine go_lconst (pc := 180) (v := 0) (by decide) dX8_laysValues_180 ?_
          refine gi_last (pc := 181) (len := 40) hvx (ti_rfl l1) rfl (by omega) (by omega) dX8_laysValues_181 (fun h123 hv123 hv123e => ?_)
          have fx123 : FX KAr h h123 := FX.pL fxx hv123e (by unfold KAr; omega)
          have k124 := bd_e k122 (st_L hv123e)
          refine go_iconst (pc := 182) (v := 0) (by decide) dX8_laysValues_182 ?_
          refine go_istore_n (pc := 183) (Nat.le_of_ble_eq_true rfl) dX8_laysValues_183 (go_lv (lv2 := [(0, .ref 70), (1, .int l1), (2, .int 0)]) rfl ?_)
          have z125 : (0 : Int32).toInt = 0 := (ti_c (v := 0) (a := 0) (by decide))
          exact go_lv rfl (ih.2.2.2.2.2.2.1 l1 0 h123 hv123 (by omega) (by omega) (by omega) (by omega) fx123 (by rw [show (0 : Int32).toInt = 0 from (ti_c (v := 0) (a := 0) (by decide))]; exact k124) (by omega))
      ·
        intro l1 l2 hx hvx l1l l1u l2l l2u fxx kL hm
        rw [f_X8_laysValues2_] at kL
        replace kL := if_f kL (by decide)
        replace kL := if_f kL (by decide)
        replace kL := if_f kL (by decide)
        replace kL := if_f kL (by decide)
        replace kL := if_f kL (by decide)
        replace kL := if_f kL (by decide)
        replace kL := if_t kL _root_.rfl
        refine go_iload_n (pc := 184) rfl dX8_laysValues_184 ?_
        refine go_aload_n (pc := 185) rfl dX8_laysValues_185 ?_
        refine gi_getF (pc := 186) (q := 75) hvx fL_X8_23 rfl (Nat.le_of_ble_eq_true rfl) rfl (hvx.rf (by decide)) dX8_laysValues_186 ?_
        refine go_aload_n (pc := 189) rfl dX8_laysValues_189 ?_
        refine gi_get (pc := 190) (lo := 0) (hi := 1) hvx fL_X8_187 rfl (Nat.le_of_ble_eq_true rfl) rfl rfl dX8_laysValues_190 (fun v126 v126l v126u v126w => ?_)
        have k127 := bd_e kL (congrArg Int32.toInt v126w.symm)
        have v126S : v126.toInt = S := by rw [v126w, hvx.fy (j := 6) (by omega), ← hv.fy (j := 6) (by omega)]; exact hS.symm
        refine gi_iald (pc := 193) (lo := 0) (hi := 40) (len := 2) hvx (ti_rfl v126) rfl (by omega) (by omega) (fun _ => rfl) dX8_laysValues_193 (fun v128 v128l v128u v128w => ?_)
        have k129 := bd_e k127 (congrArg Int32.toInt v128w.symm)
        have v128V : v128.toInt = V h.2.1 75 S := by rw [v128w, v126S, hvx.fz (c := 75) (by omega) (by omega), ← hv.fz (c := 75) (by omega) (by omega)]; rfl
        refine gf_icmp_ge (pc := 194) (tgt := 228) (ti_rfl l2) (ti_rfl v128) (by decide) dX8_laysValues_194 (fun q130 => ?_) (fun q130 => ?_)
        ·
          have k131 := if_t k129 q130
          refine gf_iinc (pc := 228) (Nat.le_of_ble_eq_true rfl) rfl (ti_rfl l1) (ti_c (by decide)) (by omega) (by omega) dX8_laysValues_228 (fun v132 e133 => ?_)
          refine go_lv (lv2 := [(0, .ref 70), (1, .int v132), (2, .int l2)]) rfl ?_
          refine go_goto (pc := 231) (tgt := 162) (by decide) dX8_laysValues_231 ?_
          have z134 : (v132 : Int32).toInt = (l1.toInt + 1) := e133
          exact go_lv rfl (ih.2.2.2.2.2.1 v132 hx hvx (by omega) (by omega) fxx (by rw [show (v132 : Int32).toInt = (l1.toInt + 1) from e133]; exact k131) (by omega))
        ·
          have k135 := if_f k129 (Int.not_le.mpr q130)
          refine go_aload_n (pc := 197) rfl dX8_laysValues_197 ?_
          refine gi_getF (pc := 198) (q := 104) hvx fL_X8_111 rfl (Nat.le_of_ble_eq_true rfl) rfl (hvx.rf (by decide)) dX8_laysValues_198 ?_
          refine go_iload_n (pc := 201) rfl dX8_laysValues_201 ?_
          refine go_dup2 (pc := 202) rfl rfl dX8_laysValues_202 ?_
          refine gi_lald (pc := 203) (len := 40) hvx (ti_rfl l1) rfl (by omega) (by omega) dX8_laysValues_203 (fun v136 v136w => ?_)
          have k137 := bd_e k135 v136w.symm
          refine go_aload_n (pc := 204) rfl dX8_laysValues_204 ?_
          refine go_iload_n (pc := 205) rfl dX8_laysValues_205 ?_
          refine go_iload_n (pc := 206) rfl dX8_laysValues_206 ?_
          refine go_invV (pc := 207) (sl := 0) (s_X8_isAnyHung2_f l (d + 4) hvx l1 (by rw [show (l1 : Int32).toInt = l1.toInt from (ti_rfl l1)]; omega) (by rw [show (l1 : Int32).toInt = l1.toInt from (ti_rfl l1)]; omega) l2 (by rw [show (l2 : Int32).toInt = l2.toInt from (ti_rfl l2)]; omega) (by rw [show (l2 : Int32).toInt = l2.toInt from (ti_rfl l2)]; omega)) mL_X8_319 iM_X8_isAnyHung sM_X8_isAnyHung (hvx.sh rfl) rfl rfl rfl (Nat.le_of_ble_eq_true rfl) (show d + 4 + 2 + 1 ≤ d + 7 by omega) (show 8 + (5 + 11) + 40 * (d + 4 + 2) ≤ 40 * (d + 7) by omega) (g_c0 hvx.ln) (Nat.le_of_ble_eq_true rfl) dX8_laysValues_207 ?_
          intro r h138 hq _
          obtain ⟨v140, rfl, v140l, v140u, rfl, f139⟩ := hq
          replace f139 : PE _ _ := f139
          have k141 := bd_e k137 f139.symm
          refine gf_if_eq (pc := 210) (tgt := 219) (ti_rfl v140) (by decide) dX8_laysValues_210 (fun q142 => ?_) (fun q142 => ?_)
          ·
            have k143 := if_t k141 q142
            refine go_lconst (pc := 219) (v := 0) (by decide) dX8_laysValues_219 ?_
            refine gx_lor (pc := 220) dX8_laysValues_220 (fun v144 v144x => ?_)
            have k145 := bd_e k143 (so_lor v144x)
            refine gi_last (pc := 221) (len := 40) hvx (ti_rfl l1) rfl (by omega) (by omega) dX8_laysValues_221 (fun h146 hv146 hv146e => ?_)
            have fx146 : FX KAr h h146 := FX.pL fxx hv146e (by unfold KAr; omega)
            have k147 := bd_e k145 (st_L hv146e)
            refine gf_iinc (pc := 222) (Nat.le_of_ble_eq_true rfl) rfl (ti_rfl l2) (ti_c (by decide)) (by omega) (by omega) dX8_laysValues_222 (fun v148 e149 => ?_)
            refine go_lv (lv2 := [(0, .ref 70), (1, .int l1), (2, .int v148)]) rfl ?_
            refine go_goto (pc := 225) (tgt := 184) (by decide) dX8_laysValues_225 ?_
            have z150 : (v148 : Int32).toInt = (l2.toInt + 1) := e149
            exact go_lv rfl (ih.2.2.2.2.2.2.1 l1 v148 h146 hv146 (by omega) (by omega) (by omega) (by omega) fx146 (by rw [show (v148 : Int32).toInt = (l2.toInt + 1) from e149]; exact k147) (by omega))
          ·
            have k151 := if_f k141 q142
            refine go_lconst (pc := 213) (v := 1) (by decide) dX8_laysValues_213 ?_
            refine go_iload_n (pc := 214) rfl dX8_laysValues_214 ?_
            refine gx_lshl (pc := 215) dX8_laysValues_215 (fun v152 v152x => ?_)
            have k153 := bd_e k151 (so_lshl (ti_rfl l2) v152x)
            refine go_goto (pc := 216) (tgt := 220) (by decide) dX8_laysValues_216 ?_
            refine gx_lor (pc := 220) dX8_laysValues_220 (fun v154 v154x => ?_)
            have k155 := bd_e k153 (so_lor v154x)
            refine gi_last (pc := 221) (len := 40) hvx (ti_rfl l1) rfl (by omega) (by omega) dX8_laysValues_221 (fun h156 hv156 hv156e => ?_)
            have fx156 : FX KAr h h156 := FX.pL fxx hv156e (by unfold KAr; omega)
            have k157 := bd_e k155 (st_L hv156e)
            refine gf_iinc (pc := 222) (Nat.le_of_ble_eq_true rfl) rfl (ti_rfl l2) (ti_c (by decide)) (by omega) (by omega) dX8_laysValues_222 (fun v158 e159 => ?_)
            refine go_lv (lv2 := [(0, .ref 70), (1, .int l1), (2, .int v158)]) rfl ?_
            refine go_goto (pc := 225) (tgt := 184) (by decide) dX8_laysValues_225 ?_
            have z160 : (v158 : Int32).toInt = (l2.toInt + 1) := e159
            exact go_lv rfl (ih.2.2.2.2.2.2.1 l1 v158 h156 hv156 (by omega) (by omega) (by omega) (by omega) fx156 (by rw [show (v158 : Int32).toInt = (l2.toInt + 1) from e159]; exact k157) (by omega))
      ·
        intro l1 hx hvx l1l l1u fxx kL hm
        rw [f_X8_laysValues2_] at kL
        replace kL := if_f kL (by decide)
        replace kL := if_f kL (by decide)
        replace kL := if_f kL (by decide)
        replace kL := if_f kL (by decide)
        replace kL := if_f kL (by decide)
        replace kL := if_f kL (by decide)
        replace kL := if_f kL (by decide)
        refine go_iload_n (pc := 236) rfl dX8_laysValues_236 ?_
        refine go_aload_n (pc := 237) rfl dX8_laysValues_237 ?_
        refine gi_getF (pc := 238) (q := 75) hvx fL_X8_23 rfl (Nat.le_of_ble_eq_true rfl) rfl (hvx.rf (by decide)) dX8_laysValues_238 ?_
        refine go_aload_n (pc := 241) rfl dX8_laysValues_241 ?_
        refine gi_get (pc := 242) (lo := 0) (hi := 1) hvx fL_X8_187 rfl (Nat.le_of_ble_eq_true rfl) rfl rfl dX8_laysValues_242 (fun v161 v161l v161u v161w => ?_)
        have k162 := bd_e kL (congrArg Int32.toInt v161w.symm)
        have v161S : v161.toInt = S := by rw [v161w, hvx.fy (j := 6) (by omega), ← hv.fy (j := 6) (by omega)]; exact hS.symm
        refine gi_iald (pc := 245) (lo := 0) (hi := 40) (len := 2) hvx (ti_rfl v161) rfl (by omega) (by omega) (fun _ => rfl) dX8_laysValues_245 (fun v163 v163l v163u v163w => ?_)
        have k164 := bd_e k162 (congrArg Int32.toInt v163w.symm)
        have v163V : v163.toInt = V h.2.1 75 S := by rw [v163w, v161S, hvx.fz (c := 75) (by omega) (by omega), ← hv.fz (c := 75) (by omega) (by omega)]; rfl
        refine gf_icmp_ge (pc := 246) (tgt := 260) (ti_rfl l1) (ti_rfl v163) (by decide) dX8_laysValues_246 (fun q165 => ?_) (fun q165 => ?_)
        ·
          have k166 := if_t k164 q165
          exact gi_vret (pc := 260) ⟨rfl, hvx, (k166.symm.trans kf), fxx⟩ hvx dX8_laysValues_260
        ·
          have k167 := if_f k164 (Int.not_le.mpr q165)
          refine go_aload_n (pc := 249) rfl dX8_laysValues_249 ?_
          refine go_iload_n (pc := 250) rfl dX8_laysValues_250 ?_
          refine go_invV (pc := 251) (sl := 0) (s_X8_ends_x2_f l (d + 2) hvx l1 (by rw [show (l1 : Int32).toInt = l1.toInt from (ti_rfl l1)]; omega) (by rw [show (l1 : Int32).toInt = l1.toInt from (ti_rfl l1)]; omega) (CKF.ve (VE.of hv hvx) ckf)) mL_X8_323 iM_X8_ends sM_X8_ends (hvx.sh rfl) rfl rfl rfl (Nat.le_of_ble_eq_true rfl) (show d + 2 + 4 + 1 ≤ d + 7 by omega) (show 8 + (6 + 11) + 40 * (d + 2 + 4) ≤ 40 * (d + 7) by omega) (g_c0 hvx.ln) (Nat.le_of_ble_eq_true rfl) dX8_laysValues_251 ?_
          intro r h168 hq _
          obtain ⟨rfl, hv168, f169, f170⟩ := hq
          have fx168 : FX KAr h h168 := FX.tr fxx f170
          have k171 := bd_e k167 f169.symm
          refine gf_iinc (pc := 254) (Nat.le_of_ble_eq_true rfl) rfl (ti_rfl l1) (ti_c (by decide)) (by omega) (by omega) dX8_laysValues_254 (fun v172 e173 => ?_)
          refine go_lv (lv2 := [(0, .ref 70), (1, .int v172)]) rfl ?_
          refine go_goto (pc := 257) (tgt := 236) (by decide) dX8_laysValues_257 ?_
          have z174 : (v172 : Int32).toInt = (l1.toInt + 1) := e173
          exact go_lv rfl (ih.2.2.2.2.2.2.2 v172 h168 hv168 (by omega) (by omega) fx168 (by rw [show (v172 : Int32).toInt = (l1.toInt + 1) from e173]; exact k171) (by omega))
  have bgN : 7090 ≤ BG 7090 := BG_le _
  refine go_iconst (pc := 0) (v := 0) (by decide) dX8_laysValues_0 ?_
  refine go_istore_n (pc := 1) (Nat.le_of_ble_eq_true rfl) dX8_laysValues_1 (go_lv (lv2 := [(0, .ref 70), (1, .int 0)]) rfl ?_)
  have z175 : (0 : Int32).toInt = 0 := (ti_c (v := 0) (a := 0) (by decide))
  exact go_lv rfl ((key (BG 7090)).1 0 h hv (by omega) (by omega) fx (by rw [show (0 : Int32).toInt = 0 from (ti_c (v := 0) (a := 0) (by decide))]; exact k0) (by omega))
def f_X8_onAllFrom_x2 (s : ST) (a2 : Int) : Int64 :=
  if ¬ a2 = (-1) then (bd (s.2.1 106 (a2).toNat) fun v3 => v3) else ((0 : Int64))
set_option maxHeartbeats 4000000 in
set_option maxRecDepth 100000 in
theorem s_X8_onAllFrom_x2_f (l : Launch) (d : Nat) {P : PP} {h : HP} (hv : Iv P h) (a2 : Int32) (a2l : -1 ≤ a2.toInt) (a2u : a2.toInt ≤ 39) : Mt l yX8_onAllFrom cX8_onAllFrom 2 (some .long) (d + 1) [.ref 70, .int a2] h 0 0 (fun r h' => ∃ v : Int64, r = some (.long v) ∧ h = h' ∧ (v = oa h.2.2.1 a2.toInt) ∧ (v = f_X8_onAllFrom_x2 (st h) a2.toInt)) := by
  refine Mt_iv hv (by decide) (Nat.le_of_ble_eq_true rfl) ?_
  show Go l RX8 cX8_onAllFrom 2 (g_rm (d + 1) 0 0) "onAllFrom" (some .long) 117 0 0 (fun _ _ => True) (fun r h' => ∃ v : Int64, r = some (.long v) ∧ h = h' ∧ (v = oa h.2.2.1 a2.toInt) ∧ (v = f_X8_onAllFrom_x2 (st h) a2.toInt)) 0 0 [(0, .ref 70), (1, .int a2)] [] h
  obtain ⟨fin, kf⟩ : ∃ z, z = f_X8_onAllFrom_x2 (st h) a2.toInt := ⟨_, _root_.rfl⟩
  have k0 := kf
  unfold f_X8_onAllFrom_x2 at k0
  refine go_iload_n (pc := 0) rfl dX8_onAllFrom_0 ?_
  refine go_iconst (pc := 1) (v := (-1)) (by decide) dX8_onAllFrom_1 ?_
  refine gf_icmp_ne (pc := 2) (tgt := 9) (ti_rfl a2) (ti_c (v := (-1)) (a := (-1)) (by decide)) (by decide) dX8_onAllFrom_2 (fun q1 => ?_) (fun q1 => ?_)
  ·
    have k2 := if_t k0 q1
    refine go_aload_n (pc := 9) rfl dX8_onAllFrom_9 ?_
    refine gi_getF (pc := 10) (q := 106) hv fL_X8_118 rfl (Nat.le_of_ble_eq_true rfl) rfl (hv.rf (by decide)) dX8_onAllFrom_10 ?_
    refine go_iload_n (pc := 13) rfl dX8_onAllFrom_13 ?_
    refine gi_lald (pc := 14) (len := 40) hv (ti_rfl a2) rfl (by omega) (by omega) dX8_onAllFrom_14 (fun v3 v3w => ?_)
    have k4 := bd_e k2 v3w.symm
    exact gi_lret (pc := 15) ⟨_, rfl, rfl, (by unfold oa; rw [if_neg (by omega)]; exact v3w), (k4.symm.trans kf)⟩ hv dX8_onAllFrom_15
  ·
    have k5 := if_f k0 (fun z => z q1)
    refine go_lconst (pc := 5) (v := 0) (by decide) dX8_onAllFrom_5 ?_
    refine go_goto (pc := 6) (tgt := 15) (by decide) dX8_onAllFrom_6 ?_
    exact gi_lret (pc := 15) ⟨_, rfl, rfl, (by unfold oa; rw [if_pos (by omega)]), (k5.symm.trans kf)⟩ hv dX8_onAllFrom_15
def f_X8_decides_x2 (s : ST) (a2 : Int) : Int :=
  bd (f_X8_kindAt2 s a2) fun v4 => if v4 = 2 then (1) else (if v4 = 3 then (1) else (if v4 = 5 then (1) else (if v4 = 4 then (1) else (bd (f_X8_isThrowing_x2 s a2) fun v22 => if v22 = 0 then (0) else (1)))))
set_option maxHeartbeats 4000000 in
set_option maxRecDepth 100000 in
theorem s_X8_decides_x2_f (l : Launch) (d : Nat) {P : PP} {h : HP} (hv : Iv P h) (a2 : Int32) (a2l : 0 ≤ a2.toInt) (a2u : a2.toInt ≤ 39) (ckf : CKF h.2.1) : Mt l yX8_decides cX8_decides 3 (some .boolean) (d + 4) [.ref 70, .int a2] h 0 0 (fun r h' => ∃ v : Int32, r = some (.int v) ∧ 0 ≤ v.toInt ∧ v.toInt ≤ 1 ∧ h = h' ∧ (v.toInt = 1 → V h.2.1 77 (V h.2.1 93 (40 * (h.2.1 70 6).toInt + a2.toInt)) = 2 ∨ V h.2.1 77 (V h.2.1 93 (40 * (h.2.1 70 6).toInt + a2.toInt)) = 3 ∨ V h.2.1 77 (V h.2.1 93 (40 * (h.2.1 70 6).toInt + a2.toInt)) = 4 ∨ V h.2.1 77 (V h.2.1 93 (40 * (h.2.1 70 6).toInt + a2.toInt)) = 5 ∨ (V h.2.1 77 (V h.2.1 93 (40 * (h.2.1 70 6).toInt + a2.toInt)) = 1 ∧ V h.2.1 102 (5 * (h.2.1 70 6).toInt + V h.2.1 84 (V h.2.1 93 (40 * (h.2.1 70 6).toInt + a2.toInt))) = 1)) ∧ (v.toInt = f_X8_decides_x2 (st h) a2.toInt)) := by
  refine Mt_iv hv (by decide) (Nat.le_of_ble_eq_true rfl) ?_
  show Go l RX8 cX8_decides 3 (g_rm (d + 4) 0 0) "decides" (some .boolean) 117 0 0 (fun _ _ => True) (fun r h' => ∃ v : Int32, r = some (.int v) ∧ 0 ≤ v.toInt ∧ v.toInt ≤ 1 ∧ h = h' ∧ (v.toInt = 1 → V h.2.1 77 (V h.2.1 93 (40 * (h.2.1 70 6).toInt + a2.toInt)) = 2 ∨ V h.2.1 77 (V h.2.1 93 (40 * (h.2.1 70 6).toInt + a2.toInt)) = 3 ∨ V h.2.1 77 (V h.2.1 93 (40 * (h.2.1 70 6).toInt + a2.toInt)) = 4 ∨ V h.2.1 77 (V h.2.1 93 (40 * (h.2.1 70 6).toInt + a2.toInt)) = 5 ∨ (V h.2.1 77 (V h.2.1 93 (40 * (h.2.1 70 6).toInt + a2.toInt)) = 1 ∧ V h.2.1 102 (5 * (h.2.1 70 6).toInt + V h.2.1 84 (V h.2.1 93 (40 * (h.2.1 70 6).toInt + a2.toInt))) = 1)) ∧ (v.toInt = f_X8_decides_x2 (st h) a2.toInt)) 0 0 [(0, .ref 70), (1, .int a2)] [] h
  obtain ⟨S, hS⟩ : ∃ S : Int, S = (h.2.1 70 6).toInt := ⟨_, rfl⟩
  have S0 : 0 ≤ S := by rw [hS]; exact (hv.2.1 70 6).1
  have S1 : S ≤ 1 := by rw [hS]; exact (hv.2.1 70 6).2
  obtain ⟨fin, kf⟩ : ∃ z, z = f_X8_decides_x2 (st h) a2.toInt := ⟨_, _root_.rfl⟩
  have k0 := kf
  unfold f_X8_decides_x2 at k0
  refine go_aload_n (pc := 0) rfl dX8_decides_0 ?_
  refine go_iload_n (pc := 1) rfl dX8_decides_1 ?_
  refine go_invV (pc := 2) (sl := 0) (s_X8_kindAt2_f l (d + 1) hv a2 (by rw [show (a2 : Int32).toInt = a2.toInt from (ti_rfl a2)]; omega) (by rw [show (a2 : Int32).toInt = a2.toInt from (ti_rfl a2)]; omega)) mL_X8_271 iM_X8_kindAt sM_X8_kindAt (hv.sh rfl) rfl rfl rfl (Nat.le_of_ble_eq_true rfl) (show d + 1 + 2 + 1 ≤ d + 4 by omega) (show 8 + (2 + 11) + 40 * (d + 1 + 2) ≤ 40 * (d + 4) by omega) (g_c0 hv.ln) (Nat.le_of_ble_eq_true rfl) dX8_decides_2 ?_
  intro r h1 hq _
  obtain ⟨v4, rfl, v4l, v4u, rfl, f2, f3⟩ := hq
  have v4K : v4.toInt = V h.2.1 77 (V h.2.1 93 (40 * S + a2.toInt)) := by rw [f2]; unfold g_kd g_it; rw [← hS]; rfl
  replace f3 : PE _ _ := f3
  have k5 := bd_e k0 f3.symm
  refine go_istore_n (pc := 5) (Nat.le_of_ble_eq_true rfl) dX8_decides_5 (go_lv (lv2 := [(0, .ref 70), (1, .int a2), (2, .int v4)]) rfl ?_)
  refine go_iload_n (pc := 6) rfl dX8_decides_6 ?_
  refine go_iconst (pc := 7) (v := 2) (by decide) dX8_decides_7 ?_
  refine gf_icmp_eq (pc := 8) (tgt := 34) (ti_rfl v4) (ti_c (v := 2) (a := 2) (by decide)) (by decide) dX8_decides_8 (fun q6 => ?_) (fun q6 => ?_)
  ·
    have k7 := if_t k5 q6
    refine go_iconst (pc := 34) (v := 1) (by decide) dX8_decides_34 ?_
    refine go_goto (pc := 35) (tgt := 39) (by decide) dX8_decides_35 ?_
    exact gi_zret (pc := 39) (ti_c (v := 1) (a := 1) (by decide)) (by omega) (by omega) ⟨_, rfl, (by rw [show (1 : Int32).toInt = 1 from (ti_c (v := 1) (a := 1) (by decide))]; omega), (by rw [show (1 : Int32).toInt = 1 from (ti_c (v := 1) (a := 1) (by decide))]; omega), rfl, (by rw [← hS]; exact fun _ => by omega), (by rw [show (1 : Int32).toInt = 1 from (ti_c (v := 1) (a := 1) (by decide))]; exact k7.symm.trans kf)⟩ hv dX8_decides_39
  ·
    have k8 := if_f k5 q6
    refine go_iload_n (pc := 11) rfl dX8_decides_11 ?_
    refine go_iconst (pc := 12) (v := 3) (by decide) dX8_decides_12 ?_
    refine gf_icmp_eq (pc := 13) (tgt := 34) (ti_rfl v4) (ti_c (v := 3) (a := 3) (by decide)) (by decide) dX8_decides_13 (fun q9 => ?_) (fun q9 => ?_)
    ·
      have k10 := if_t k8 q9
      refine go_iconst (pc := 34) (v := 1) (by decide) dX8_decides_34 ?_
      refine go_goto (pc := 35) (tgt := 39) (by decide) dX8_decides_35 ?_
      exact gi_zret (pc := 39) (ti_c (v := 1) (a := 1) (by decide)) (by omega) (by omega) ⟨_, rfl, (by rw [show (1 : Int32).toInt = 1 from (ti_c (v := 1) (a := 1) (by decide))]; omega), (by rw [show (1 : Int32).toInt = 1 from (ti_c (v := 1) (a := 1) (by decide))]; omega), rfl, (by rw [← hS]; exact fun _ => by omega), (by rw [show (1 : Int32).toInt = 1 from (ti_c (v := 1) (a := 1) (by decide))]; exact k10.symm.trans kf)⟩ hv dX8_decides_39
    ·
      have k11 := if_f k8 q9
      refine go_iload_n (pc := 16) rfl dX8_decides_16 ?_
      refine go_iconst (pc := 17) (v := 5) (by decide) dX8_decides_17 ?_
      refine gf_icmp_eq (pc := 18) (tgt := 34) (ti_rfl v4) (ti_c (v := 5) (a := 5) (by decide)) (by decide) dX8_decides_18 (fun q12 => ?_) (fun q12 => ?_)
      ·
        have k13 := if_t k11 q12
        refine go_iconst (pc := 34) (v := 1) (by decide) dX8_decides_34 ?_
        refine go_goto (pc := 35) (tgt := 39) (by decide) dX8_decides_35 ?_
        exact gi_zret (pc := 39) (ti_c (v := 1) (a := 1) (by decide)) (by omega) (by omega) ⟨_, rfl, (by rw [show (1 : Int32).toInt = 1 from (ti_c (v := 1) (a := 1) (by decide))]; omega), (by rw [show (1 : Int32).toInt = 1 from (ti_c (v := 1) (a := 1) (by decide))]; omega), rfl, (by rw [← hS]; exact fun _ => by omega), (by rw [show (1 : Int32).toInt = 1 from (ti_c (v := 1) (a := 1) (by decide))]; exact k13.symm.trans kf)⟩ hv dX8_decides_39
      ·
        have k14 := if_f k11 q12
        refine go_iload_n (pc := 21) rfl dX8_decides_21 ?_
        refine go_iconst (pc := 22) (v := 4) (by decide) dX8_decides_22 ?_
        refine gf_icmp_eq (pc := 23) (tgt := 34) (ti_rfl v4) (ti_c (v := 4) (a := 4) (by decide)) (by decide) dX8_decides_23 (fun q15 => ?_) (fun q15 => ?_)
        ·
          have k16 := if_t k14 q15
          refine go_iconst (pc := 34) (v := 1) (by decide) dX8_decides_34 ?_
          refine go_goto (pc := 35) (tgt := 39) (by decide) dX8_decides_35 ?_
          exact gi_zret (pc := 39) (ti_c (v := 1) (a := 1) (by decide)) (by omega) (by omega) ⟨_, rfl, (by rw [show (1 : Int32).toInt = 1 from (ti_c (v := 1) (a := 1) (by decide))]; omega), (by rw [show (1 : Int32).toInt = 1 from (ti_c (v := 1) (a := 1) (by decide))]; omega), rfl, (by rw [← hS]; exact fun _ => by omega), (by rw [show (1 : Int32).toInt = 1 from (ti_c (v := 1) (a := 1) (by decide))]; exact k16.symm.trans kf)⟩ hv dX8_decides_39
        ·
          have k17 := if_f k14 q15
          refine go_aload_n (pc := 26) rfl dX8_decides_26 ?_
          refine go_iload_n (pc := 27) rfl dX8_decides_27 ?_
          have sM18 : (h.2.1 70 6).toInt = S := by rw [hv.fy (j := 6) (by omega), ← hv.fy (j := 6) (by omega)]; exact hS.symm
          refine go_invV (pc := 28) (sl := 0) (s_X8_isThrowing_x2_f l (d + 0) hv a2 (by rw [show (a2 : Int32).toInt = a2.toInt from (ti_rfl a2)]; omega) (by rw [show (a2 : Int32).toInt = a2.toInt from (ti_rfl a2)]; omega) ckf) mL_X8_277 iM_X8_isThrowing sM_X8_isThrowing (hv.sh rfl) rfl rfl rfl (Nat.le_of_ble_eq_true rfl) (show d + 0 + 3 + 1 ≤ d + 4 by omega) (show 8 + (2 + 11) + 40 * (d + 0 + 3) ≤ 40 * (d + 4) by omega) (g_c0 hv.ln) (Nat.le_of_ble_eq_true rfl) dX8_decides_28 ?_
          intro r h19 hq _
          obtain ⟨v22, rfl, v22l, v22u, rfl, f20, f21⟩ := hq
          rw [sM18] at f20
          replace f21 : PE _ _ := f21
          have k23 := bd_e k17 f21.symm
          refine gf_if_eq (pc := 31) (tgt := 38) (ti_rfl v22) (by decide) dX8_decides_31 (fun q24 => ?_) (fun q24 => ?_)
          ·
            have k25 := if_t k23 q24
            refine go_iconst (pc := 38) (v := 0) (by decide) dX8_decides_38 ?_
            exact gi_zret (pc := 39) (ti_c (v := 0) (a := 0) (by decide)) (by omega) (by omega) ⟨_, rfl, (by rw [show (0 : Int32).toInt = 0 from (ti_c (v := 0) (a := 0) (by decide))]; omega), (by rw [show (0 : Int32).toInt = 0 from (ti_c (v := 0) (a := 0) (by decide))]; omega), rfl, (fun q => absurd q (by decide)), (by rw [show (0 : Int32).toInt = 0 from (ti_c (v := 0) (a := 0) (by decide))]; exact k25.symm.trans kf)⟩ hv dX8_decides_39
          ·
            have k26 := if_f k23 q24
            refine go_iconst (pc := 34) (v := 1) (by decide) dX8_decides_34 ?_
            refine go_goto (pc := 35) (tgt := 39) (by decide) dX8_decides_35 ?_
            exact gi_zret (pc := 39) (ti_c (v := 1) (a := 1) (by decide)) (by omega) (by omega) ⟨_, rfl, (by rw [show (1 : Int32).toInt = 1 from (ti_c (v := 1) (a := 1) (by decide))]; omega), (by rw [show (1 : Int32).toInt = 1 from (ti_c (v := 1) (a := 1) (by decide))]; omega), rfl, (by rw [← hS]; exact fun _ => by omega), (by rw [show (1 : Int32).toInt = 1 from (ti_c (v := 1) (a := 1) (by decide))]; exact k26.symm.trans kf)⟩ hv dX8_decides_39
noncomputable def f_X8_laysWay2_ : Nat → Nat → Int → Int → Int64 → Int → Int → ST → ST
  | 0, _, _, _, _, _, _, sx => sx
  | n + 1, lab, l1, l2, l3L, l5, l3, sx => if lab = 2 then (if 40 ≤ l1 then (f_X8_laysWay2_ n 25 1 0 0 0 0 sx) else (bd (sL sx 106 (l1).toNat ((-1) : Int64)) fun s5 => f_X8_laysWay2_ n 2 ((l1 + 1)) 0 0 0 0 s5)) else if lab = 25 then (if l1 = 0 then (f_X8_laysWay2_ n 126 0 0 0 0 0 sx) else (f_X8_laysWay2_ n 33 0 0 0 0 0 sx)) else if lab = 33 then (bd (sx.1 70 6) fun v16 => bd (sx.1 75 (v16).toNat) fun v18 => if v18 ≤ l2 then (f_X8_laysWay2_ n 25 l1 0 0 0 0 sx) else (bd (f_X8_wayOf_x2 sx l2 0) fun v27 => bd (f_X8_onAllFrom_x2 sx v27) fun v32 => bd (f_X8_wayOf_x2 sx l2 1) fun v38 => if v38 = (-2) then (bd (o_lshl (1 : Int64) l2) fun v42 => bd (o_lor v32 v42) fun v44 => if ¬ l1 = 0 then (bd (sL sx 106 (l2).toNat v44) fun s48 => f_X8_laysWay2_ n 33 1 ((l2 + 1)) 0 0 0 s48) else (bd (sx.2.1 106 (l2).toNat) fun v55 => bd (o_lcmp v44 v55) fun v57 => if v57 = 0 then (bd (sL sx 106 (l2).toNat v44) fun s61 => f_X8_laysWay2_ n 33 0 ((l2 + 1)) 0 0 0 s61) else (bd (sL sx 106 (l2).toNat v44) fun s68 => f_X8_laysWay2_ n 33 1 ((l2 + 1)) 0 0 0 s68))) else (bd (f_X8_wayOf_x2 sx l2 1) fun v79 => bd (f_X8_onAllFrom_x2 sx v79) fun v84 => bd (o_land v32 v84) fun v86 => bd (o_lshl (1 : Int64) l2) fun v88 => bd (o_lor v86 v88) fun v90 => if ¬ l1 = 0 then (bd (sL sx 106 (l2).toNat v90) fun s94 => f_X8_laysWay2_ n 33 1 ((l2 + 1)) 0 0 0 s94) else (bd (sx.2.1 106 (l2).toNat) fun v101 => bd (o_lcmp v90 v101) fun v103 => if v103 = 0 then (bd (sL sx 106 (l2).toNat v90) fun s107 => f_X8_laysWay2_ n 33 0 ((l2 + 1)) 0 0 0 s107) else (bd (sL sx 106 (l2).toNat v90) fun s114 => f_X8_laysWay2_ n 33 1 ((l2 + 1)) 0 0 0 s114))))) else if lab = 126 then (bd (sx.1 70 6) fun v120 => bd (sx.1 75 (v120).toNat) fun v122 => if v122 ≤ l2 then (f_X8_laysWay2_ n 154 0 0 0 0 0 sx) else (bd (sL sx 105 (l2).toNat (0 : Int64)) fun s128 => f_X8_laysWay2_ n 126 0 ((l2 + 1)) 0 0 0 s128)) else if lab = 154 then (bd (sx.1 70 6) fun v133 => bd (sx.1 75 (v133).toNat) fun v135 => if v135 ≤ l2 then (f_X8_laysWay2_ n 285 0 0 0 0 0 sx) else (bd (f_X8_decides_x2 sx l2) fun v145 => if ¬ v145 = 0 then (bd (f_X8_wayOf_x2 sx l2 0) fun v153 => bd (f_X8_onAllFrom_x2 sx v153) fun v158 => bd (f_X8_wayOf_x2 sx l2 1) fun v164 => bd (f_X8_onAllFrom_x2 sx v164) fun v169 => bd (o_lxor v158 v169) fun v171 => f_X8_laysWay2_ n 203 0 l2 v171 0 0 sx) else (f_X8_laysWay2_ n 154 0 ((l2 + 1)) 0 0 0 sx))) else if lab = 203 then (bd (sx.1 70 6) fun v178 => bd (sx.1 75 (v178).toNat) fun v180 => if v180 ≤ l5 then (f_X8_laysWay2_ n 154 0 ((l2 + 1)) 0 0 0 sx) else (bd (f_X8_has2 sx l3L l5) fun v190 => if ¬ v190 = 0 then (bd (sx.2.1 105 (l5).toNat) fun v194 => bd (o_lshl (1 : Int64) l2) fun v196 => bd (o_lor v194 v196) fun v198 => bd (sL sx 105 (l5).toNat v198) fun s200 => bd (f_X8_statementPlace2 s200 l5 0) fun v204 => bd (f_X8_kindAt2 s200 l2) fun v209 => if ¬ v209 = 1 then (bd (f_X8_statementPlace2 s200 l2 0) fun v215 => bd (f_X8_hang2 s200 v204 v215) fun s217 => f_X8_laysWay2_ n 203 0 l2 l3L ((l5 + 1)) 0 s217) else (bd (f_X8_statementPlace2 s200 l2 8) fun v227 => bd (f_X8_hang2 s200 v204 v227) fun s229 => f_X8_laysWay2_ n 203 0 l2 l3L ((l5 + 1)) 0 s229)) else (f_X8_laysWay2_ n 203 0 l2 l3L ((l5 + 1)) 0 sx))) else if lab = 285 then (bd (sx.1 70 6) fun v240 => bd (sx.1 76 (v240).toNat) fun v242 => if v242 ≤ l2 then (f_X8_laysWay2_ n 377 0 0 0 0 0 sx) else (bd (sx.1 100 (((5 * v240) + l2)).toNat) fun v253 => bd (f_X8_onAllFrom_x2 sx v253) fun v258 => bd (sL sx 107 (l2).toNat v258) fun s260 => f_X8_laysWay2_ n 323 0 l2 0 0 0 s260)) else if lab = 323 then (bd (sx.1 70 6) fun v263 => bd (sx.1 75 (v263).toNat) fun v265 => if v265 ≤ l3 then (f_X8_laysWay2_ n 285 0 ((l2 + 1)) 0 0 0 sx) else (bd (sx.2.1 107 (l2).toNat) fun v273 => bd (f_X8_has2 sx v273 l3) fun v277 => if v277 = 0 then (f_X8_laysWay2_ n 323 0 l2 0 0 ((l3 + 1)) sx) else (bd (f_X8_statementPlace2 sx l3 0) fun v287 => bd (f_X8_procedurePlace2 sx l2 0) fun v291 => bd (f_X8_hang2 sx v287 v291) fun s293 => f_X8_laysWay2_ n 323 0 l2 0 0 ((l3 + 1)) s293))) else if lab = 377 then (bd (sx.1 70 6) fun v300 => bd (sx.1 75 (v300).toNat) fun v302 => if v302 ≤ l2 then (sx) else (f_X8_laysWay2_ n 392 0 l2 0 0 1 sx)) else if 13 ≤ l3 then (f_X8_laysWay2_ n 377 0 ((l2 + 1)) 0 0 0 sx) else (bd (f_X8_kindAt2 sx l2) fun v317 => if ¬ v317 = 1 then (f_X8_laysWay2_ n 377 0 ((l2 + 1)) 0 0 0 sx) else (bd (f_X8_statementPlace2 sx l2 l3) fun v327 => bd (f_X8_statementPlace2 sx l2 0) fun v331 => bd (f_X8_hang2 sx v327 v331) fun s333 => f_X8_laysWay2_ n 392 0 l2 0 0 ((l3 + 1)) s333))
noncomputable def f_X8_laysWay2 (s : ST) : ST :=
  f_X8_laysWay2_ (BG 2000000000000000000000001) 2 0 0 0 0 0 s
set_option maxHeartbeats 4000000 in
set_option maxRecDepth 100000 in
theorem s_X8_laysWay2_f (l : Launch) (d : Nat) {P : PP} {h : HP} (hv : Iv P h) (ckf : CKF h.2.1) (hwi : WI h.2.1 (h.2.1 70 6).toInt) : Mt l yX8_laysWay cX8_laysWay 6 none (d + 6) [.ref 70] h 0 0 (fun r h' => r = none ∧ Iv P h' ∧ (st h' = f_X8_laysWay2 (st h)) ∧ (FX KAr h h')) := by
  refine Mt_iv hv (by decide) (Nat.le_of_ble_eq_true rfl) ?_
  show Go l RX8 cX8_laysWay 6 (g_rm (d + 6) 0 0) "laysWay" none 117 0 0 (fun _ _ => True) (fun r h' => r = none ∧ Iv P h' ∧ (st h' = f_X8_laysWay2 (st h)) ∧ (FX KAr h h')) 0 0 [(0, .ref 70)] [] h
  obtain ⟨S, hS⟩ : ∃ S : Int, S = (h.2.1 70 6).toInt := ⟨_, rfl⟩
  have S0 : 0 ≤ S := by rw [hS]; exact (hv.2.1 70 6).1
  have S1 : S ≤ 1 := by rw [hS]; exact (hv.2.1 70 6).2
  rw [← hS] at hwi
  have fx : FX KAr h h := FX.rfl
  obtain ⟨fin, kf⟩ : ∃ z, z = f_X8_laysWay2 (st h) := ⟨_, _root_.rfl⟩
  have k0 := kf
  unfold f_X8_laysWay2 at k0
  have key : ∀ n : Nat, (∀ (l1 : Int32) (hx : HP), Iv P hx → 0 ≤ l1.toInt → l1.toInt ≤ 40 → (∀ j : Nat, (j : Int) < l1.toInt → hx.2.2.1 106 j = -1) → FX KAr h hx → fin = f_X8_laysWay2_ n 2 l1.toInt 0 0 0 0 (st hx) → (1000000000000000000000000 + (40 - l1.toInt) : Int) < n → Go l RX8 cX8_laysWay 6 (g_rm (d + 6) 0 0) "laysWay" none 117 0 0 (fun _ _ => True) (fun r h' => r = none ∧ Iv P h' ∧ (st h' = f_X8_laysWay2 (st h)) ∧ (FX KAr h h')) 0 2 [(0, .ref 70), (1, .int l1)] [] hx) ∧ (∀ (l1 : Int32) (hx : HP), Iv P hx → 0 ≤ l1.toInt → l1.toInt ≤ 1 → (SH h.2.1 hx.2.2.1 S) → (0 ≤ uu hx.2.2.1 ∧ uu hx.2.2.1 ≤ 40 * 18446744073709551616) → FX KAr h hx → fin = f_X8_laysWay2_ n 25 l1.toInt 0 0 0 0 (st hx) → (1000 * uu hx.2.2.1 + 1000 * l1.toInt + 100000 : Int) < n → Go l RX8 cX8_laysWay 6 (g_rm (d + 6) 0 0) "laysWay" none 117 0 0 (fun _ _ => True) (fun r h' => r = none ∧ Iv P h' ∧ (st h' = f_X8_laysWay2 (st h)) ∧ (FX KAr h h')) 0 25 [(0, .ref 70), (1, .int l1)] [] hx) ∧ (∀ (l1 : Int32) (l2 : Int32) (hx : HP), Iv P hx → 0 ≤ l1.toInt → l1.toInt ≤ 1 → 0 ≤ l2.toInt → l2.toInt ≤ 40 → (SH h.2.1 hx.2.2.1 S) → (0 ≤ uu hx.2.2.1 ∧ uu hx.2.2.1 ≤ 40 * 18446744073709551616) → FX KAr h hx → fin = f_X8_laysWay2_ n 33 l1.toInt l2.toInt 0 0 0 (st hx) → (1000 * uu hx.2.2.1 + 1000 * l1.toInt + 100100 + 10 * (40 - l2.toInt) : Int) < n → Go l RX8 cX8_laysWay 6 (g_rm (d + 6) 0 0) "laysWay" none 117 0 0 (fun _ _ => True) (fun r h' => r = none ∧ Iv P h' ∧ (st h' = f_X8_laysWay2 (st h)) ∧ (FX KAr h h')) 0 33 [(0, .ref 70), (1, .int l1), (2, .int l2)] [] hx) ∧ (∀ (l2 : Int32) (hx : HP), Iv P hx → 0 ≤ l2.toInt → l2.toInt ≤ 40 → FX KAr h hx → fin = f_X8_laysWay2_ n 126 0 l2.toInt 0 0 0 (st hx) → (50000 + (40 - l2.toInt) : Int) < n → Go l RX8 cX8_laysWay 6 (g_rm (d + 6) 0 0) "laysWay" none 117 0 0 (fun _ _ => True) (fun r h' => r = none ∧ Iv P h' ∧ (st h' = f_X8_laysWay2 (st h)) ∧ (FX KAr h h')) 0 126 [(0, .ref 70), (2, .int l2)] [] hx) ∧ (∀ (l2 : Int32) (hx : HP), Iv P hx → 0 ≤ l2.toInt → l2.toInt ≤ 40 → FX KAr h hx → fin = f_X8_laysWay2_ n 154 0 l2.toInt 0 0 0 (st hx) → (10000 + 100 * (40 - l2.toInt) + 50 : Int) < n → Go l RX8 cX8_laysWay 6 (g_rm (d + 6) 0 0) "laysWay" none 117 0 0 (fun _ _ => True) (fun r h' => r = none ∧ Iv P h' ∧ (st h' = f_X8_laysWay2 (st h)) ∧ (FX KAr h h')) 0 154 [(0, .ref 70), (2, .int l2)] [] hx) ∧ (∀ (l2 : Int32) (l3 : Int64) (l5 : Int32) (hx : HP), Iv P hx → 0 ≤ l2.toInt → l2.toInt ≤ 39 → 0 ≤ l5.toInt → l5.toInt ≤ 40 → FX KAr h hx → fin = f_X8_laysWay2_ n 203 0 l2.toInt l3 l5.toInt 0 (st hx) → (10000 + 100 * (40 - l2.toInt) + (40 - l5.toInt) : Int) < n → Go l RX8 cX8_laysWay 6 (g_rm (d + 6) 0 0) "laysWay" none 117 0 0 (fun _ _ => True) (fun r h' => r = none ∧ Iv P h' ∧ (st h' = f_X8_laysWay2 (st h)) ∧ (FX KAr h h')) 0 203 [(0, .ref 70), (2, .int l2), (3, .long l3), (5, .int l5)] [] hx) ∧ (∀ (l2 : Int32) (hx : HP), Iv P hx → 0 ≤ l2.toInt → l2.toInt ≤ 5 → FX KAr h hx → fin = f_X8_laysWay2_ n 285 0 l2.toInt 0 0 0 (st hx) → (2000 + 100 * (5 - l2.toInt) + 50 : Int) < n → Go l RX8 cX8_laysWay 6 (g_rm (d + 6) 0 0) "laysWay" none 117 0 0 (fun _ _ => True) (fun r h' => r = none ∧ Iv P h' ∧ (st h' = f_X8_laysWay2 (st h)) ∧ (FX KAr h h')) 0 285 [(0, .ref 70), (2, .int l2)] [] hx) ∧ (∀ (l2 : Int32) (l3 : Int32) (hx : HP), Iv P hx → 0 ≤ l2.toInt → l2.toInt ≤ 4 → 0 ≤ l3.toInt → l3.toInt ≤ 40 → FX KAr h hx → fin = f_X8_laysWay2_ n 323 0 l2.toInt 0 0 l3.toInt (st hx) → (2000 + 100 * (5 - l2.toInt) + (40 - l3.toInt) : Int) < n → Go l RX8 cX8_laysWay 6 (g_rm (d + 6) 0 0) "laysWay" none 117 0 0 (fun _ _ => True) (fun r h' => r = none ∧ Iv P h' ∧ (st h' = f_X8_laysWay2 (st h)) ∧ (FX KAr h h')) 0 323 [(0, .ref 70), (2, .int l2), (3, .int l3)] [] hx) ∧ (∀ (l2 : Int32) (hx : HP), Iv P hx → 0 ≤ l2.toInt → l2.toInt ≤ 40 → FX KAr h hx → fin = f_X8_laysWay2_ n 377 0 l2.toInt 0 0 0 (st hx) → (20 * (40 - l2.toInt) + 19 : Int) < n → Go l RX8 cX8_laysWay 6 (g_rm (d + 6) 0 0) "laysWay" none 117 0 0 (fun _ _ => True) (fun r h' => r = none ∧ Iv P h' ∧ (st h' = f_X8_laysWay2 (st h)) ∧ (FX KAr h h')) 0 377 [(0, .ref 70), (2, .int l2)] [] hx) ∧ (∀ (l2 : Int32) (l3 : Int32) (hx : HP), Iv P hx → 0 ≤ l2.toInt → l2.toInt ≤ 39 → 1 ≤ l3.toInt → l3.toInt ≤ 13 → FX KAr h hx → fin = f_X8_laysWay2_ n 392 0 l2.toInt 0 0 l3.toInt (st hx) → (20 * (40 - l2.toInt) + (13 - l3.toInt) : Int) < n → Go l RX8 cX8_laysWay 6 (g_rm (d + 6) 0 0) "laysWay" none 117 0 0 (fun _ _ => True) (fun r h' => r = none ∧ Iv P h' ∧ (st h' = f_X8_laysWay2 (st h)) ∧ (FX KAr h h')) 0 392 [(0, .ref 70), (2, .int l2), (3, .int l3)] [] hx) := by
    intro n
    induction n with
    | zero => exact ⟨(by intros; omega), (by intros; omega), (by intros; omega), (by intros; omega), (by intros; omega), (by intros; omega), (by intros; omega), (by intros; omega), (by intros; omega), (by intros; omega)⟩
    | succ n ih =>
      refine ⟨?_, ?_, ?_, ?_, ?_, ?_, ?_, ?_, ?_, ?_⟩
      ·
        intro l1 hx hvx l1l l1u x0 fxx kL hm
        rw [f_X8_laysWay2_] at kL
        replace kL := if_t kL _root_.rfl
        have n75 : V h.2.1 75 S ≤ 40 := (hv.2.1 75 _).2
        have uuz := uu_hi hx.2.2.1
        refine go_iload_n (pc := 2) rfl dX8_laysWay_2 ?_
        refine go_bipush (pc := 3) (v := 40) (by decide) dX8_laysWay_3 ?_
        refine gf_icmp_ge (pc := 5) (tgt := 23) (ti_rfl l1) (ti_c (v := 40) (a := 40) (by decide)) (by decide) dX8_laysWay_5 (fun q1 => ?_) (fun q1 => ?_)
        ·
          have k2 := if_t kL q1
          refine go_iconst (pc := 23) (v := 1) (by decide) dX8_laysWay_23 ?_
          refine go_istore_n (pc := 24) (Nat.le_of_ble_eq_true rfl) dX8_laysWay_24 (go_lv (lv2 := [(0, .ref 70), (1, .int 1)]) rfl ?_)
          have z3 : (1 : Int32).toInt = 1 := (ti_c (v := 1) (a := 1) (by decide))
          exact go_lv rfl (ih.2.1 1 hx hvx (by omega) (by omega) (SH.init (fun j q => x0 j (by omega)) n75) (uu_hi _) fxx (by rw [show (1 : Int32).toInt = 1 from (ti_c (v := 1) (a := 1) (by decide))]; exact k2) (by omega))
        ·
          have k4 := if_f kL (Int.not_le.mpr q1)
          refine go_aload_n (pc := 8) rfl dX8_laysWay_8 ?_
          refine gi_getF (pc := 9) (q := 106) hvx fL_X8_118 rfl (Nat.le_of_ble_eq_true rfl) rfl (hvx.rf (by decide)) dX8_laysWay_9 ?_
          refine go_iload_n (pc := 12) rfl dX8_laysWay_12 ?_
          refine go_ldc2 (pc := 13) kL_X8_329 dX8_laysWay_13 ?_
          refine gi_last (pc := 16) (len := 40) hvx (ti_rfl l1) rfl (by omega) (by omega) dX8_laysWay_16 (fun h5 hv5 hv5e => ?_)
          have fx5 : FX KAr h h5 := FX.pL fxx hv5e (by unfold KAr; omega)
          have k6 := bd_e k4 (st_L hv5e)
          refine gf_iinc (pc := 17) (Nat.le_of_ble_eq_true rfl) rfl (ti_rfl l1) (ti_c (by decide)) (by omega) (by omega) dX8_laysWay_17 (fun v7 e8 => ?_)
          refine go_lv (lv2 := [(0, .ref 70), (1, .int v7)]) rfl ?_
          refine go_goto (pc := 20) (tgt := 2) (by decide) dX8_laysWay_20 ?_
          have z9 : (v7 : Int32).toInt = (l1.toInt + 1) := e8
          exact go_lv rfl (ih.1 v7 h5 hv5 (by omega) (by omega) (fun j q => by rw [hv5e]; show (if 106 = 106 ∧ j = (l1.toInt).toNat then -1 else hx.2.2.1 106 j) = -1; by_cases w : j = (l1.toInt).toNat; (rw [if_pos ⟨rfl, w⟩]); (rw [if_neg (by omega)]; exact x0 j (by omega))) fx5 (by rw [show (v7 : Int32).toInt = (l1.toInt + 1) from e8]; exact k6) (by omega))
      ·
        intro l1 hx hvx l1l l1u x0 x1 fxx kL hm
        rw [f_X8_laysWay2_] at kL
        replace kL := if_f kL (by decide)
        replace kL := if_t kL _root_.rfl
        refine go_iload_n (pc := 25) rfl dX8_laysWay_25 ?_
        refine gf_if_eq (pc := 26) (tgt := 124) (ti_rfl l1) (by decide) dX8_laysWay_26 (fun q10 => ?_) (fun q10 => ?_)
        ·
          have k11 := if_t kL q10
          refine go_iconst (pc := 124) (v := 0) (by decide) dX8_laysWay_124 ?_
          refine go_istore_n (pc := 125) (Nat.le_of_ble_eq_true rfl) dX8_laysWay_125 (go_lv (lv2 := [(0, .ref 70), (1, .int l1), (2, .int 0)]) rfl ?_)
          have z12 : (0 : Int32).toInt = 0 := (ti_c (v := 0) (a := 0) (by decide))
          exact go_lv rfl (ih.2.2.2.1 0 hx hvx (by omega) (by omega) fxx (by rw [show (0 : Int32).toInt = 0 from (ti_c (v := 0) (a := 0) (by decide))]; exact k11) (by omega))
        ·
          have k13 := if_f kL q10
          refine go_iconst (pc := 29) (v := 0) (by decide) dX8_laysWay_29 ?_
          refine go_istore_n (pc := 30) (Nat.le_of_ble_eq_true rfl) dX8_laysWay_30 (go_lv (lv2 := [(0, .ref 70), (1, .int 0)]) rfl ?_)
          refine go_iconst (pc := 31) (v := 0) (by decide) dX8_laysWay_31 ?_
          refine go_istore_n (pc := 32) (Nat.le_of_ble_eq_true rfl) dX8_laysWay_32 (go_lv (lv2 := [(0, .ref 70), (1, .int 0), (2, .int 0)]) rfl ?_)
          have z14 : (0 : Int32).toInt = 0 := (ti_c (v := 0) (a := 0) (by decide))
          have z15 : (0 : Int32).toInt = 0 := (ti_c (v := 0) (a := 0) (by decide))
          exact go_lv rfl (ih.2.2.1 0 0 hx hvx (by omega) (by omega) (by omega) (by omega) x0 (uu_hi _) fxx (by rw [show (0 : Int32).toInt = 0 from (ti_c (v := 0) (a := 0) (by decide))]; exact k13) (by omega))
      ·
        intro l1 l2 hx hvx l1l l1u l2l l2u x0 x1 fxx kL hm
        rw [f_X8_laysWay2_] at kL
        replace kL := if_f kL (by decide)
        replace kL := if_f kL (by decide)
        replace kL := if_t kL _root_.rfl
        refine go_iload_n (pc := 33) rfl dX8_laysWay_33 ?_
        refine go_aload_n (pc := 34) rfl dX8_laysWay_34 ?_
        refine gi_getF (pc := 35) (q := 75) hvx fL_X8_23 rfl (Nat.le_of_ble_eq_true rfl) rfl (hvx.rf (by decide)) dX8_laysWay_35 ?_
        refine go_aload_n (pc := 38) rfl dX8_laysWay_38 ?_
        refine gi_get (pc := 39) (lo := 0) (hi := 1) hvx fL_X8_187 rfl (Nat.le_of_ble_eq_true rfl) rfl rfl dX8_laysWay_39 (fun v16 v16l v16u v16w => ?_)
        have k17 := bd_e kL (congrArg Int32.toInt v16w.symm)
        have v16S : v16.toInt = S := by rw [v16w, hvx.fy (j := 6) (by omega), ← hv.fy (j := 6) (by omega)]; exact hS.symm
        refine gi_iald (pc := 42) (lo := 0) (hi := 40) (len := 2) hvx (ti_rfl v16) rfl (by omega) (by omega) (fun _ => rfl) dX8_laysWay_42 (fun v18 v18l v18u v18w => ?_)
        have k19 := bd_e k17 (congrArg Int32.toInt v18w.symm)
        have v18V : v18.toInt = V h.2.1 75 S := by rw [v18w, v16S, hvx.fz (c := 75) (by omega) (by omega), ← hv.fz (c := 75) (by omega) (by omega)]; rfl
        refine gf_icmp_ge (pc := 43) (tgt := 121) (ti_rfl l2) (ti_rfl v18) (by decide) dX8_laysWay_43 (fun q20 => ?_) (fun q20 => ?_)
        ·
          have k21 := if_t k19 q20
          refine go_goto (pc := 121) (tgt := 25) (by decide) dX8_laysWay_121 ?_
          exact go_lv rfl (ih.2.1 l1 hx hvx (by omega) (by omega) x0 (uu_hi _) fxx k21 (by omega))
        ·
          have k22 := if_f k19 (Int.not_le.mpr q20)
          refine go_aload_n (pc := 46) rfl dX8_laysWay_46 ?_
          refine go_aload_n (pc := 47) rfl dX8_laysWay_47 ?_
          refine go_iload_n (pc := 48) rfl dX8_laysWay_48 ?_
          refine go_iconst (pc := 49) (v := 0) (by decide) dX8_laysWay_49 ?_
          have sM23 : (hx.2.1 70 6).toInt = S := by rw [hvx.fy (j := 6) (by omega), ← hv.fy (j := 6) (by omega)]; exact hS.symm
          refine go_invV (pc := 50) (sl := 0) (s_X8_wayOf_x2_f l (d + 0) hvx l2 (by rw [show (l2 : Int32).toInt = l2.toInt from (ti_rfl l2)]; omega) (by rw [show (l2 : Int32).toInt = l2.toInt from (ti_rfl l2)]; omega) 0 (by rw [show (0 : Int32).toInt = 0 from (ti_c (v := 0) (a := 0) (by decide))]; omega) (by rw [show (0 : Int32).toInt = 0 from (ti_c (v := 0) (a := 0) (by decide))]; omega) (CKF.ve (VE.of hv hvx) ckf)) mL_X8_331 iM_X8_wayOf sM_X8_wayOf (hvx.sh rfl) rfl rfl rfl (Nat.le_of_ble_eq_true rfl) (show d + 0 + 5 + 1 ≤ d + 6 by omega) (show 8 + (4 + 11) + 40 * (d + 0 + 5) ≤ 40 * (d + 6) by omega) (g_c0 hvx.ln) (Nat.le_of_ble_eq_true rfl) dX8_laysWay_50 ?_
          intro r h24 hq _
          obtain ⟨v27, rfl, v27l, v27u, rfl, f25, f26⟩ := hq
          rw [sM23] at f25
          try rw [show (0 : Int32).toInt = 0 from (ti_c (v := 0) (a := 0) (by decide))] at f25
          try rw [show (0 : Int32).toInt = 0 from (ti_c (v := 0) (a := 0) (by decide))] at f26
          replace f26 : PE _ _ := f26
          have k28 := bd_e k22 f26.symm
          have w0 : v27.toInt = wo h.2.1 S l2.toInt 0 := by rw [f25]; exact wo_ve (VE.of hv hvx) _ _ _
          have w0g := WI.wo0 hv hwi (k := l2.toInt) (by omega) (by omega)
          refine go_invV (pc := 53) (sl := 0) (s_X8_onAllFrom_x2_f l (d + 4) hvx v27 (by rw [show (v27 : Int32).toInt = v27.toInt from (ti_rfl v27)]; omega) (by rw [show (v27 : Int32).toInt = v27.toInt from (ti_rfl v27)]; omega)) mL_X8_334 iM_X8_onAllFrom sM_X8_onAllFrom (hvx.sh rfl) rfl rfl rfl (Nat.le_of_ble_eq_true rfl) (show d + 4 + 1 + 1 ≤ d + 6 by omega) (show 8 + (2 + 11) + 40 * (d + 4 + 1) ≤ 40 * (d + 6) by omega) (g_c0 hvx.ln) (Nat.le_of_ble_eq_true rfl) dX8_laysWay_53 ?_
          intro r h29 hq _
          obtain ⟨v32, rfl, rfl, f30, f31⟩ := hq
          have k33 := bd_e k28 f31.symm
          refine go_lstore_n (pc := 56) (Nat.le_of_ble_eq_true rfl) dX8_laysWay_56 (go_lv (lv2 := [(0, .ref 70), (1, .int l1), (2, .int l2), (3, .long v32)]) rfl ?_)
          refine go_aload_n (pc := 57) rfl dX8_laysWay_57 ?_
          refine go_iload_n (pc := 58) rfl dX8_laysWay_58 ?_
          refine go_iconst (pc := 59) (v := 1) (by decide) dX8_laysWay_59 ?_
          have sM34 : (hx.2.1 70 6).toInt = S := by rw [hvx.fy (j := 6) (by omega), ← hv.fy (j := 6) (by omega)]; exact hS.symm
          refine go_invV (pc := 60) (sl := 0) (s_X8_wayOf_x2_f l (d + 0) hvx l2 (by rw [show (l2 : Int32).toInt = l2.toInt from (ti_rfl l2)]; omega) (by rw [show (l2 : Int32).toInt = l2.toInt from (ti_rfl l2)]; omega) 1 (by rw [show (1 : Int32).toInt = 1 from (ti_c (v := 1) (a := 1) (by decide))]; omega) (by rw [show (1 : Int32).toInt = 1 from (ti_c (v := 1) (a := 1) (by decide))]; omega) (CKF.ve (VE.of hv hvx) ckf)) mL_X8_331 iM_X8_wayOf sM_X8_wayOf (hvx.sh rfl) rfl rfl rfl (Nat.le_of_ble_eq_true rfl) (show d + 0 + 5 + 1 ≤ d + 6 by omega) (show 8 + (4 + 11) + 40 * (d + 0 + 5) ≤ 40 * (d + 6) by omega) (g_c0 hvx.ln) (Nat.le_of_ble_eq_true rfl) dX8_laysWay_60 ?_
          intro r h35 hq _
          obtain ⟨v38, rfl, v38l, v38u, rfl, f36, f37⟩ := hq
          rw [sM34] at f36
          try rw [show (1 : Int32).toInt = 1 from (ti_c (v := 1) (a := 1) (by decide))] at f36
          try rw [show (1 : Int32).toInt = 1 from (ti_c (v := 1) (a := 1) (by decide))] at f37
          replace f37 : PE _ _ := f37
          have k39 := bd_e k33 f37.symm
          have w1 : v38.toInt = wo h.2.1 S l2.toInt 1 := by rw [f36]; exact wo_ve (VE.of hv hvx) _ _ _
          refine go_bipush (pc := 63) (v := (-2)) (by decide) dX8_laysWay_63 ?_
          refine gf_icmp_eq (pc := 65) (tgt := 81) (ti_rfl v38) (ti_c (v := (-2)) (a := (-2)) (by decide)) (by decide) dX8_laysWay_65 (fun q40 => ?_) (fun q40 => ?_)
          ·
            have k41 := if_t k39 q40
            refine go_lload_n (pc := 81) rfl dX8_laysWay_81 ?_
            refine go_lconst (pc := 82) (v := 1) (by decide) dX8_laysWay_82 ?_
            refine go_iload_n (pc := 83) rfl dX8_laysWay_83 ?_
            refine gx_lshl (pc := 84) dX8_laysWay_84 (fun v42 v42x => ?_)
            have k43 := bd_e k41 (so_lshl (ti_rfl l2) v42x)
            refine gx_lor (pc := 85) dX8_laysWay_85 (fun v44 v44x => ?_)
            have k45 := bd_e k43 (so_lor v44x)
            have l2o : Int32.ofNat l2.toInt.toNat = l2 := (i32_of (by omega)).symm
            have nwv : v44 = nw h.2.1 hx.2.2.1 S l2.toInt := by unfold nw; rw [if_pos (by omega), l2o, ← w0, ← f30, v44x, v42x]
            refine go_lstore_n (pc := 86) (Nat.le_of_ble_eq_true rfl) dX8_laysWay_86 (go_lv (lv2 := [(0, .ref 70), (1, .int l1), (2, .int l2), (3, .long v44)]) rfl ?_)
            refine go_iload_n (pc := 87) rfl dX8_laysWay_87 ?_
            refine gf_if_ne (pc := 88) (tgt := 102) (ti_rfl l1) (by decide) dX8_laysWay_88 (fun q46 => ?_) (fun q46 => ?_)
            ·
              have k47 := if_t k45 q46
              refine go_iconst (pc := 102) (v := 1) (by decide) dX8_laysWay_102 ?_
              refine go_goto (pc := 103) (tgt := 107) (by decide) dX8_laysWay_103 ?_
              refine go_istore_n (pc := 107) (Nat.le_of_ble_eq_true rfl) dX8_laysWay_107 (go_lv (lv2 := [(0, .ref 70), (1, .int 1), (2, .int l2), (3, .long v44)]) rfl ?_)
              refine go_aload_n (pc := 108) rfl dX8_laysWay_108 ?_
              refine gi_getF (pc := 109) (q := 106) hvx fL_X8_118 rfl (Nat.le_of_ble_eq_true rfl) rfl (hvx.rf (by decide)) dX8_laysWay_109 ?_
              refine go_iload_n (pc := 112) rfl dX8_laysWay_112 ?_
              refine go_lload_n (pc := 113) rfl dX8_laysWay_113 ?_
              refine gi_last (pc := 114) (len := 40) hvx (ti_rfl l2) rfl (by omega) (by omega) dX8_laysWay_114 (fun h48 hv48 hv48e => ?_)
              have fx48 : FX KAr h h48 := FX.pL fxx hv48e (by unfold KAr; omega)
              have k49 := bd_e k47 (st_L hv48e)
              obtain ⟨t1, t2, t3⟩ := SH.step (by omega) (by omega) (by omega) x0 nwv
              have eh : h48.2.2.1 = (fun p q => if p = 106 ∧ q = (l2.toInt).toNat then v44 else hx.2.2.1 p q) := by rw [hv48e]; rfl
              rw [← eh] at t1 t2 t3
              refine gf_iinc (pc := 115) (Nat.le_of_ble_eq_true rfl) rfl (ti_rfl l2) (ti_c (by decide)) (by omega) (by omega) dX8_laysWay_115 (fun v50 e51 => ?_)
              refine go_lv (lv2 := [(0, .ref 70), (1, .int 1), (2, .int v50), (3, .long v44)]) rfl ?_
              refine go_goto (pc := 118) (tgt := 33) (by decide) dX8_laysWay_118 ?_
              have z52 : (1 : Int32).toInt = 1 := (ti_c (v := 1) (a := 1) (by decide))
              have z53 : (v50 : Int32).toInt = (l2.toInt + 1) := e51
              exact go_lv rfl (ih.2.2.1 1 v50 h48 hv48 (by omega) (by omega) (by omega) (by omega) t1 (uu_hi _) fx48 (by rw [show (1 : Int32).toInt = 1 from (ti_c (v := 1) (a := 1) (by decide)), show (v50 : Int32).toInt = (l2.toInt + 1) from e51]; exact k49) (by omega))
            ·
              have k54 := if_f k45 (fun z => z q46)
              refine go_lload_n (pc := 91) rfl dX8_laysWay_91 ?_
              refine go_aload_n (pc := 92) rfl dX8_laysWay_92 ?_
              refine gi_getF (pc := 93) (q := 106) hvx fL_X8_118 rfl (Nat.le_of_ble_eq_true rfl) rfl (hvx.rf (by decide)) dX8_laysWay_93 ?_
              refine go_iload_n (pc := 96) rfl dX8_laysWay_96 ?_
              refine gi_lald (pc := 97) (len := 40) hvx (ti_rfl l2) rfl (by omega) (by omega) dX8_laysWay_97 (fun v55 v55w => ?_)
              have k56 := bd_e k54 v55w.symm
              refine gx_lcmp (pc := 98) dX8_laysWay_98 (fun v57 v57x => ?_)
              have k58 := bd_e k56 (so_lcmp v57x)
              refine gf_if_eq (pc := 99) (tgt := 106) (ti_rfl v57) (by decide) dX8_laysWay_99 (fun q59 => ?_) (fun q59 => ?_)
              ·
                have k60 := if_t k58 q59
                refine go_iconst (pc := 106) (v := 0) (by decide) dX8_laysWay_106 ?_
                refine go_istore_n (pc := 107) (Nat.le_of_ble_eq_true rfl) dX8_laysWay_107 (go_lv (lv2 := [(0, .ref 70), (1, .int 0), (2, .int l2), (3, .long v44)]) rfl ?_)
                refine go_aload_n (pc := 108) rfl dX8_laysWay_108 ?_
                refine gi_getF (pc := 109) (q := 106) hvx fL_X8_118 rfl (Nat.le_of_ble_eq_true rfl) rfl (hvx.rf (by decide)) dX8_laysWay_109 ?_
                refine go_iload_n (pc := 112) rfl dX8_laysWay_112 ?_
                refine go_lload_n (pc := 113) rfl dX8_laysWay_113 ?_
                refine gi_last (pc := 114) (len := 40) hvx (ti_rfl l2) rfl (by omega) (by omega) dX8_laysWay_114 (fun h61 hv61 hv61e => ?_)
                have fx61 : FX KAr h h61 := FX.pL fxx hv61e (by unfold KAr; omega)
                have k62 := bd_e k60 (st_L hv61e)
                obtain ⟨t1, t2, t3⟩ := SH.step (by omega) (by omega) (by omega) x0 nwv
                have eh : h61.2.2.1 = (fun p q => if p = 106 ∧ q = (l2.toInt).toNat then v44 else hx.2.2.1 p q) := by rw [hv61e]; rfl
                rw [← eh] at t1 t2 t3
                have t6 : ¬ (v57 : Int32).toInt = 0 → uu h61.2.2.1 + 1 ≤ uu hx.2.2.1 := fun q => t3 (fun z => q (by rw [v57x]; exact (cmp_eq _ _).mpr (by rw [z, v55w])))
                refine gf_iinc (pc := 115) (Nat.le_of_ble_eq_true rfl) rfl (ti_rfl l2) (ti_c (by decide)) (by omega) (by omega) dX8_laysWay_115 (fun v63 e64 => ?_)
                refine go_lv (lv2 := [(0, .ref 70), (1, .int 0), (2, .int v63), (3, .long v44)]) rfl ?_
                refine go_goto (pc := 118) (tgt := 33) (by decide) dX8_laysWay_118 ?_
                have z65 : (0 : Int32).toInt = 0 := (ti_c (v := 0) (a := 0) (by decide))
                have z66 : (v63 : Int32).toInt = (l2.toInt + 1) := e64
                exact go_lv rfl (ih.2.2.1 0 v63 h61 hv61 (by omega) (by omega) (by omega) (by omega) t1 (uu_hi _) fx61 (by rw [show (0 : Int32).toInt = 0 from (ti_c (v := 0) (a := 0) (by decide)), show (v63 : Int32).toInt = (l2.toInt + 1) from e64]; exact k62) (by omega))
              ·
                have k67 := if_f k58 q59
                refine go_iconst (pc := 102) (v := 1) (by decide) dX8_laysWay_102 ?_
                refine go_goto (pc := 103) (tgt := 107) (by decide) dX8_laysWay_103 ?_
                refine go_istore_n (pc := 107) (Nat.le_of_ble_eq_true rfl) dX8_laysWay_107 (go_lv (lv2 := [(0, .ref 70), (1, .int 1), (2, .int l2), (3, .long v44)]) rfl ?_)
                refine go_aload_n (pc := 108) rfl dX8_laysWay_108 ?_
                refine gi_getF (pc := 109) (q := 106) hvx fL_X8_118 rfl (Nat.le_of_ble_eq_true rfl) rfl (hvx.rf (by decide)) dX8_laysWay_109 ?_
                refine go_iload_n (pc := 112) rfl dX8_laysWay_112 ?_
                refine go_lload_n (pc := 113) rfl dX8_laysWay_113 ?_
                refine gi_last (pc := 114) (len := 40) hvx (ti_rfl l2) rfl (by omega) (by omega) dX8_laysWay_114 (fun h68 hv68 hv68e => ?_)
                have fx68 : FX KAr h h68 := FX.pL fxx hv68e (by unfold KAr; omega)
                have k69 := bd_e k67 (st_L hv68e)
                obtain ⟨t1, t2, t3⟩ := SH.step (by omega) (by omega) (by omega) x0 nwv
                have eh : h68.2.2.1 = (fun p q => if p = 106 ∧ q = (l2.toInt).toNat then v44 else hx.2.2.1 p q) := by rw [hv68e]; rfl
                rw [← eh] at t1 t2 t3
                have t6 : ¬ (v57 : Int32).toInt = 0 → uu h68.2.2.1 + 1 ≤ uu hx.2.2.1 := fun q => t3 (fun z => q (by rw [v57x]; exact (cmp_eq _ _).mpr (by rw [z, v55w])))
                refine gf_iinc (pc := 115) (Nat.le_of_ble_eq_true rfl) rfl (ti_rfl l2) (ti_c (by decide)) (by omega) (by omega) dX8_laysWay_115 (fun v70 e71 => ?_)
                refine go_lv (lv2 := [(0, .ref 70), (1, .int 1), (2, .int v70), (3, .long v44)]) rfl ?_
                refine go_goto (pc := 118) (tgt := 33) (by decide) dX8_laysWay_118 ?_
                have z72 : (1 : Int32).toInt = 1 := (ti_c (v := 1) (a := 1) (by decide))
                have z73 : (v70 : Int32).toInt = (l2.toInt + 1) := e71
                exact go_lv rfl (ih.2.2.1 1 v70 h68 hv68 (by omega) (by omega) (by omega) (by omega) t1 (uu_hi _) fx68 (by rw [show (1 : Int32).toInt = 1 from (ti_c (v := 1) (a := 1) (by decide)), show (v70 : Int32).toInt = (l2.toInt + 1) from e71]; exact k69) (by omega))
          ·
            have k74 := if_f k39 q40
            refine go_lload_n (pc := 68) rfl dX8_laysWay_68 ?_
            refine go_aload_n (pc := 69) rfl dX8_laysWay_69 ?_
            refine go_aload_n (pc := 70) rfl dX8_laysWay_70 ?_
            refine go_iload_n (pc := 71) rfl dX8_laysWay_71 ?_
            refine go_iconst (pc := 72) (v := 1) (by decide) dX8_laysWay_72 ?_
            have sM75 : (hx.2.1 70 6).toInt = S := by rw [hvx.fy (j := 6) (by omega), ← hv.fy (j := 6) (by omega)]; exact hS.symm
            refine go_invV (pc := 73) (sl := 0) (s_X8_wayOf_x2_f l (d + 0) hvx l2 (by rw [show (l2 : Int32).toInt = l2.toInt from (ti_rfl l2)]; omega) (by rw [show (l2 : Int32).toInt = l2.toInt from (ti_rfl l2)]; omega) 1 (by rw [show (1 : Int32).toInt = 1 from (ti_c (v := 1) (a := 1) (by decide))]; omega) (by rw [show (1 : Int32).toInt = 1 from (ti_c (v := 1) (a := 1) (by decide))]; omega) (CKF.ve (VE.of hv hvx) ckf)) mL_X8_331 iM_X8_wayOf sM_X8_wayOf (hvx.sh rfl) rfl rfl rfl (Nat.le_of_ble_eq_true rfl) (show d + 0 + 5 + 1 ≤ d + 6 by omega) (show 8 + (4 + 11) + 40 * (d + 0 + 5) ≤ 40 * (d + 6) by omega) (g_c0 hvx.ln) (Nat.le_of_ble_eq_true rfl) dX8_laysWay_73 ?_
            intro r h76 hq _
            obtain ⟨v79, rfl, v79l, v79u, rfl, f77, f78⟩ := hq
            rw [sM75] at f77
            try rw [show (1 : Int32).toInt = 1 from (ti_c (v := 1) (a := 1) (by decide))] at f77
            try rw [show (1 : Int32).toInt = 1 from (ti_c (v := 1) (a := 1) (by decide))] at f78
            replace f78 : PE _ _ := f78
            have k80 := bd_e k74 f78.symm
            have w1b : v79.toInt = wo h.2.1 S l2.toInt 1 := by rw [f77]; exact wo_ve (VE.of hv hvx) _ _ _
            refine go_invV (pc := 76) (sl := 0) (s_X8_onAllFrom_x2_f l (d + 4) hvx v79 (by rw [show (v79 : Int32).toInt = v79.toInt from (ti_rfl v79)]; omega) (by rw [show (v79 : Int32).toInt = v79.toInt from (ti_rfl v79)]; omega)) mL_X8_334 iM_X8_onAllFrom sM_X8_onAllFrom (hvx.sh rfl) rfl rfl rfl (Nat.le_of_ble_eq_true rfl) (show d + 4 + 1 + 1 ≤ d + 6 by omega) (show 8 + (2 + 11) + 40 * (d + 4 + 1) ≤ 40 * (d + 6) by omega) (g_c0 hvx.ln) (Nat.le_of_ble_eq_true rfl) dX8_laysWay_76 ?_
            intro r h81 hq _
            obtain ⟨v84, rfl, rfl, f82, f83⟩ := hq
            have k85 := bd_e k80 f83.symm
            refine gx_land (pc := 79) dX8_laysWay_79 (fun v86 v86x => ?_)
            have k87 := bd_e k85 (so_land v86x)
            refine go_lstore_n (pc := 80) (Nat.le_of_ble_eq_true rfl) dX8_laysWay_80 (go_lv (lv2 := [(0, .ref 70), (1, .int l1), (2, .int l2), (3, .long v86)]) rfl ?_)
            refine go_lload_n (pc := 81) rfl dX8_laysWay_81 ?_
            refine go_lconst (pc := 82) (v := 1) (by decide) dX8_laysWay_82 ?_
            refine go_iload_n (pc := 83) rfl dX8_laysWay_83 ?_
            refine gx_lshl (pc := 84) dX8_laysWay_84 (fun v88 v88x => ?_)
            have k89 := bd_e k87 (so_lshl (ti_rfl l2) v88x)
            refine gx_lor (pc := 85) dX8_laysWay_85 (fun v90 v90x => ?_)
            have k91 := bd_e k89 (so_lor v90x)
            have l2o : Int32.ofNat l2.toInt.toNat = l2 := (i32_of (by omega)).symm
            have nwv : v90 = nw h.2.1 hx.2.2.1 S l2.toInt := by unfold nw; rw [if_neg (by omega), l2o, ← w0, ← w1b, ← f30, ← f82, v90x, v86x, v88x]
            refine go_lstore_n (pc := 86) (Nat.le_of_ble_eq_true rfl) dX8_laysWay_86 (go_lv (lv2 := [(0, .ref 70), (1, .int l1), (2, .int l2), (3, .long v90)]) rfl ?_)
            refine go_iload_n (pc := 87) rfl dX8_laysWay_87 ?_
            refine gf_if_ne (pc := 88) (tgt := 102) (ti_rfl l1) (by decide) dX8_laysWay_88 (fun q92 => ?_) (fun q92 => ?_)
            ·
              have k93 := if_t k91 q92
              refine go_iconst (pc := 102) (v := 1) (by decide) dX8_laysWay_102 ?_
              refine go_goto (pc := 103) (tgt := 107) (by decide) dX8_laysWay_103 ?_
              refine go_istore_n (pc := 107) (Nat.le_of_ble_eq_true rfl) dX8_laysWay_107 (go_lv (lv2 := [(0, .ref 70), (1, .int 1), (2, .int l2), (3, .long v90)]) rfl ?_)
              refine go_aload_n (pc := 108) rfl dX8_laysWay_108 ?_
              refine gi_getF (pc := 109) (q := 106) hvx fL_X8_118 rfl (Nat.le_of_ble_eq_true rfl) rfl (hvx.rf (by decide)) dX8_laysWay_109 ?_
              refine go_iload_n (pc := 112) rfl dX8_laysWay_112 ?_
              refine go_lload_n (pc := 113) rfl dX8_laysWay_113 ?_
              refine gi_last (pc := 114) (len := 40) hvx (ti_rfl l2) rfl (by omega) (by omega) dX8_laysWay_114 (fun h94 hv94 hv94e => ?_)
              have fx94 : FX KAr h h94 := FX.pL fxx hv94e (by unfold KAr; omega)
              have k95 := bd_e k93 (st_L hv94e)
              obtain ⟨t1, t2, t3⟩ := SH.step (by omega) (by omega) (by omega) x0 nwv
              have eh : h94.2.2.1 = (fun p q => if p = 106 ∧ q = (l2.toInt).toNat then v90 else hx.2.2.1 p q) := by rw [hv94e]; rfl
              rw [← eh] at t1 t2 t3
              refine gf_iinc (pc := 115) (Nat.le_of_ble_eq_true rfl) rfl (ti_rfl l2) (ti_c (by decide)) (by omega) (by omega) dX8_laysWay_115 (fun v96 e97 => ?_)
              refine go_lv (lv2 := [(0, .ref 70), (1, .int 1), (2, .int v96), (3, .long v90)]) rfl ?_
              refine go_goto (pc := 118) (tgt := 33) (by decide) dX8_laysWay_118 ?_
              have z98 : (1 : Int32).toInt = 1 := (ti_c (v := 1) (a := 1) (by decide))
              have z99 : (v96 : Int32).toInt = (l2.toInt + 1) := e97
              exact go_lv rfl (ih.2.2.1 1 v96 h94 hv94 (by omega) (by omega) (by omega) (by omega) t1 (uu_hi _) fx94 (by rw [show (1 : Int32).toInt = 1 from (ti_c (v := 1) (a := 1) (by decide)), show (v96 : Int32).toInt = (l2.toInt + 1) from e97]; exact k95) (by omega))
            ·
              have k100 := if_f k91 (fun z => z q92)
              refine go_lload_n (pc := 91) rfl dX8_laysWay_91 ?_
              refine go_aload_n (pc := 92) rfl dX8_laysWay_92 ?_
              refine gi_getF (pc := 93) (q := 106) hvx fL_X8_118 rfl (Nat.le_of_ble_eq_true rfl) rfl (hvx.rf (by decide)) dX8_laysWay_93 ?_
              refine go_iload_n (pc := 96) rfl dX8_laysWay_96 ?_
              refine gi_lald (pc := 97) (len := 40) hvx (ti_rfl l2) rfl (by omega) (by omega) dX8_laysWay_97 (fun v101 v101w => ?_)
              have k102 := bd_e k100 v101w.symm
              refine gx_lcmp (pc := 98) dX8_laysWay_98 (fun v103 v103x => ?_)
              have k104 := bd_e k102 (so_lcmp v103x)
              refine gf_if_eq (pc := 99) (tgt := 106) (ti_rfl v103) (by decide) dX8_laysWay_99 (fun q105 => ?_) (fun q105 => ?_)
              ·
                have k106 := if_t k104 q105
                refine go_iconst (pc := 106) (v := 0) (by decide) dX8_laysWay_106 ?_
                refine go_istore_n (pc := 107) (Nat.le_of_ble_eq_true rfl) dX8_laysWay_107 (go_lv (lv2 := [(0, .ref 70), (1, .int 0), (2, .int l2), (3, .long v90)]) rfl ?_)
                refine go_aload_n (pc := 108) rfl dX8_laysWay_108 ?_
                refine gi_getF (pc := 109) (q := 106) hvx fL_X8_118 rfl (Nat.le_of_ble_eq_true rfl) rfl (hvx.rf (by decide)) dX8_laysWay_109 ?_
                refine go_iload_n (pc := 112) rfl dX8_laysWay_112 ?_
                refine go_lload_n (pc := 113) rfl dX8_laysWay_113 ?_
                refine gi_last (pc := 114) (len := 40) hvx (ti_rfl l2) rfl (by omega) (by omega) dX8_laysWay_114 (fun h107 hv107 hv107e => ?_)
                have fx107 : FX KAr h h107 := FX.pL fxx hv107e (by unfold KAr; omega)
                have k108 := bd_e k106 (st_L hv107e)
                obtain ⟨t1, t2, t3⟩ := SH.step (by omega) (by omega) (by omega) x0 nwv
                have eh : h107.2.2.1 = (fun p q => if p = 106 ∧ q = (l2.toInt).toNat then v90 else hx.2.2.1 p q) := by rw [hv107e]; rfl
                rw [← eh] at t1 t2 t3
                have t6 : ¬ (v103 : Int32).toInt = 0 → uu h107.2.2.1 + 1 ≤ uu hx.2.2.1 := fun q => t3 (fun z => q (by rw [v103x]; exact (cmp_eq _ _).mpr (by rw [z, v101w])))
                refine gf_iinc (pc := 115) (Nat.le_of_ble_eq_true rfl) rfl (ti_rfl l2) (ti_c (by decide)) (by omega) (by omega) dX8_laysWay_115 (fun v109 e110 => ?_)
                refine go_lv (lv2 := [(0, .ref 70), (1, .int 0), (2, .int v109), (3, .long v90)]) rfl ?_
                refine go_goto (pc := 118) (tgt := 33) (by decide) dX8_laysWay_118 ?_
                have z111 : (0 : Int32).toInt = 0 := (ti_c (v := 0) (a := 0) (by decide))
                have z112 : (v109 : Int32).toInt = (l2.toInt + 1) := e110
                exact go_lv rfl (ih.2.2.1 0 v109 h107 hv107 (by omega) (by omega) (by omega) (by omega) t1 (uu_hi _) fx107 (by rw [show (0 : Int32).toInt = 0 from (ti_c (v := 0) (a := 0) (by decide)), show (v109 : Int32).toInt = (l2.toInt + 1) from e110]; exact k108) (by omega))
              ·
                have k113 := if_f k104 q105
                refine go_iconst (pc := 102) (v := 1) (by decide) dX8_laysWay_102 ?_
                refine go_goto (pc := 103) (tgt := 107) (by decide) dX8_laysWay_103 ?_
                refine go_istore_n (pc := 107) (Nat.le_of_ble_eq_true rfl) dX8_laysWay_107 (go_lv (lv2 := [(0, .ref 70), (1, .int 1), (2, .int l2), (3, .long v90)]) rfl ?_)
                refine go_aload_n (pc := 108) rfl dX8_laysWay_108 ?_
                refine gi_getF (pc := 109) (q := 106) hvx fL_X8_118 rfl (Nat.le_of_ble_eq_true rfl) rfl (hvx.rf (by decide)) dX8_laysWay_109 ?_
                refine go_iload_n (pc := 112) rfl dX8_laysWay_112 ?_
                refine go_lload_n (pc := 113) rfl dX8_laysWay_113 ?_
                refine gi_last (pc := 114) (len := 40) hvx (ti_rfl l2) rfl (by omega) (by omega) dX8_laysWay_114 (fun h114 hv114 hv114e => ?_)
                have fx114 : FX KAr h h114 := FX.pL fxx hv114e (by unfold KAr; omega)
                have k115 := bd_e k113 (st_L hv114e)
                obtain ⟨t1, t2, t3⟩ := SH.step (by omega) (by omega) (by omega) x0 nwv
                have eh : h114.2.2.1 = (fun p q => if p = 106 ∧ q = (l2.toInt).toNat then v90 else hx.2.2.1 p q) := by rw [hv114e]; rfl
                rw [← eh] at t1 t2 t3
                have t6 : ¬ (v103 : Int32).toInt = 0 → uu h114.2.2.1 + 1 ≤ uu hx.2.2.1 := fun q => t3 (fun z => q (by rw [v103x]; exact (cmp_eq _ _).mpr (by rw [z, v101w])))
                refine gf_iinc (pc := 115) (Nat.le_of_ble_eq_true rfl) rfl (ti_rfl l2) (ti_c (by decide)) (by omega) (by omega) dX8_laysWay_115 (fun v116 e117 => ?_)
                refine go_lv (lv2 := [(0, .ref 70), (1, .int 1), (2, .int v116), (3, .long v90)]) rfl ?_
                refine go_goto (pc := 118) (tgt := 33) (by decide) dX8_laysWay_118 ?_
                have z118 : (1 : Int32).toInt = 1 := (ti_c (v := 1) (a := 1) (by decide))
                have z119 : (v116 : Int32).toInt = (l2.toInt + 1) := e117
                exact go_lv rfl (ih.2.2.1 1 v116 h114 hv114 (by omega) (by omega) (by omega) (by omega) t1 (uu_hi _) fx114 (by rw [show (1 : Int32).toInt = 1 from (ti_c (v := 1) (a := 1) (by decide)), show (v116 : Int32).toInt = (l2.toInt + 1) from e117]; exact k115) (by omega))
      ·
        intro l2 hx hvx l2l l2u fxx kL hm
        rw [f_X8_laysWay2_] at kL
        replace kL := if_f kL (by decide)
        replace kL := if_f kL (by decide)
        replace kL := if_f kL (by decide)
        replace kL := if_t kL _root_.rfl
        refine go_iload_n (pc := 126) rfl dX8_laysWay_126 ?_
        refine go_aload_n (pc := 127) rfl dX8_laysWay_127 ?_
        refine gi_getF (pc := 128) (q := 75) hvx fL_X8_23 rfl (Nat.le_of_ble_eq_true rfl) rfl (hvx.rf (by decide)) dX8_laysWay_128 ?_
        refine go_aload_n (pc := 131) rfl dX8_laysWay_131 ?_
        refine gi_get (pc := 132) (lo := 0) (hi := 1) hvx fL_X8_187 rfl (Nat.le_of_ble_eq_true rfl) rfl rfl dX8_laysWay_132 (fun v120 v120l v120u v120w => ?_)
        have k121 := bd_e kL (congrArg Int32.toInt v120w.symm)
        have v120S : v120.toInt = S := by rw [v120w, hvx.fy (j := 6) (by omega), ← hv.fy (j := 6) (by omega)]; exact hS.symm
        refine gi_iald (pc := 135) (lo := 0) (hi := 40) (len := 2) hvx (ti_rfl v120) rfl (by omega) (by omega) (fun _ => rfl) dX8_laysWay_135 (fun v122 v122l v122u v122w => ?_)
        have k123 := bd_e k121 (congrArg Int32.toInt v122w.symm)
        have v122V : v122.toInt = V h.2.1 75 S := by rw [v122w, v120S, hvx.fz (c := 75) (by omega) (by omega), ← hv.fz (c := 75) (by omega) (by omega)]; rfl
        refine gf_icmp_ge (pc := 136) (tgt := 152) (ti_rfl l2) (ti_rfl v122) (by decide) dX8_laysWay_136 (fun q124 => ?_) (fun q124 => ?_)
        ·
          have k125 := if_t k123 q124
          refine go_iconst (pc := 152) (v := 0) (by decide) dX8_laysWay_152 ?_
          refine go_istore_n (pc := 153) (Nat.le_of_ble_eq_true rfl) dX8_laysWay_153 (go_lv (lv2 := [(0, .ref 70), (2, .int 0)]) rfl ?_)
          have z126 : (0 : Int32).toInt = 0 := (ti_c (v := 0) (a := 0) (by decide))
          exact go_lv rfl (ih.2.2.2.2.1 0 hx hvx (by omega) (by omega) fxx (by rw [show (0 : Int32).toInt = 0 from (ti_c (v := 0) (a := 0) (by decide))]; exact k125) (by omega))
        ·
          have k127 := if_f k123 (Int.not_le.mpr q124)
          refine go_aload_n (pc := 139) rfl dX8_laysWay_139 ?_
          refine gi_getF (pc := 140) (q := 105) hvx fL_X8_115 rfl (Nat.le_of_ble_eq_true rfl) rfl (hvx.rf (by decide)) dX8_laysWay_140 ?_
          refine go_iload_n (pc := 143) rfl dX8_laysWay_143 ?_
          refine go_lconst (pc := 144) (v := 0) (by decide) dX8_laysWay_144 ?_
          refine gi_last (pc := 145) (len := 40) hvx (ti_rfl l2) rfl (by omega) (by omega) dX8_laysWay_145 (fun h128 hv128 hv128e => ?_)
          have fx128 : FX KAr h h128 := FX.pL fxx hv128e (by unfold KAr; omega)
          have k129 := bd_e k127 (st_L hv128e)
          refine gf_iinc (pc := 146) (Nat.le_of_ble_eq_true rfl) rfl (ti_rfl l2) (ti_c (by decide)) (by omega) (by omega) dX8_laysWay_146 (fun v130 e131 => ?_)
          refine go_lv (lv2 := [(0, .ref 70), (2, .int v130)]) rfl ?_
          refine go_goto (pc := 149) (tgt := 126) (by decide) dX8_laysWay_149 ?_
          have z132 : (v130 : Int32).toInt = (l2.toInt + 1) := e131
          exact go_lv rfl (ih.2.2.2.1 v130 h128 hv128 (by omega) (by omega) fx128 (by rw [show (v130 : Int32).toInt = (l2.toInt + 1) from e131]; exact k129) (by omega))
      ·
        intro l2 hx hvx l2l l2u fxx kL hm
        rw [f_X8_laysWay2_] at kL
        replace kL := if_f kL (by decide)
        replace kL := if_f kL (by decide)
        replace kL := if_f kL (by decide)
        replace kL := if_f kL (by decide)
        replace kL := if_t kL _root_.rfl
        refine go_iload_n (pc := 154) rfl dX8_laysWay_154 ?_
        refine go_aload_n (pc := 155) rfl dX8_laysWay_155 ?_
        refine gi_getF (pc := 156) (q := 75) hvx fL_X8_23 rfl (Nat.le_of_ble_eq_true rfl) rfl (hvx.rf (by decide)) dX8_laysWay_156 ?_
        refine go_aload_n (pc := 159) rfl dX8_laysWay_159 ?_
        refine gi_get (pc := 160) (lo := 0) (hi := 1) hvx fL_X8_187 rfl (Nat.le_of_ble_eq_true rfl) rfl rfl dX8_laysWay_160 (fun v133 v133l v133u v133w => ?_)
        have k134 := bd_e kL (congrArg Int32.toInt v133w.symm)
        have v133S : v133.toInt = S := by rw [v133w, hvx.fy (j := 6) (by omega), ← hv.fy (j := 6) (by omega)]; exact hS.symm
        refine gi_iald (pc := 163) (lo := 0) (hi := 40) (len := 2) hvx (ti_rfl v133) rfl (by omega) (by omega) (fun _ => rfl) dX8_laysWay_163 (fun v135 v135l v135u v135w => ?_)
        have k136 := bd_e k134 (congrArg Int32.toInt v135w.symm)
        have v135V : v135.toInt = V h.2.1 75 S := by rw [v135w, v133S, hvx.fz (c := 75) (by omega) (by omega), ← hv.fz (c := 75) (by omega) (by omega)]; rfl
        refine gf_icmp_ge (pc := 164) (tgt := 283) (ti_rfl l2) (ti_rfl v135) (by decide) dX8_laysWay_164 (fun q137 => ?_) (fun q137 => ?_)
        ·
          have k138 := if_t k136 q137
          refine go_iconst (pc := 283) (v := 0) (by decide) dX8_laysWay_283 ?_
          refine go_istore_n (pc := 284) (Nat.le_of_ble_eq_true rfl) dX8_laysWay_284 (go_lv (lv2 := [(0, .ref 70), (2, .int 0)]) rfl ?_)
          have z139 : (0 : Int32).toInt = 0 := (ti_c (v := 0) (a := 0) (by decide))
          exact go_lv rfl (ih.2.2.2.2.2.2.1 0 hx hvx (by omega) (by omega) fxx (by rw [show (0 : Int32).toInt = 0 from (ti_c (v := 0) (a := 0) (by decide))]; exact k138) (by omega))
        ·
          have k140 := if_f k136 (Int.not_le.mpr q137)
          refine go_aload_n (pc := 167) rfl dX8_laysWay_167 ?_
          refine go_iload_n (pc := 168) rfl dX8_laysWay_168 ?_
          have sM141 : (hx.2.1 70 6).toInt = S := by rw [hvx.fy (j := 6) (by omega), ← hv.fy (j := 6) (by omega)]; exact hS.symm
          refine go_invV (pc := 169) (sl := 0) (s_X8_decides_x2_f l (d + 1) hvx l2 (by rw [show (l2 : Int32).toInt = l2.toInt from (ti_rfl l2)]; omega) (by rw [show (l2 : Int32).toInt = l2.toInt from (ti_rfl l2)]; omega) (CKF.ve (VE.of hv hvx) ckf)) mL_X8_338 iM_X8_decides sM_X8_decides (hvx.sh rfl) rfl rfl rfl (Nat.le_of_ble_eq_true rfl) (show d + 1 + 4 + 1 ≤ d + 6 by omega) (show 8 + (3 + 11) + 40 * (d + 1 + 4) ≤ 40 * (d + 6) by omega) (g_c0 hvx.ln) (Nat.le_of_ble_eq_true rfl) dX8_laysWay_169 ?_
          intro r h142 hq _
          obtain ⟨v145, rfl, v145l, v145u, rfl, f143, f144⟩ := hq
          rw [sM141] at f143
          replace f144 : PE _ _ := f144
          have k146 := bd_e k140 f144.symm
          refine gf_if_ne (pc := 172) (tgt := 178) (ti_rfl v145) (by decide) dX8_laysWay_172 (fun q147 => ?_) (fun q147 => ?_)
          ·
            have k148 := if_t k146 q147
            have dcd := f143 (by omega)
            have vee := VE.of hv hvx
            rw [vee.v (c := 77) (by omega) (by omega), vee.v (c := 93) (by omega) (by omega), vee.v (c := 102) (by omega) (by omega), vee.v (c := 84) (by omega) (by omega)] at dcd
            refine go_aload_n (pc := 178) rfl dX8_laysWay_178 ?_
            refine go_aload_n (pc := 179) rfl dX8_laysWay_179 ?_
            refine go_iload_n (pc := 180) rfl dX8_laysWay_180 ?_
            refine go_iconst (pc := 181) (v := 0) (by decide) dX8_laysWay_181 ?_
            have sM149 : (hx.2.1 70 6).toInt = S := by rw [hvx.fy (j := 6) (by omega), ← hv.fy (j := 6) (by omega)]; exact hS.symm
            refine go_invV (pc := 182) (sl := 0) (s_X8_wayOf_x2_f l (d + 0) hvx l2 (by rw [show (l2 : Int32).toInt = l2.toInt from (ti_rfl l2)]; omega) (by rw [show (l2 : Int32).toInt = l2.toInt from (ti_rfl l2)]; omega) 0 (by rw [show (0 : Int32).toInt = 0 from (ti_c (v := 0) (a := 0) (by decide))]; omega) (by rw [show (0 : Int32).toInt = 0 from (ti_c (v := 0) (a := 0) (by decide))]; omega) (CKF.ve (VE.of hv hvx) ckf)) mL_X8_331 iM_X8_wayOf sM_X8_wayOf (hvx.sh rfl) rfl rfl rfl (Nat.le_of_ble_eq_true rfl) (show d + 0 + 5 + 1 ≤ d + 6 by omega) (show 8 + (4 + 11) + 40 * (d + 0 + 5) ≤ 40 * (d + 6) by omega) (g_c0 hvx.ln) (Nat.le_of_ble_eq_true rfl) dX8_laysWay_182 ?_
            intro r h150 hq _
            obtain ⟨v153, rfl, v153l, v153u, rfl, f151, f152⟩ := hq
            rw [sM149] at f151
            try rw [show (0 : Int32).toInt = 0 from (ti_c (v := 0) (a := 0) (by decide))] at f151
            try rw [show (0 : Int32).toInt = 0 from (ti_c (v := 0) (a := 0) (by decide))] at f152
            replace f152 : PE _ _ := f152
            have k154 := bd_e k148 f152.symm
            have w0d : v153.toInt = wo h.2.1 S l2.toInt 0 := by rw [f151]; exact wo_ve (VE.of hv hvx) _ _ _
            have w0dg := WI.wo0 hv hwi (k := l2.toInt) (by omega) (by omega)
            refine go_invV (pc := 185) (sl := 0) (s_X8_onAllFrom_x2_f l (d + 4) hvx v153 (by rw [show (v153 : Int32).toInt = v153.toInt from (ti_rfl v153)]; omega) (by rw [show (v153 : Int32).toInt = v153.toInt from (ti_rfl v153)]; omega)) mL_X8_334 iM_X8_onAllFrom sM_X8_onAllFrom (hvx.sh rfl) rfl rfl rfl (Nat.le_of_ble_eq_true rfl) (show d + 4 + 1 + 1 ≤ d + 6 by omega) (show 8 + (2 + 11) + 40 * (d + 4 + 1) ≤ 40 * (d + 6) by omega) (g_c0 hvx.ln) (Nat.le_of_ble_eq_true rfl) dX8_laysWay_185 ?_
            intro r h155 hq _
            obtain ⟨v158, rfl, rfl, f156, f157⟩ := hq
            have k159 := bd_e k154 f157.symm
            refine go_aload_n (pc := 188) rfl dX8_laysWay_188 ?_
            refine go_aload_n (pc := 189) rfl dX8_laysWay_189 ?_
            refine go_iload_n (pc := 190) rfl dX8_laysWay_190 ?_
            refine go_iconst (pc := 191) (v := 1) (by decide) dX8_laysWay_191 ?_
            have sM160 : (hx.2.1 70 6).toInt = S := by rw [hvx.fy (j := 6) (by omega), ← hv.fy (j := 6) (by omega)]; exact hS.symm
            refine go_invV (pc := 192) (sl := 0) (s_X8_wayOf_x2_f l (d + 0) hvx l2 (by rw [show (l2 : Int32).toInt = l2.toInt from (ti_rfl l2)]; omega) (by rw [show (l2 : Int32).toInt = l2.toInt from (ti_rfl l2)]; omega) 1 (by rw [show (1 : Int32).toInt = 1 from (ti_c (v := 1) (a := 1) (by decide))]; omega) (by rw [show (1 : Int32).toInt = 1 from (ti_c (v := 1) (a := 1) (by decide))]; omega) (CKF.ve (VE.of hv hvx) ckf)) mL_X8_331 iM_X8_wayOf sM_X8_wayOf (hvx.sh rfl) rfl rfl rfl (Nat.le_of_ble_eq_true rfl) (show d + 0 + 5 + 1 ≤ d + 6 by omega) (show 8 + (4 + 11) + 40 * (d + 0 + 5) ≤ 40 * (d + 6) by omega) (g_c0 hvx.ln) (Nat.le_of_ble_eq_true rfl) dX8_laysWay_192 ?_
            intro r h161 hq _
            obtain ⟨v164, rfl, v164l, v164u, rfl, f162, f163⟩ := hq
            rw [sM160] at f162
            try rw [show (1 : Int32).toInt = 1 from (ti_c (v := 1) (a := 1) (by decide))] at f162
            try rw [show (1 : Int32).toInt = 1 from (ti_c (v := 1) (a := 1) (by decide))] at f163
            replace f163 : PE _ _ := f163
            have k165 := bd_e k159 f163.symm
            have w1d : v164.toInt = wo h.2.1 S l2.toInt 1 := by rw [f162]; exact wo_ve (VE.of hv hvx) _ _ _
            have w1dg := wo1_ge hv (k := l2.toInt) dcd
            refine go_invV (pc := 195) (sl := 0) (s_X8_onAllFrom_x2_f l (d + 4) hvx v164 (by rw [show (v164 : Int32).toInt = v164.toInt from (ti_rfl v164)]; omega) (by rw [show (v164 : Int32).toInt = v164.toInt from (ti_rfl v164)]; omega)) mL_X8_334 iM_X8_onAllFrom sM_X8_onAllFrom (hvx.sh rfl) rfl rfl rfl (Nat.le_of_ble_eq_true rfl) (show d + 4 + 1 + 1 ≤ d + 6 by omega) (show 8 + (2 + 11) + 40 * (d + 4 + 1) ≤ 40 * (d + 6) by omega) (g_c0 hvx.ln) (Nat.le_of_ble_eq_true rfl) dX8_laysWay_195 ?_
            intro r h166 hq _
            obtain ⟨v169, rfl, rfl, f167, f168⟩ := hq
            have k170 := bd_e k165 f168.symm
            refine gx_lxor (pc := 198) dX8_laysWay_198 (fun v171 v171x => ?_)
            have k172 := bd_e k170 (so_lxor v171x)
            refine go_lstore_n (pc := 199) (Nat.le_of_ble_eq_true rfl) dX8_laysWay_199 (go_lv (lv2 := [(0, .ref 70), (2, .int l2), (3, .long v171)]) rfl ?_)
            refine go_iconst (pc := 200) (v := 0) (by decide) dX8_laysWay_200 ?_
            refine go_istore (pc := 201) (Nat.le_of_ble_eq_true rfl) dX8_laysWay_201 (go_lv (lv2 := [(0, .ref 70), (2, .int l2), (3, .long v171), (5, .int 0)]) rfl ?_)
            have z173 : (0 : Int32).toInt = 0 := (ti_c (v := 0) (a := 0) (by decide))
            exact go_lv rfl (ih.2.2.2.2.2.1 l2 v171 0 hx hvx (by omega) (by omega) (by omega) (by omega) fxx (by rw [show (0 : Int32).toInt = 0 from (ti_c (v := 0) (a := 0) (by decide))]; exact k172) (by omega))
          ·
            have k174 := if_f k146 (fun z => z q147)
            refine go_goto (pc := 175) (tgt := 277) (by decide) dX8_laysWay_175 ?_
            refine gf_iinc (pc := 277) (Nat.le_of_ble_eq_true rfl) rfl (ti_rfl l2) (ti_c (by decide)) (by omega) (by omega) dX8_laysWay_277 (fun v175 e176 => ?_)
            refine go_lv (lv2 := [(0, .ref 70), (2, .int v175)]) rfl ?_
            refine go_goto (pc := 280) (tgt := 154) (by decide) dX8_laysWay_280 ?_
            have z177 : (v175 : Int32).toInt = (l2.toInt + 1) := e176
            exact go_lv rfl (ih.2.2.2.2.1 v175 hx hvx (by omega) (by omega) fxx (by rw [show (v175 : Int32).toInt = (l2.toInt + 1) from e176]; exact k174) (by omega))
      ·
        intro l2 l3 l5 hx hvx l2l l2u l5l l5u fxx kL hm
        rw [f_X8_laysWay2_] at kL
        replace kL := if_f kL (by decide)
        replace kL := if_f kL (by decide)
        replace kL := if_f kL (by decide)
        replace kL := if_f kL (by decide)
        replace kL := if_f kL (by decide)
        replace kL := if_t kL _root_.rfl
        refine go_iload (pc := 203) rfl dX8_laysWay_203 ?_
        refine go_aload_n (pc := 205) rfl dX8_laysWay_205 ?_
        refine gi_getF (pc := 206) (q := 75) hvx fL_X8_23 rfl (Nat.le_of_ble_eq_true rfl) rfl (hvx.rf (by decide)) dX8_laysWay_206 ?_
        refine go_aload_n (pc := 209) rfl dX8_laysWay_209 ?_
        refine gi_get (pc := 210) (lo := 0) (hi := 1) hvx fL_X8_187 rfl (Nat.le_of_ble_eq_true rfl) rfl rfl dX8_laysWay_210 (fun v178 v178l v178u v178w => ?_)
        have k179 := bd_e kL (congrArg Int32.toInt v178w.symm)
        have v178S : v178.toInt = S := by rw [v178w, hvx.fy (j := 6) (by omega), ← hv.fy (j := 6) (by omega)]; exact hS.symm
        refine gi_iald (pc := 213) (lo := 0) (hi := 40) (len := 2) hvx (ti_rfl v178) rfl (by omega) (by omega) (fun _ => rfl) dX8_laysWay_213 (fun v180 v180l v180u v180w => ?_)
        have k181 := bd_e k179 (congrArg Int32.toInt v180w.symm)
        have v180V : v180.toInt = V h.2.1 75 S := by rw [v180w, v178S, hvx.fz (c := 75) (by omega) (by omega), ← hv.fz (c := 75) (by omega) (by omega)]; rfl
        refine gf_icmp_ge (pc := 214) (tgt := 277) (ti_rfl l5) (ti_rfl v180) (by decide) dX8_laysWay_214 (fun q182 => ?_) (fun q182 => ?_)
        ·
          have k183 := if_t k181 q182
          refine gf_iinc (pc := 277) (Nat.le_of_ble_eq_true rfl) rfl (ti_rfl l2) (ti_c (by decide)) (by omega) (by omega) dX8_laysWay_277 (fun v184 e185 => ?_)
          refine go_lv (lv2 := [(0, .ref 70), (2, .int v184), (3, .long l3), (5, .int l5)]) rfl ?_
          refine go_goto (pc := 280) (tgt := 154) (by decide) dX8_laysWay_280 ?_
          have z186 : (v184 : Int32).toInt = (l2.toInt + 1) := e185
          exact go_lv rfl (ih.2.2.2.2.1 v184 hx hvx (by omega) (by omega) fxx (by rw [show (v184 : Int32).toInt = (l2.toInt + 1) from e185]; exact k183) (by omega))
        ·
          have k187 := if_f k181 (Int.not_le.mpr q182)
          refine go_lload_n (pc := 217) rfl dX8_laysWay_217 ?_
          refine go_iload (pc := 218) rfl dX8_laysWay_218 ?_
          refine go_invS (pc := 220) (sl := 0) (s_X8_has2_f l (d + 4) hvx l3 l5) mL_X8_280 iM_X8_has rfl rfl (Nat.le_of_ble_eq_true rfl) (show d + 4 + 1 + 1 ≤ d + 6 by omega) (show 8 + (3 + 11) + 40 * (d + 4 + 1) ≤ 40 * (d + 6) by omega) (g_c0 hvx.ln) (Nat.le_of_ble_eq_true rfl) dX8_laysWay_220 ?_
          intro r h188 hq _
          obtain ⟨v190, rfl, v190l, v190u, rfl, f189⟩ := hq
          replace f189 : PE _ _ := f189
          have k191 := bd_e k187 f189.symm
          refine gf_if_ne (pc := 223) (tgt := 229) (ti_rfl v190) (by decide) dX8_laysWay_223 (fun q192 => ?_) (fun q192 => ?_)
          ·
            have k193 := if_t k191 q192
            refine go_aload_n (pc := 229) rfl dX8_laysWay_229 ?_
            refine gi_getF (pc := 230) (q := 105) hvx fL_X8_115 rfl (Nat.le_of_ble_eq_true rfl) rfl (hvx.rf (by decide)) dX8_laysWay_230 ?_
            refine go_iload (pc := 233) rfl dX8_laysWay_233 ?_
            refine go_dup2 (pc := 235) rfl rfl dX8_laysWay_235 ?_
            refine gi_lald (pc := 236) (len := 40) hvx (ti_rfl l5) rfl (by omega) (by omega) dX8_laysWay_236 (fun v194 v194w => ?_)
            have k195 := bd_e k193 v194w.symm
            refine go_lconst (pc := 237) (v := 1) (by decide) dX8_laysWay_237 ?_
            refine go_iload_n (pc := 238) rfl dX8_laysWay_238 ?_
            refine gx_lshl (pc := 239) dX8_laysWay_239 (fun v196 v196x => ?_)
            have k197 := bd_e k195 (so_lshl (ti_rfl l2) v196x)
            refine gx_lor (pc := 240) dX8_laysWay_240 (fun v198 v198x => ?_)
            have k199 := bd_e k197 (so_lor v198x)
            refine gi_last (pc := 241) (len := 40) hvx (ti_rfl l5) rfl (by omega) (by omega) dX8_laysWay_241 (fun h200 hv200 hv200e => ?_)
            have fx200 : FX KAr h h200 := FX.pL fxx hv200e (by unfold KAr; omega)
            have k201 := bd_e k199 (st_L hv200e)
            refine go_aload_n (pc := 242) rfl dX8_laysWay_242 ?_
            refine go_iload (pc := 243) rfl dX8_laysWay_243 ?_
            refine go_iconst (pc := 245) (v := 0) (by decide) dX8_laysWay_245 ?_
            refine go_invS (pc := 246) (sl := 0) (s_X8_statementPlace2_f l (d + 4) hv200 l5 (by rw [show (l5 : Int32).toInt = l5.toInt from (ti_rfl l5)]; omega) (by rw [show (l5 : Int32).toInt = l5.toInt from (ti_rfl l5)]; omega) 0 (by rw [show (0 : Int32).toInt = 0 from (ti_c (v := 0) (a := 0) (by decide))]; omega) (by rw [show (0 : Int32).toInt = 0 from (ti_c (v := 0) (a := 0) (by decide))]; omega)) mL_X8_291 iM_X8_statementPlace rfl rfl (Nat.le_of_ble_eq_true rfl) (show d + 4 + 1 + 1 ≤ d + 6 by omega) (show 8 + (2 + 11) + 40 * (d + 4 + 1) ≤ 40 * (d + 6) by omega) (g_c0 hv200.ln) (Nat.le_of_ble_eq_true rfl) dX8_laysWay_246 ?_
            intro r h202 hq _
            obtain ⟨v204, rfl, v204l, v204u, rfl, f203⟩ := hq
            try rw [show (0 : Int32).toInt = 0 from (ti_c (v := 0) (a := 0) (by decide))] at f203
            replace f203 : PE _ _ := f203
            have k205 := bd_e k201 f203.symm
            refine go_iload_n (pc := 249) rfl dX8_laysWay_249 ?_
            refine go_aload_n (pc := 250) rfl dX8_laysWay_250 ?_
            refine go_iload_n (pc := 251) rfl dX8_laysWay_251 ?_
            refine go_invV (pc := 252) (sl := 0) (s_X8_kindAt2_f l (d + 3) hv200 l2 (by rw [show (l2 : Int32).toInt = l2.toInt from (ti_rfl l2)]; omega) (by rw [show (l2 : Int32).toInt = l2.toInt from (ti_rfl l2)]; omega)) mL_X8_271 iM_X8_kindAt sM_X8_kindAt (hv200.sh rfl) rfl rfl rfl (Nat.le_of_ble_eq_true rfl) (show d + 3 + 2 + 1 ≤ d + 6 by omega) (show 8 + (2 + 11) + 40 * (d + 3 + 2) ≤ 40 * (d + 6) by omega) (g_c0 hv200.ln) (Nat.le_of_ble_eq_true rfl) dX8_laysWay_252 ?_
            intro r h206 hq _
            obtain ⟨v209, rfl, v209l, v209u, rfl, f207, f208⟩ := hq
            have v209K : v209.toInt = V h.2.1 77 (V h.2.1 93 (40 * S + l2.toInt)) := by rw [f207]; unfold g_kd g_it; rw [hv200.fy (j := 6) (by omega), ← hv.fy (j := 6) (by omega), ← hS, hv200.fz (c := 93) (by omega) (by omega), ← hv.fz (c := 93) (by omega) (by omega), hv200.fz (c := 77) (by omega) (by omega), ← hv.fz (c := 77) (by omega) (by omega)]; rfl
            replace f208 : PE _ _ := f208
            have k210 := bd_e k205 f208.symm
            refine go_iconst (pc := 255) (v := 1) (by decide) dX8_laysWay_255 ?_
            refine gf_icmp_ne (pc := 256) (tgt := 264) (ti_rfl v209) (ti_c (v := 1) (a := 1) (by decide)) (by decide) dX8_laysWay_256 (fun q211 => ?_) (fun q211 => ?_)
            ·
              have k212 := if_t k210 q211
              refine go_iconst (pc := 264) (v := 0) (by decide) dX8_laysWay_264 ?_
              refine go_invS (pc := 265) (sl := 0) (s_X8_statementPlace2_f l (d + 4) hv200 l2 (by rw [show (l2 : Int32).toInt = l2.toInt from (ti_rfl l2)]; omega) (by rw [show (l2 : Int32).toInt = l2.toInt from (ti_rfl l2)]; omega) 0 (by rw [show (0 : Int32).toInt = 0 from (ti_c (v := 0) (a := 0) (by decide))]; omega) (by rw [show (0 : Int32).toInt = 0 from (ti_c (v := 0) (a := 0) (by decide))]; omega)) mL_X8_291 iM_X8_statementPlace rfl rfl (Nat.le_of_ble_eq_true rfl) (show d + 4 + 1 + 1 ≤ d + 6 by omega) (show 8 + (2 + 11) + 40 * (d + 4 + 1) ≤ 40 * (d + 6) by omega) (g_c0 hv200.ln) (Nat.le_of_ble_eq_true rfl) dX8_laysWay_265 ?_
              intro r h213 hq _
              obtain ⟨v215, rfl, v215l, v215u, rfl, f214⟩ := hq
              try rw [show (0 : Int32).toInt = 0 from (ti_c (v := 0) (a := 0) (by decide))] at f214
              replace f214 : PE _ _ := f214
              have k216 := bd_e k212 f214.symm
              refine go_invV (pc := 268) (sl := 0) (s_X8_hang2_f l (d + 4) hv200 v204 (by rw [show (v204 : Int32).toInt = v204.toInt from (ti_rfl v204)]; omega) (by rw [show (v204 : Int32).toInt = v204.toInt from (ti_rfl v204)]; omega) v215 (by rw [show (v215 : Int32).toInt = v215.toInt from (ti_rfl v215)]; omega) (by rw [show (v215 : Int32).toInt = v215.toInt from (ti_rfl v215)]; omega)) mL_X8_303 iM_X8_hang sM_X8_hang (hv200.sh rfl) rfl rfl rfl (Nat.le_of_ble_eq_true rfl) (show d + 4 + 1 + 1 ≤ d + 6 by omega) (show 8 + (3 + 11) + 40 * (d + 4 + 1) ≤ 40 * (d + 6) by omega) (g_c0 hv200.ln) (Nat.le_of_ble_eq_true rfl) dX8_laysWay_268 ?_
              intro r h217 hq _
              obtain ⟨rfl, hv217, f218, f219⟩ := hq
              have fx217 : FX KAr h h217 := FX.tr fx200 f219
              have k220 := bd_e k216 f218.symm
              refine gf_iinc (pc := 271) (Nat.le_of_ble_eq_true rfl) rfl (ti_rfl l5) (ti_c (by decide)) (by omega) (by omega) dX8_laysWay_271 (fun v221 e222 => ?_)
              refine go_lv (lv2 := [(0, .ref 70), (2, .int l2), (3, .long l3), (5, .int v221)]) rfl ?_
              refine go_goto (pc := 274) (tgt := 203) (by decide) dX8_laysWay_274 ?_
              have z223 : (v221 : Int32).toInt = (l5.toInt + 1) := e222
              exact go_lv rfl (ih.2.2.2.2.2.1 l2 l3 v221 h217 hv217 (by omega) (by omega) (by omega) (by omega) fx217 (by rw [show (v221 : Int32).toInt = (l5.toInt + 1) from e222]; exact k220) (by omega))
            ·
              have k224 := if_f k210 (fun z => z q211)
              refine go_bipush (pc := 259) (v := 8) (by decide) dX8_laysWay_259 ?_
              refine go_goto (pc := 261) (tgt := 265) (by decide) dX8_laysWay_261 ?_
              refine go_invS (pc := 265) (sl := 0) (s_X8_statementPlace2_f l (d + 4) hv200 l2 (by rw [show (l2 : Int32).toInt = l2.toInt from (ti_rfl l2)]; omega) (by rw [show (l2 : Int32).toInt = l2.toInt from (ti_rfl l2)]; omega) 8 (by rw [show (8 : Int32).toInt = 8 from (ti_c (v := 8) (a := 8) (by decide))]; omega) (by rw [show (8 : Int32).toInt = 8 from (ti_c (v := 8) (a := 8) (by decide))]; omega)) mL_X8_291 iM_X8_statementPlace rfl rfl (Nat.le_of_ble_eq_true rfl) (show d + 4 + 1 + 1 ≤ d + 6 by omega) (show 8 + (2 + 11) + 40 * (d + 4 + 1) ≤ 40 * (d + 6) by omega) (g_c0 hv200.ln) (Nat.le_of_ble_eq_true rfl) dX8_laysWay_265 ?_
              intro r h225 hq _
              obtain ⟨v227, rfl, v227l, v227u, rfl, f226⟩ := hq
              try rw [show (8 : Int32).toInt = 8 from (ti_c (v := 8) (a := 8) (by decide))] at f226
              replace f226 : PE _ _ := f226
              have k228 := bd_e k224 f226.symm
              refine go_invV (pc := 268) (sl := 0) (s_X8_hang2_f l (d + 4) hv200 v204 (by rw [show (v204 : Int32).toInt = v204.toInt from (ti_rfl v204)]; omega) (by rw [show (v204 : Int32).toInt = v204.toInt from (ti_rfl v204)]; omega) v227 (by rw [show (v227 : Int32).toInt = v227.toInt from (ti_rfl v227)]; omega) (by rw [show (v227 : Int32).toInt = v227.toInt from (ti_rfl v227)]; omega)) mL_X8_303 iM_X8_hang sM_X8_hang (hv200.sh rfl) rfl rfl rfl (Nat.le_of_ble_eq_true rfl) (show d + 4 + 1 + 1 ≤ d + 6 by omega) (show 8 + (3 + 11) + 40 * (d + 4 + 1) ≤ 40 * (d + 6) by omega) (g_c0 hv200.ln) (Nat.le_of_ble_eq_true rfl) dX8_laysWay_268 ?_
              intro r h229 hq _
              obtain ⟨rfl, hv229, f230, f231⟩ := hq
              have fx229 : FX KAr h h229 := FX.tr fx200 f231
              have k232 := bd_e k228 f230.symm
              refine gf_iinc (pc := 271) (Nat.le_of_ble_eq_true rfl) rfl (ti_rfl l5) (ti_c (by decide)) (by omega) (by omega) dX8_laysWay_271 (fun v233 e234 => ?_)
              refine go_lv (lv2 := [(0, .ref 70), (2, .int l2), (3, .long l3), (5, .int v233)]) rfl ?_
              refine go_goto (pc := 274) (tgt := 203) (by decide) dX8_laysWay_274 ?_
              have z235 : (v233 : Int32).toInt = (l5.toInt + 1) := e234
              exact go_lv rfl (ih.2.2.2.2.2.1 l2 l3 v233 h229 hv229 (by omega) (by omega) (by omega) (by omega) fx229 (by rw [show (v233 : Int32).toInt = (l5.toInt + 1) from e234]; exact k232) (by omega))
          ·
            have k236 := if_f k191 (fun z => z q192)
            refine go_goto (pc := 226) (tgt := 271) (by decide) dX8_laysWay_226 ?_
            refine gf_iinc (pc := 271) (Nat.le_of_ble_eq_true rfl) rfl (ti_rfl l5) (ti_c (by decide)) (by omega) (by omega) dX8_laysWay_271 (fun v237 e238 => ?_)
            refine go_lv (lv2 := [(0, .ref 70), (2, .int l2), (3, .long l3), (5, .int v237)]) rfl ?_
            refine go_goto (pc := 274) (tgt := 203) (by decide) dX8_laysWay_274 ?_
            have z239 : (v237 : Int32).toInt = (l5.toInt + 1) := e238
            exact go_lv rfl (ih.2.2.2.2.2.1 l2 l3 v237 hx hvx (by omega) (by omega) (by omega) (by omega) fxx (by rw [show (v237 : Int32).toInt = (l5.toInt + 1) from e238]; exact k236) (by omega))
      ·
        intro l2 hx hvx l2l l2u fxx kL hm
        rw [f_X8_laysWay2_] at kL
        replace kL := if_f kL (by decide)
        replace kL := if_f kL (by decide)
        replace kL := if_f kL (by decide)
        replace kL := if_f kL (by decide)
        replace kL := if_f kL (by decide)
        replace kL := if_f kL (by decide)
        replace kL := if_t kL _root_.rfl
        refine go_iload_n (pc := 285) rfl dX8_laysWay_285 ?_
        refine go_aload_n (pc := 286) rfl dX8_laysWay_286 ?_
        refine gi_getF (pc := 287) (q := 76) hvx fL_X8_26 rfl (Nat.le_of_ble_eq_true rfl) rfl (hvx.rf (by decide)) dX8_laysWay_287 ?_
        refine go_aload_n (pc := 290) rfl dX8_laysWay_290 ?_
        refine gi_get (pc := 291) (lo := 0) (hi := 1) hvx fL_X8_187 rfl (Nat.le_of_ble_eq_true rfl) rfl rfl dX8_laysWay_291 (fun v240 v240l v240u v240w => ?_)
        have k241 := bd_e kL (congrArg Int32.toInt v240w.symm)
        have v240S : v240.toInt = S := by rw [v240w, hvx.fy (j := 6) (by omega), ← hv.fy (j := 6) (by omega)]; exact hS.symm
        refine gi_iald (pc := 294) (lo := 0) (hi := 5) (len := 2) hvx (ti_rfl v240) rfl (by omega) (by omega) (fun _ => rfl) dX8_laysWay_294 (fun v242 v242l v242u v242w => ?_)
        have k243 := bd_e k241 (congrArg Int32.toInt v242w.symm)
        have v242V : v242.toInt = V h.2.1 76 S := by rw [v242w, v240S, hvx.fz (c := 76) (by omega) (by omega), ← hv.fz (c := 76) (by omega) (by omega)]; rfl
        refine gf_icmp_ge (pc := 295) (tgt := 375) (ti_rfl l2) (ti_rfl v242) (by decide) dX8_laysWay_295 (fun q244 => ?_) (fun q244 => ?_)
        ·
          have k245 := if_t k243 q244
          refine go_iconst (pc := 375) (v := 0) (by decide) dX8_laysWay_375 ?_
          refine go_istore_n (pc := 376) (Nat.le_of_ble_eq_true rfl) dX8_laysWay_376 (go_lv (lv2 := [(0, .ref 70), (2, .int 0)]) rfl ?_)
          have z246 : (0 : Int32).toInt = 0 := (ti_c (v := 0) (a := 0) (by decide))
          exact go_lv rfl (ih.2.2.2.2.2.2.2.2.1 0 hx hvx (by omega) (by omega) fxx (by rw [show (0 : Int32).toInt = 0 from (ti_c (v := 0) (a := 0) (by decide))]; exact k245) (by omega))
        ·
          have k247 := if_f k243 (Int.not_le.mpr q244)
          refine go_aload_n (pc := 298) rfl dX8_laysWay_298 ?_
          refine gi_getF (pc := 299) (q := 107) hvx fL_X8_121 rfl (Nat.le_of_ble_eq_true rfl) rfl (hvx.rf (by decide)) dX8_laysWay_299 ?_
          refine go_iload_n (pc := 302) rfl dX8_laysWay_302 ?_
          refine go_aload_n (pc := 303) rfl dX8_laysWay_303 ?_
          refine go_aload_n (pc := 304) rfl dX8_laysWay_304 ?_
          refine gi_getF (pc := 305) (q := 100) hvx fL_X8_98 rfl (Nat.le_of_ble_eq_true rfl) rfl (hvx.rf (by decide)) dX8_laysWay_305 ?_
          refine go_iconst (pc := 308) (v := 5) (by decide) dX8_laysWay_308 ?_
          refine go_aload_n (pc := 309) rfl dX8_laysWay_309 ?_
          refine gi_get (pc := 310) (lo := 0) (hi := 1) hvx fL_X8_187 rfl (Nat.le_of_ble_eq_true rfl) rfl rfl dX8_laysWay_310 (fun v248 v248l v248u v248w => ?_)
          have v248r : v240 = hx.2.1 70 6 := v240w
          have v248q : TI v248 v240.toInt := by rw [v248w.trans v248r.symm]; exact (ti_rfl v240)
          refine gf_imul (pc := 313) (ti_c (v := 5) (a := 5) (by decide)) v248q (by omega) (by omega) dX8_laysWay_313 (fun v249 e250 => ?_)
          refine go_iload_n (pc := 314) rfl dX8_laysWay_314 ?_
          refine gf_iadd (pc := 315) e250 (ti_rfl l2) (by omega) (by omega) dX8_laysWay_315 (fun v251 e252 => ?_)
          refine gi_iald (pc := 316) (lo := -1) (hi := 39) (len := 10) hvx e252 rfl (by omega) (by omega) (fun _ => rfl) dX8_laysWay_316 (fun v253 v253l v253u v253w => ?_)
          have k254 := bd_e k247 (congrArg Int32.toInt v253w.symm)
          have v253V : v253.toInt = V h.2.1 100 (((5 * S) + l2.toInt)) := by rw [v253w, v240S, hvx.fz (c := 100) (by omega) (by omega), ← hv.fz (c := 100) (by omega) (by omega)]; rfl
          refine go_invV (pc := 317) (sl := 0) (s_X8_onAllFrom_x2_f l (d + 4) hvx v253 (by rw [show (v253 : Int32).toInt = v253.toInt from (ti_rfl v253)]; omega) (by rw [show (v253 : Int32).toInt = v253.toInt from (ti_rfl v253)]; omega)) mL_X8_334 iM_X8_onAllFrom sM_X8_onAllFrom (hvx.sh rfl) rfl rfl rfl (Nat.le_of_ble_eq_true rfl) (show d + 4 + 1 + 1 ≤ d + 6 by omega) (show 8 + (2 + 11) + 40 * (d + 4 + 1) ≤ 40 * (d + 6) by omega) (g_c0 hvx.ln) (Nat.le_of_ble_eq_true rfl) dX8_laysWay_317 ?_
          intro r h255 hq _
          obtain ⟨v258, rfl, rfl, f256, f257⟩ := hq
          have k259 := bd_e k254 f257.symm
          refine gi_last (pc := 320) (len := 5) hvx (ti_rfl l2) rfl (by omega) (by omega) dX8_laysWay_320 (fun h260 hv260 hv260e => ?_)
          have fx260 : FX KAr h h260 := FX.pL fxx hv260e (by unfold KAr; omega)
          have k261 := bd_e k259 (st_L hv260e)
          refine go_iconst (pc := 321) (v := 0) (by decide) dX8_laysWay_321 ?_
          refine go_istore_n (pc := 322) (Nat.le_of_ble_eq_true rfl) dX8_laysWay_322 (go_lv (lv2 := [(0, .ref 70), (2, .int l2), (3, .int 0)]) rfl ?_)
          have z262 : (0 : Int32).toInt = 0 := (ti_c (v := 0) (a := 0) (by decide))
          exact go_lv rfl (ih.2.2.2.2.2.2.2.1 l2 0 h260 hv260 (by omega) (by omega) (by omega) (by omega) fx260 (by rw [show (0 : Int32).toInt = 0 from (ti_c (v := 0) (a := 0) (by decide))]; exact k261) (by omega))
      ·
        intro l2 l3 hx hvx l2l l2u l3l l3u fxx kL hm
        rw [f_X8_laysWay2_] at kL
        replace kL := if_f kL (by decide)
        replace kL := if_f kL (by decide)
        replace kL := if_f kL (by decide)
        replace kL := if_f kL (by decide)
        replace kL := if_f kL (by decide)
        replace kL := if_f kL (by decide)
        replace kL := if_f kL (by decide)
        replace kL := if_t kL _root_.rfl
        refine go_iload_n (pc := 323) rfl dX8_laysWay_323 ?_
        refine go_aload_n (pc := 324) rfl dX8_laysWay_324 ?_
        refine gi_getF (pc := 325) (q := 75) hvx fL_X8_23 rfl (Nat.le_of_ble_eq_true rfl) rfl (hvx.rf (by decide)) dX8_laysWay_325 ?_
        refine go_aload_n (pc := 328) rfl dX8_laysWay_328 ?_
        refine gi_get (pc := 329) (lo := 0) (hi := 1) hvx fL_X8_187 rfl (Nat.le_of_ble_eq_true rfl) rfl rfl dX8_laysWay_329 (fun v263 v263l v263u v263w => ?_)
        have k264 := bd_e kL (congrArg Int32.toInt v263w.symm)
        have v263S : v263.toInt = S := by rw [v263w, hvx.fy (j := 6) (by omega), ← hv.fy (j := 6) (by omega)]; exact hS.symm
        refine gi_iald (pc := 332) (lo := 0) (hi := 40) (len := 2) hvx (ti_rfl v263) rfl (by omega) (by omega) (fun _ => rfl) dX8_laysWay_332 (fun v265 v265l v265u v265w => ?_)
        have k266 := bd_e k264 (congrArg Int32.toInt v265w.symm)
        have v265V : v265.toInt = V h.2.1 75 S := by rw [v265w, v263S, hvx.fz (c := 75) (by omega) (by omega), ← hv.fz (c := 75) (by omega) (by omega)]; rfl
        refine gf_icmp_ge (pc := 333) (tgt := 369) (ti_rfl l3) (ti_rfl v265) (by decide) dX8_laysWay_333 (fun q267 => ?_) (fun q267 => ?_)
        ·
          have k268 := if_t k266 q267
          refine gf_iinc (pc := 369) (Nat.le_of_ble_eq_true rfl) rfl (ti_rfl l2) (ti_c (by decide)) (by omega) (by omega) dX8_laysWay_369 (fun v269 e270 => ?_)
          refine go_lv (lv2 := [(0, .ref 70), (2, .int v269), (3, .int l3)]) rfl ?_
          refine go_goto (pc := 372) (tgt := 285) (by decide) dX8_laysWay_372 ?_
          have z271 : (v269 : Int32).toInt = (l2.toInt + 1) := e270
          exact go_lv rfl (ih.2.2.2.2.2.2.1 v269 hx hvx (by omega) (by omega) fxx (by rw [show (v269 : Int32).toInt = (l2.toInt + 1) from e270]; exact k268) (by omega))
        ·
          have k272 := if_f k266 (Int.not_le.mpr q267)
          refine go_aload_n (pc := 336) rfl dX8_laysWay_336 ?_
          refine gi_getF (pc := 337) (q := 107) hvx fL_X8_121 rfl (Nat.le_of_ble_eq_true rfl) rfl (hvx.rf (by decide)) dX8_laysWay_337 ?_
          refine go_iload_n (pc := 340) rfl dX8_laysWay_340 ?_
          refine gi_lald (pc := 341) (len := 5) hvx (ti_rfl l2) rfl (by omega) (by omega) dX8_laysWay_341 (fun v273 v273w => ?_)
          have k274 := bd_e k272 v273w.symm
          refine go_iload_n (pc := 342) rfl dX8_laysWay_342 ?_
          refine go_invS (pc := 343) (sl := 0) (s_X8_has2_f l (d + 4) hvx v273 l3) mL_X8_280 iM_X8_has rfl rfl (Nat.le_of_ble_eq_true rfl) (show d + 4 + 1 + 1 ≤ d + 6 by omega) (show 8 + (3 + 11) + 40 * (d + 4 + 1) ≤ 40 * (d + 6) by omega) (g_c0 hvx.ln) (Nat.le_of_ble_eq_true rfl) dX8_laysWay_343 ?_
          intro r h275 hq _
          obtain ⟨v277, rfl, v277l, v277u, rfl, f276⟩ := hq
          replace f276 : PE _ _ := f276
          have k278 := bd_e k274 f276.symm
          refine gf_if_eq (pc := 346) (tgt := 363) (ti_rfl v277) (by decide) dX8_laysWay_346 (fun q279 => ?_) (fun q279 => ?_)
          ·
            have k280 := if_t k278 q279
            refine gf_iinc (pc := 363) (Nat.le_of_ble_eq_true rfl) rfl (ti_rfl l3) (ti_c (by decide)) (by omega) (by omega) dX8_laysWay_363 (fun v281 e282 => ?_)
            refine go_lv (lv2 := [(0, .ref 70), (2, .int l2), (3, .int v281)]) rfl ?_
            refine go_goto (pc := 366) (tgt := 323) (by decide) dX8_laysWay_366 ?_
            have z283 : (v281 : Int32).toInt = (l3.toInt + 1) := e282
            exact go_lv rfl (ih.2.2.2.2.2.2.2.1 l2 v281 hx hvx (by omega) (by omega) (by omega) (by omega) fxx (by rw [show (v281 : Int32).toInt = (l3.toInt + 1) from e282]; exact k280) (by omega))
          ·
            have k284 := if_f k278 q279
            refine go_aload_n (pc := 349) rfl dX8_laysWay_349 ?_
            refine go_iload_n (pc := 350) rfl dX8_laysWay_350 ?_
            refine go_iconst (pc := 351) (v := 0) (by decide) dX8_laysWay_351 ?_
            refine go_invS (pc := 352) (sl := 0) (s_X8_statementPlace2_f l (d + 4) hvx l3 (by rw [show (l3 : Int32).toInt = l3.toInt from (ti_rfl l3)]; omega) (by rw [show (l3 : Int32).toInt = l3.toInt from (ti_rfl l3)]; omega) 0 (by rw [show (0 : Int32).toInt = 0 from (ti_c (v := 0) (a := 0) (by decide))]; omega) (by rw [show (0 : Int32).toInt = 0 from (ti_c (v := 0) (a := 0) (by decide))]; omega)) mL_X8_291 iM_X8_statementPlace rfl rfl (Nat.le_of_ble_eq_true rfl) (show d + 4 + 1 + 1 ≤ d + 6 by omega) (show 8 + (2 + 11) + 40 * (d + 4 + 1) ≤ 40 * (d + 6) by omega) (g_c0 hvx.ln) (Nat.le_of_ble_eq_true rfl) dX8_laysWay_352 ?_
            intro r h285 hq _
            obtain ⟨v287, rfl, v287l, v287u, rfl, f286⟩ := hq
            try rw [show (0 : Int32).toInt = 0 from (ti_c (v := 0) (a := 0) (by decide))] at f286
            replace f286 : PE _ _ := f286
            have k288 := bd_e k284 f286.symm
            refine go_iload_n (pc := 355) rfl dX8_laysWay_355 ?_
            refine go_iconst (pc := 356) (v := 0) (by decide) dX8_laysWay_356 ?_
            refine go_invS (pc := 357) (sl := 0) (s_X8_procedurePlace2_f l (d + 4) hvx l2 (by rw [show (l2 : Int32).toInt = l2.toInt from (ti_rfl l2)]; omega) (by rw [show (l2 : Int32).toInt = l2.toInt from (ti_rfl l2)]; omega) 0 (by rw [show (0 : Int32).toInt = 0 from (ti_c (v := 0) (a := 0) (by decide))]; omega) (by rw [show (0 : Int32).toInt = 0 from (ti_c (v := 0) (a := 0) (by decide))]; omega)) mL_X8_300 iM_X8_procedurePlace rfl rfl (Nat.le_of_ble_eq_true rfl) (show d + 4 + 1 + 1 ≤ d + 6 by omega) (show 8 + (2 + 11) + 40 * (d + 4 + 1) ≤ 40 * (d + 6) by omega) (g_c0 hvx.ln) (Nat.le_of_ble_eq_true rfl) dX8_laysWay_357 ?_
            intro r h289 hq _
            obtain ⟨v291, rfl, v291l, v291u, rfl, f290⟩ := hq
            try rw [show (0 : Int32).toInt = 0 from (ti_c (v := 0) (a := 0) (by decide))] at f290
            replace f290 : PE _ _ := f290
            have k292 := bd_e k288 f290.symm
            refine go_invV (pc := 360) (sl := 0) (s_X8_hang2_f l (d + 4) hvx v287 (by rw [show (v287 : Int32).toInt = v287.toInt from (ti_rfl v287)]; omega) (by rw [show (v287 : Int32).toInt = v287.toInt from (ti_rfl v287)]; omega) v291 (by rw [show (v291 : Int32).toInt = v291.toInt from (ti_rfl v291)]; omega) (by rw [show (v291 : Int32).toInt = v291.toInt from (ti_rfl v291)]; omega)) mL_X8_303 iM_X8_hang sM_X8_hang (hvx.sh rfl) rfl rfl rfl (Nat.le_of_ble_eq_true rfl) (show d + 4 + 1 + 1 ≤ d + 6 by omega) (show 8 + (3 + 11) + 40 * (d + 4 + 1) ≤ 40 * (d + 6) by omega) (g_c0 hvx.ln) (Nat.le_of_ble_eq_true rfl) dX8_laysWay_360 ?_
            intro r h293 hq _
            obtain ⟨rfl, hv293, f294, f295⟩ := hq
            have fx293 : FX KAr h h293 := FX.tr fxx f295
            have k296 := bd_e k292 f294.symm
            refine gf_iinc (pc := 363) (Nat.le_of_ble_eq_true rfl) rfl (ti_rfl l3) (ti_c (by decide)) (by omega) (by omega) dX8_laysWay_363 (fun v297 e298 => ?_)
            refine go_lv (lv2 := [(0, .ref 70), (2, .int l2), (3, .int v297)]) rfl ?_
            refine go_goto (pc := 366) (tgt := 323) (by decide) dX8_laysWay_366 ?_
            have z299 : (v297 : Int32).toInt = (l3.toInt + 1) := e298
            exact go_lv rfl (ih.2.2.2.2.2.2.2.1 l2 v297 h293 hv293 (by omega) (by omega) (by omega) (by omega) fx293 (by rw [show (v297 : Int32).toInt = (l3.toInt + 1) from e298]; exact k296) (by omega))
      ·
        intro l2 hx hvx l2l l2u fxx kL hm
        rw [f_X8_laysWay2_] at kL
        replace kL := if_f kL (by decide)
        replace kL := if_f kL (by decide)
        replace kL := if_f kL (by decide)
        replace kL := if_f kL (by decide)
        replace kL := if_f kL (by decide)
        replace kL := if_f kL (by decide)
        replace kL := if_f kL (by decide)
        replace kL := if_f kL (by decide)
        replace kL := if_t kL _root_.rfl
        refine go_iload_n (pc := 377) rfl dX8_laysWay_377 ?_
        refine go_aload_n (pc := 378) rfl dX8_laysWay_378 ?_
        refine gi_getF (pc := 379) (q := 75) hvx fL_X8_23 rfl (Nat.le_of_ble_eq_true rfl) rfl (hvx.rf (by decide)) dX8_laysWay_379 ?_
        refine go_aload_n (pc := 382) rfl dX8_laysWay_382 ?_
        refine gi_get (pc := 383) (lo := 0) (hi := 1) hvx fL_X8_187 rfl (Nat.le_of_ble_eq_true rfl) rfl rfl dX8_laysWay_383 (fun v300 v300l v300u v300w => ?_)
        have k301 := bd_e kL (congrArg Int32.toInt v300w.symm)
        have v300S : v300.toInt = S := by rw [v300w, hvx.fy (j := 6) (by omega), ← hv.fy (j := 6) (by omega)]; exact hS.symm
        refine gi_iald (pc := 386) (lo := 0) (hi := 40) (len := 2) hvx (ti_rfl v300) rfl (by omega) (by omega) (fun _ => rfl) dX8_laysWay_386 (fun v302 v302l v302u v302w => ?_)
        have k303 := bd_e k301 (congrArg Int32.toInt v302w.symm)
        have v302V : v302.toInt = V h.2.1 75 S := by rw [v302w, v300S, hvx.fz (c := 75) (by omega) (by omega), ← hv.fz (c := 75) (by omega) (by omega)]; rfl
        refine gf_icmp_ge (pc := 387) (tgt := 433) (ti_rfl l2) (ti_rfl v302) (by decide) dX8_laysWay_387 (fun q304 => ?_) (fun q304 => ?_)
        ·
          have k305 := if_t k303 q304
          exact gi_vret (pc := 433) ⟨rfl, hvx, (k305.symm.trans kf), fxx⟩ hvx dX8_laysWay_433
        ·
          have k306 := if_f k303 (Int.not_le.mpr q304)
          refine go_iconst (pc := 390) (v := 1) (by decide) dX8_laysWay_390 ?_
          refine go_istore_n (pc := 391) (Nat.le_of_ble_eq_true rfl) dX8_laysWay_391 (go_lv (lv2 := [(0, .ref 70), (2, .int l2), (3, .int 1)]) rfl ?_)
          have z307 : (1 : Int32).toInt = 1 := (ti_c (v := 1) (a := 1) (by decide))
          exact go_lv rfl (ih.2.2.2.2.2.2.2.2.2 l2 1 hx hvx (by omega) (by omega) (by omega) (by omega) fxx (by rw [show (1 : Int32).toInt = 1 from (ti_c (v := 1) (a := 1) (by decide))]; exact k306) (by omega))
      ·
        intro l2 l3 hx hvx l2l l2u l3l l3u fxx kL hm
        rw [f_X8_laysWay2_] at kL
        replace kL := if_f kL (by decide)
        replace kL := if_f kL (by decide)
        replace kL := if_f kL (by decide)
        replace kL := if_f kL (by decide)
        replace kL := if_f kL (by decide)
        replace kL := if_f kL (by decide)
        replace kL := if_f kL (by decide)
        replace kL := if_f kL (by decide)
        replace kL := if_f kL (by decide)
        refine go_iload_n (pc := 392) rfl dX8_laysWay_392 ?_
        refine go_bipush (pc := 393) (v := 13) (by decide) dX8_laysWay_393 ?_
        refine gf_icmp_ge (pc := 395) (tgt := 427) (ti_rfl l3) (ti_c (v := 13) (a := 13) (by decide)) (by decide) dX8_laysWay_395 (fun q308 => ?_) (fun q308 => ?_)
        ·
          have k309 := if_t kL q308
          refine gf_iinc (pc := 427) (Nat.le_of_ble_eq_true rfl) rfl (ti_rfl l2) (ti_c (by decide)) (by omega) (by omega) dX8_laysWay_427 (fun v310 e311 => ?_)
          refine go_lv (lv2 := [(0, .ref 70), (2, .int v310), (3, .int l3)]) rfl ?_
          refine go_goto (pc := 430) (tgt := 377) (by decide) dX8_laysWay_430 ?_
          have z312 : (v310 : Int32).toInt = (l2.toInt + 1) := e311
          exact go_lv rfl (ih.2.2.2.2.2.2.2.2.1 v310 hx hvx (by omega) (by omega) fxx (by rw [show (v310 : Int32).toInt = (l2.toInt + 1) from e311]; exact k309) (by omega))
        ·
          have k313 := if_f kL (Int.not_le.mpr q308)
          refine go_aload_n (pc := 398) rfl dX8_laysWay_398 ?_
          refine go_iload_n (pc := 399) rfl dX8_laysWay_399 ?_
          refine go_invV (pc := 400) (sl := 0) (s_X8_kindAt2_f l (d + 3) hvx l2 (by rw [show (l2 : Int32).toInt = l2.toInt from (ti_rfl l2)]; omega) (by rw [show (l2 : Int32).toInt = l2.toInt from (ti_rfl l2)]; omega)) mL_X8_271 iM_X8_kindAt sM_X8_kindAt (hvx.sh rfl) rfl rfl rfl (Nat.le_of_ble_eq_true rfl) (show d + 3 + 2 + 1 ≤ d + 6 by omega) (show 8 + (2 + 11) + 40 * (d + 3 + 2) ≤ 40 * (d + 6) by omega) (g_c0 hvx.ln) (Nat.le_of_ble_eq_true rfl) dX8_laysWay_400 ?_
          intro r h314 hq _
          obtain ⟨v317, rfl, v317l, v317u, rfl, f315, f316⟩ := hq
          have v317K : v317.toInt = V h.2.1 77 (V h.2.1 93 (40 * S + l2.toInt)) := by rw [f315]; unfold g_kd g_it; rw [hvx.fy (j := 6) (by omega), ← hv.fy (j := 6) (by omega), ← hS, hvx.fz (c := 93) (by omega) (by omega), ← hv.fz (c := 93) (by omega) (by omega), hvx.fz (c := 77) (by omega) (by omega), ← hv.fz (c := 77) (by omega) (by omega)]; rfl
          replace f316 : PE _ _ := f316
          have k318 := bd_e k313 f316.symm
          refine go_iconst (pc := 403) (v := 1) (by decide) dX8_laysWay_403 ?_
          refine gf_icmp_ne (pc := 404) (tgt := 427) (ti_rfl v317) (ti_c (v := 1) (a := 1) (by decide)) (by decide) dX8_laysWay_404 (fun q319 => ?_) (fun q319 => ?_)
          ·
            have k320 := if_t k318 q319
            refine gf_iinc (pc := 427) (Nat.le_of_ble_eq_true rfl) rfl (ti_rfl l2) (ti_c (by decide)) (by omega) (by omega) dX8_laysWay_427 (fun v321 e322 => ?_)
            refine go_lv (lv2 := [(0, .ref 70), (2, .int v321), (3, .int l3)]) rfl ?_
            refine go_goto (pc := 430) (tgt := 377) (by decide) dX8_laysWay_430 ?_
            have z323 : (v321 : Int32).toInt = (l2.toInt + 1) := e322
            exact go_lv rfl (ih.2.2.2.2.2.2.2.2.1 v321 hx hvx (by omega) (by omega) fxx (by rw [show (v321 : Int32).toInt = (l2.toInt + 1) from e322]; exact k320) (by omega))
          ·
            have k324 := if_f k318 (fun z => z q319)
            refine go_aload_n (pc := 407) rfl dX8_laysWay_407 ?_
            refine go_iload_n (pc := 408) rfl dX8_laysWay_408 ?_
            refine go_iload_n (pc := 409) rfl dX8_laysWay_409 ?_
            refine go_invS (pc := 410) (sl := 0) (s_X8_statementPlace2_f l (d + 4) hvx l2 (by rw [show (l2 : Int32).toInt = l2.toInt from (ti_rfl l2)]; omega) (by rw [show (l2 : Int32).toInt = l2.toInt from (ti_rfl l2)]; omega) l3 (by rw [show (l3 : Int32).toInt = l3.toInt from (ti_rfl l3)]; omega) (by rw [show (l3 : Int32).toInt = l3.toInt from (ti_rfl l3)]; omega)) mL_X8_291 iM_X8_statementPlace rfl rfl (Nat.le_of_ble_eq_true rfl) (show d + 4 + 1 + 1 ≤ d + 6 by omega) (show 8 + (2 + 11) + 40 * (d + 4 + 1) ≤ 40 * (d + 6) by omega) (g_c0 hvx.ln) (Nat.le_of_ble_eq_true rfl) dX8_laysWay_410 ?_
            intro r h325 hq _
            obtain ⟨v327, rfl, v327l, v327u, rfl, f326⟩ := hq
            replace f326 : PE _ _ := f326
            have k328 := bd_e k324 f326.symm
            refine go_iload_n (pc := 413) rfl dX8_laysWay_413 ?_
            refine go_iconst (pc := 414) (v := 0) (by decide) dX8_laysWay_414 ?_
            refine go_invS (pc := 415) (sl := 0) (s_X8_statementPlace2_f l (d + 4) hvx l2 (by rw [show (l2 : Int32).toInt = l2.toInt from (ti_rfl l2)]; omega) (by rw [show (l2 : Int32).toInt = l2.toInt from (ti_rfl l2)]; omega) 0 (by rw [show (0 : Int32).toInt = 0 from (ti_c (v := 0) (a := 0) (by decide))]; omega) (by rw [show (0 : Int32).toInt = 0 from (ti_c (v := 0) (a := 0) (by decide))]; omega)) mL_X8_291 iM_X8_statementPlace rfl rfl (Nat.le_of_ble_eq_true rfl) (show d + 4 + 1 + 1 ≤ d + 6 by omega) (show 8 + (2 + 11) + 40 * (d + 4 + 1) ≤ 40 * (d + 6) by omega) (g_c0 hvx.ln) (Nat.le_of_ble_eq_true rfl) dX8_laysWay_415 ?_
            intro r h329 hq _
            obtain ⟨v331, rfl, v331l, v331u, rfl, f330⟩ := hq
            try rw [show (0 : Int32).toInt = 0 from (ti_c (v := 0) (a := 0) (by decide))] at f330
            replace f330 : PE _ _ := f330
            have k332 := bd_e k328 f330.symm
            refine go_invV (pc := 418) (sl := 0) (s_X8_hang2_f l (d + 4) hvx v327 (by rw [show (v327 : Int32).toInt = v327.toInt from (ti_rfl v327)]; omega) (by rw [show (v327 : Int32).toInt = v327.toInt from (ti_rfl v327)]; omega) v331 (by rw [show (v331 : Int32).toInt = v331.toInt from (ti_rfl v331)]; omega) (by rw [show (v331 : Int32).toInt = v331.toInt from (ti_rfl v331)]; omega)) mL_X8_303 iM_X8_hang sM_X8_hang (hvx.sh rfl) rfl rfl rfl (Nat.le_of_ble_eq_true rfl) (show d + 4 + 1 + 1 ≤ d + 6 by omega) (show 8 + (3 + 11) + 40 * (d + 4 + 1) ≤ 40 * (d + 6) by omega) (g_c0 hvx.ln) (Nat.le_of_ble_eq_true rfl) dX8_laysWay_418 ?_
            intro r h333 hq _
            obtain ⟨rfl, hv333, f334, f335⟩ := hq
            have fx333 : FX KAr h h333 := FX.tr fxx f335
            have k336 := bd_e k332 f334.symm
            refine gf_iinc (pc := 421) (Nat.le_of_ble_eq_true rfl) rfl (ti_rfl l3) (ti_c (by decide)) (by omega) (by omega) dX8_laysWay_421 (fun v337 e338 => ?_)
            refine go_lv (lv2 := [(0, .ref 70), (2, .int l2), (3, .int v337)]) rfl ?_
            refine go_goto (pc := 424) (tgt := 392) (by decide) dX8_laysWay_424 ?_
            have z339 : (v337 : Int32).toInt = (l3.toInt + 1) := e338
            exact go_lv rfl (ih.2.2.2.2.2.2.2.2.2 l2 v337 h333 hv333 (by omega) (by omega) (by omega) (by omega) fx333 (by rw [show (v337 : Int32).toInt = (l3.toInt + 1) from e338]; exact k336) (by omega))
  have bgN : 2000000000000000000000001 ≤ BG 2000000000000000000000001 := BG_le _
  refine go_iconst (pc := 0) (v := 0) (by decide) dX8_laysWay_0 ?_
  refine go_istore_n (pc := 1) (Nat.le_of_ble_eq_true rfl) dX8_laysWay_1 (go_lv (lv2 := [(0, .ref 70), (1, .int 0)]) rfl ?_)
  have z340 : (0 : Int32).toInt = 0 := (ti_c (v := 0) (a := 0) (by decide))
  exact go_lv rfl ((key (BG 2000000000000000000000001)).1 0 h hv (by omega) (by omega) (fun j q => absurd q (by omega)) fx (by rw [show (0 : Int32).toInt = 0 from (ti_c (v := 0) (a := 0) (by decide))]; exact k0) (by omega))

