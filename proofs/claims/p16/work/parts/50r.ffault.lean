def f_X7_fault (s : ST) : Int :=
  bd (s.1 0 2) fun v1 => v1
set_option maxHeartbeats 4000000 in
set_option maxRecDepth 100000 in
theorem s_X7_fault_f (l : Launch) (d : Nat) {P : PP} {h : HP} (hv : Iv P h)  : Mt l yX7_fault cX7_fault 1 (some .int) (d + 1) [.ref 0] h 0 0 (fun r h' => ∃ v : Int32, r = some (.int v) ∧ -2147483648 ≤ v.toInt ∧ v.toInt ≤ 2147483647 ∧ h = h' ∧ (v.toInt = f_X7_fault (st h))) := by
  refine Mt_iv hv (by decide) (Nat.le_of_ble_eq_true rfl) ?_
  show Go l RX7 cX7_fault 1 (g_rm (d + 1) 0 0) "fault" (some .int) 117 0 0 (fun _ _ => True) (fun r h' => ∃ v : Int32, r = some (.int v) ∧ -2147483648 ≤ v.toInt ∧ v.toInt ≤ 2147483647 ∧ h = h' ∧ (v.toInt = f_X7_fault (st h))) 0 0 [(0, .ref 0)] [] h
  obtain ⟨fin, kf⟩ : ∃ z, z = f_X7_fault (st h) := ⟨_, _root_.rfl⟩
  have k0 := kf
  unfold f_X7_fault at k0
  refine go_aload_n (pc := 0) rfl dX7_fault_0 ?_
  refine gi_get (pc := 1) (lo := -2147483648) (hi := 2147483647) hv fL_X7_17 rfl (Nat.le_of_ble_eq_true rfl) rfl rfl dX7_fault_1 (fun v1 v1l v1u v1w => ?_)
  have k2 := bd_e k0 (congrArg Int32.toInt v1w.symm)
  exact gi_iret (pc := 4) (ti_rfl v1) ⟨_, rfl, (ti_lo _), (ti_hi _), rfl, (k2.symm.trans kf)⟩ hv dX7_fault_4
def f_X8_fault (s : ST) : Int :=
  bd (s.1 70 5) fun v1 => v1
set_option maxHeartbeats 4000000 in
set_option maxRecDepth 100000 in
theorem s_X8_fault_f (l : Launch) (d : Nat) {P : PP} {h : HP} (hv : Iv P h)  : Mt l yX8_fault cX8_fault 1 (some .int) (d + 1) [.ref 70] h 0 0 (fun r h' => ∃ v : Int32, r = some (.int v) ∧ -2147483648 ≤ v.toInt ∧ v.toInt ≤ 2147483647 ∧ h = h' ∧ (v.toInt = f_X8_fault (st h))) := by
  refine Mt_iv hv (by decide) (Nat.le_of_ble_eq_true rfl) ?_
  show Go l RX8 cX8_fault 1 (g_rm (d + 1) 0 0) "fault" (some .int) 117 0 0 (fun _ _ => True) (fun r h' => ∃ v : Int32, r = some (.int v) ∧ -2147483648 ≤ v.toInt ∧ v.toInt ≤ 2147483647 ∧ h = h' ∧ (v.toInt = f_X8_fault (st h))) 0 0 [(0, .ref 70)] [] h
  obtain ⟨fin, kf⟩ : ∃ z, z = f_X8_fault (st h) := ⟨_, _root_.rfl⟩
  have k0 := kf
  unfold f_X8_fault at k0
  refine go_aload_n (pc := 0) rfl dX8_fault_0 ?_
  refine gi_get (pc := 1) (lo := -2147483648) (hi := 2147483647) hv fL_X8_169 rfl (Nat.le_of_ble_eq_true rfl) rfl rfl dX8_fault_1 (fun v1 v1l v1u v1w => ?_)
  have k2 := bd_e k0 (congrArg Int32.toInt v1w.symm)
  exact gi_iret (pc := 4) (ti_rfl v1) ⟨_, rfl, (ti_lo _), (ti_hi _), rfl, (k2.symm.trans kf)⟩ hv dX8_fault_4

