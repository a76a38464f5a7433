def f_X7_fault (s : ST) : Int :=
  bd (s.1 0 2) fun v1 => v1
set_option maxHeartbeats 4000000 in
set_option maxRecDepth 100000 in
theorem s_X7_fault_f (l : Launch) (d : Nat) {P : PP} {h : HP} (hv : Iv P h)  : Mt l yX7_fault cX7_fault 1 (some .int) (d + 1) [.ref 0] h 0 0 (fun r h' => ∃ v : Int32, r = some (.int v) ∧ -2147483648 ≤ v.toInt ∧ v.toInt ≤ 2147483647 ∧ h = h' ∧ (v.toInt = f_X7_fault (st h))) := by
  refine Mt_iv hv (by decide) (Nat.le_of_ble_eq_true rfl) ?_
  show Go l RX7 cX7_fault 1 (g_rm (d + 1) 0 0) "fault" (some .int) 117 0 0 (fun _ _ => True) (fun r h' => ∃ v : Int32, r = some (.int v) ∧ -2147483648 ≤ v.toInt ∧ v.toInt ≤ 2147483647 ∧ h = h' ∧ (v.toInt = f_X7_fault (st h))) 0 0 [(0, .ref 0)] [] h
  obtain ⟨fin, kf⟩ : ∃ z, z = f_X7_fault (st h) := ⟨_, _root_.rfl⟩
  have k0 := kf
  unfold f_X7_fault at k0
  refine go_aload_n (pc := 0) rfl dX7_fault_0 ?_
  refine gi_get (pc := 1) (lo := -2147483648) (hi := 2147483647) hv fL_X7_17 rfl (Nat.le_of_ble_eq_true rfl) rfl rfl dX7_fault_1 (fun v1 v1l v1u v1w => ?_)
  have k2 := bd_e k0 (congrArg Int32.toInt v1w.symm)
  exact gi_iret (pc := 4) (ti_rfl v1) ⟨_, rfl, (ti_lo _), (ti_hi _), rfl, (k2.symm.trans kf)⟩ hv dX7_fault_4
def f_X8_fault (s : ST) : Int :=
  bd (s.1 70 5) fun v1 => v1
set_option maxHeartbeats 4000000 in
set_option maxRecDepth 100000 in
theorem s_X8_fault_f (l : Launch) (d : Nat) {P : PP} {h : HP} (hv : Iv P h)  : Mt l yX8_fault cX8_fault 1 (some .int) (d + 1) [.ref 70] h 0 0 (fun r h' => ∃ v : Int32, r = some (.int v) ∧ -2147483648 ≤ v.toInt ∧ v.toInt ≤ 2147483647 ∧ h = h' ∧ (v.toInt = f_X8_fault (st h))) := by
  refine Mt_iv hv (by decide) (Nat.le_of_ble_eq_true rfl) ?_
  show Go l RX8 cX8_fault 1 (g_rm (d + 1) 0 0) "fault" (some .int) 117 0 0 (fun _ _ => True) (fun r h' => ∃ v : Int32, r = some (.int v) ∧ -2147483648 ≤ v.toInt ∧ v.toInt ≤ 2147483647 ∧ h = h' ∧ (v.toInt = f_X8_fault (st h))) 0 0 [(0, .ref 70)] [] h
  obtain ⟨fin, kf⟩ : ∃ z, z = f_X8_fault (st h) := ⟨_, _root_.rfl⟩
  have k0 := kf
  unfold f_X8_fault at k0
  refine go_aload_n (pc := 0) rfl dX8_fault_0 ?_
  refine gi_get (pc := 1) (lo := -2147483648) (hi := 2147483647) hv fL_X8_169 rfl (Nat.le_of_ble_eq_true rfl) rfl rfl dX8_fault_1 (fun v1 v1l v1u v1w => ?_)
  have k2 := bd_e k0 (congrArg Int32.toInt v1w.symm)
  exact gi_iret (pc := 4) (ti_rfl v1) ⟨_, rfl, (ti_lo _), (ti_hi _), rfl, (k2.symm.trans kf)⟩ hv dX8_fault_4
set_option maxHeartbeats 4000000 in
set_option maxRecDepth 100000 in
theorem s_X7_summary_f (l : Launch) (d : Nat) {P : PP} {h : HP} (hv : Iv P h) (a2 : Int32) (a3 : Int32) (a4 : Int32) : Mt l yX7_summary cX7_summary 4 (some .boolean) (d + 7) [.ref 0, .int a2, .int a3, .int a4] h 0 0 (fun r h' => ∃ v : Int32, r = some (.int v) ∧ 0 ≤ v.toInt ∧ v.toInt ≤ 1 ∧ Iv P h' ∧ (FX KAc h h')) := by
  refine Mt_iv hv (by decide) (Nat.le_of_ble_eq_true rfl) ?_
  show Go l RX7 cX7_summary 4 (g_rm (d + 7) 0 0) "summary" (some .boolean) 117 0 0 (fun _ _ => True) (fun r h' => ∃ v : Int32, r = some (.int v) ∧ 0 ≤ v.toInt ∧ v.toInt ≤ 1 ∧ Iv P h' ∧ (FX KAc h h')) 0 0 [(0, .ref 0), (1, .int a2), (2, .int a3), (3, .int a4)] [] h
  have fx : FX KAc h h := FX.rfl
  have key : ∀ n : Nat, (∀  (hx : HP), Iv P hx → FX KAc h hx → (1 : Int) < n → Go l RX7 cX7_summary 4 (g_rm (d + 7) 0 0) "summary" (some .boolean) 117 0 0 (fun _ _ => True) (fun r h' => ∃ v : Int32, r = some (.int v) ∧ 0 ≤ v.toInt ∧ v.toInt ≤ 1 ∧ Iv P h' ∧ (FX KAc h h')) 0 35 [] [] hx) := by
    intro n
    induction n with
    | zero => exact (by intros; omega)
    | succ n ih =>
      refine ?_
      ·
        intro hx hvx fxx hm
        refine go_iconst (pc := 35) (v := 0) (by decide) dX7_summary_35 ?_
        exact gi_zret (pc := 36) (ti_c (v := 0) (a := 0) (by decide)) (by omega) (by omega) ⟨_, rfl, (by rw [show (0 : Int32).toInt = 0 from (ti_c (v := 0) (a := 0) (by decide))]; omega), (by rw [show (0 : Int32).toInt = 0 from (ti_c (v := 0) (a := 0) (by decide))]; omega), hvx, fxx⟩ hvx dX7_summary_36
  refine go_aload_n (pc := 0) rfl dX7_summary_0 ?_
  refine go_iload_n (pc := 1) rfl dX7_summary_1 ?_
  refine go_invV (pc := 2) (sl := 0) (s_X7_isStatement l (d + 5) hv a2) mL_X7_87 iM_X7_isStatement sM_X7_isStatement (hv.sh rfl) rfl rfl rfl (Nat.le_of_ble_eq_true rfl) (show d + 5 + 1 + 1 ≤ d + 7 by omega) (show 8 + (2 + 11) + 40 * (d + 5 + 1) ≤ 40 * (d + 7) by omega) (g_c0 hv.ln) (Nat.le_of_ble_eq_true rfl) dX7_summary_2 ?_
  intro r h1 hq _
  obtain ⟨v2, rfl, v2l, v2u, rfl, f3⟩ := hq
  refine gf_if_eq (pc := 5) (tgt := 35) (ti_rfl v2) (by decide) dX7_summary_5 (fun q4 => ?_) (fun q4 => ?_)
  ·
    exact go_lv rfl ((key 14)  h hv fx (by omega))
  ·
    refine go_aload_n (pc := 8) rfl dX7_summary_8 ?_
    refine gi_getC (pc := 9) hv fL_X7_23 rfl (Nat.le_of_ble_eq_true rfl) rfl (by decide) dX7_summary_9 (fun c5 hc5 fc5 => ?_)
    refine gi_getF (pc := 12) (q := c5 + 2) hv fL_X7_91 (by rcases hc5 with rfl | rfl <;> rfl) (Nat.le_of_ble_eq_true rfl) rfl (by rcases hc5 with rfl | rfl <;> exact hv.rf (by decide)) dX7_summary_12 ?_
    refine go_iload_n (pc := 15) rfl dX7_summary_15 ?_
    refine gi_iald (pc := 16) (lo := 0) (hi := 5) (len := 40) hv (ti_rfl a2) (by rcases hc5 with rfl | rfl <;> rfl) (by omega) (by omega) (fun _ => by rcases hc5 with rfl | rfl <;> rfl) dX7_summary_16 (fun v6 v6l v6u v6w => ?_)
    refine go_iconst (pc := 17) (v := 1) (by decide) dX7_summary_17 ?_
    refine gf_icmp_ne (pc := 18) (tgt := 35) (ti_rfl v6) (ti_c (v := 1) (a := 1) (by decide)) (by decide) dX7_summary_18 (fun q7 => ?_) (fun q7 => ?_)
    ·
      exact go_lv rfl ((key 14)  h hv fx (by omega))
    ·
      refine go_iload_n (pc := 21) rfl dX7_summary_21 ?_
      refine go_invS (pc := 22) (sl := 0) (s_X7_isPort l (d + 5) hv a3) mL_X7_133 iM_X7_isPort rfl rfl (Nat.le_of_ble_eq_true rfl) (show d + 5 + 1 + 1 ≤ d + 7 by omega) (show 8 + (1 + 11) + 40 * (d + 5 + 1) ≤ 40 * (d + 7) by omega) (g_c0 hv.ln) (Nat.le_of_ble_eq_true rfl) dX7_summary_22 ?_
      intro r h8 hq _
      obtain ⟨v9, rfl, v9l, v9u, rfl, f10⟩ := hq
      refine gf_if_eq (pc := 25) (tgt := 35) (ti_rfl v9) (by decide) dX7_summary_25 (fun q11 => ?_) (fun q11 => ?_)
      ·
        exact go_lv rfl ((key 14)  h hv fx (by omega))
      ·
        refine go_iload_n (pc := 28) rfl dX7_summary_28 ?_
        refine go_invS (pc := 29) (sl := 0) (s_X7_isPort l (d + 5) hv a4) mL_X7_133 iM_X7_isPort rfl rfl (Nat.le_of_ble_eq_true rfl) (show d + 5 + 1 + 1 ≤ d + 7 by omega) (show 8 + (1 + 11) + 40 * (d + 5 + 1) ≤ 40 * (d + 7) by omega) (g_c0 hv.ln) (Nat.le_of_ble_eq_true rfl) dX7_summary_29 ?_
        intro r h12 hq _
        obtain ⟨v13, rfl, v13l, v13u, rfl, f14⟩ := hq
        refine gf_if_ne (pc := 32) (tgt := 37) (ti_rfl v13) (by decide) dX7_summary_32 (fun q15 => ?_) (fun q15 => ?_)
        ·
          refine go_aload_n (pc := 37) rfl dX7_summary_37 ?_
          refine gi_getF (pc := 38) (q := 49) hv fL_X7_42 rfl (Nat.le_of_ble_eq_true rfl) rfl (hv.rf (by decide)) dX7_summary_38 ?_
          refine go_aload_n (pc := 41) rfl dX7_summary_41 ?_
          refine gi_getC (pc := 42) hv fL_X7_23 rfl (Nat.le_of_ble_eq_true rfl) rfl (by decide) dX7_summary_42 (fun c16 hc16 fc16 => ?_)
          refine go_invV (pc := 45) (sl := 0) (s_X4_prepare_f l (d + 0) hv c16 hc16) mL_X7_113 iM_X4_prepare sM_X4_prepare (hv.sh rfl) rfl rfl rfl (Nat.le_of_ble_eq_true rfl) (show d + 0 + 6 + 1 ≤ d + 7 by omega) (show 8 + (4 + 11) + 40 * (d + 0 + 6) ≤ 40 * (d + 7) by omega) (g_c0 hv.ln) (Nat.le_of_ble_eq_true rfl) dX7_summary_45 ?_
          intro r h17 hq _
          obtain ⟨rfl, hv17, f18⟩ := hq
          have fx17 : FX KAc h h17 := FX.tr fx f18
          refine go_aload_n (pc := 48) rfl dX7_summary_48 ?_
          refine gi_getF (pc := 49) (q := 49) hv17 fL_X7_42 rfl (Nat.le_of_ble_eq_true rfl) rfl (hv17.rf (by decide)) dX7_summary_49 ?_
          refine go_aload_n (pc := 52) rfl dX7_summary_52 ?_
          refine gi_getC (pc := 53) hv17 fL_X7_23 rfl (Nat.le_of_ble_eq_true rfl) rfl (by decide) dX7_summary_53 (fun c19 hc19 fc19 => ?_)
          refine gi_getF (pc := 56) (q := c19 + 7) hv17 fL_X7_101 (by rcases hc19 with rfl | rfl <;> rfl) (Nat.le_of_ble_eq_true rfl) rfl (by rcases hc19 with rfl | rfl <;> exact hv17.rf (by decide)) dX7_summary_56 ?_
          refine go_iload_n (pc := 59) rfl dX7_summary_59 ?_
          refine gi_iald (pc := 60) (lo := -2) (hi := 4) (len := 40) hv17 (ti_rfl a2) (by rcases hc19 with rfl | rfl <;> rfl) (by omega) (by omega) (fun _ => by rcases hc19 with rfl | rfl <;> rfl) dX7_summary_60 (fun v20 v20l v20u v20w => ?_)
          have kk : 0 ≤ v20.toInt := by rw [v20w]; exact hv.sum hv17 fc5 fc19 hc19 (by rw [← v6w]; omega)
          refine go_iload_n (pc := 61) rfl dX7_summary_61 ?_
          refine go_iload_n (pc := 62) rfl dX7_summary_62 ?_
          refine go_invV (pc := 63) (sl := 0) (s_X4_leadsThrough l (d + 4) hv17 v20 (by rw [show (v20 : Int32).toInt = v20.toInt from (ti_rfl v20)]; omega) (by rw [show (v20 : Int32).toInt = v20.toInt from (ti_rfl v20)]; omega) a3 a4 (by rw [show (a4 : Int32).toInt = a4.toInt from (ti_rfl a4)]; omega) (by rw [show (a4 : Int32).toInt = a4.toInt from (ti_rfl a4)]; omega)) mL_X7_136 iM_X4_leadsThrough sM_X4_leadsThrough (hv17.sh rfl) rfl rfl rfl (Nat.le_of_ble_eq_true rfl) (show d + 4 + 2 + 1 ≤ d + 7 by omega) (show 8 + (4 + 11) + 40 * (d + 4 + 2) ≤ 40 * (d + 7) by omega) (g_c0 hv17.ln) (Nat.le_of_ble_eq_true rfl) dX7_summary_63 ?_
          intro r h21 hq _
          obtain ⟨v22, rfl, v22l, v22u, rfl⟩ := hq
          exact gi_zret (pc := 66) (ti_rfl v22) (by omega) (by omega) ⟨_, rfl, (by rw [show (v22 : Int32).toInt = v22.toInt from (ti_rfl v22)]; omega), (by rw [show (v22 : Int32).toInt = v22.toInt from (ti_rfl v22)]; omega), hv17, fx17⟩ hv17 dX7_summary_66
        ·
          exact go_lv rfl ((key 14)  h hv fx (by omega))
