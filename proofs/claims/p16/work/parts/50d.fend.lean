def f_X7_has (s : ST) (a1 : Int64) (a2 : Int) : Int :=
  bd (o_lushr a1 a2) fun v1 => bd (o_land v1 (1 : Int64)) fun v3 => bd (o_lcmp v3 (0 : Int64)) fun v5 => if v5 = 0 then (0) else (1)
set_option maxHeartbeats 4000000 in
set_option maxRecDepth 100000 in
theorem s_X7_has_f (l : Launch) (d : Nat) {P : PP} {h : HP} (hv : Iv P h) (a1 : Int64) (a2 : Int32) : Mt l yX7_has cX7_has 3 (some .boolean) (d + 1) [.long a1, .int a2] h 0 0 (fun r h' => ∃ v : Int32, r = some (.int v) ∧ 0 ≤ v.toInt ∧ v.toInt ≤ 1 ∧ h = h' ∧ (v.toInt = f_X7_has (st h) a1 a2.toInt)) := by
  refine Mt_iv hv (by decide) (Nat.le_of_ble_eq_true rfl) ?_
  show Go l RX7 cX7_has 3 (g_rm (d + 1) 0 0) "has" (some .boolean) 117 0 0 (fun _ _ => True) (fun r h' => ∃ v : Int32, r = some (.int v) ∧ 0 ≤ v.toInt ∧ v.toInt ≤ 1 ∧ h = h' ∧ (v.toInt = f_X7_has (st h) a1 a2.toInt)) 0 0 [(0, .long a1), (2, .int a2)] [] h
  obtain ⟨fin, kf⟩ : ∃ z, z = f_X7_has (st h) a1 a2.toInt := ⟨_, _root_.rfl⟩
  have k0 := kf
  unfold f_X7_has at k0
  refine go_lload_n (pc := 0) rfl dX7_has_0 ?_
  refine go_iload_n (pc := 1) rfl dX7_has_1 ?_
  refine gx_lushr (pc := 2) dX7_has_2 (fun v1 v1x => ?_)
  have k2 := bd_e k0 (so_lushr (ti_rfl a2) v1x)
  refine go_lconst (pc := 3) (v := 1) (by decide) dX7_has_3 ?_
  refine gx_land (pc := 4) dX7_has_4 (fun v3 v3x => ?_)
  have k4 := bd_e k2 (so_land v3x)
  refine go_lconst (pc := 5) (v := 0) (by decide) dX7_has_5 ?_
  refine gx_lcmp (pc := 6) dX7_has_6 (fun v5 v5x => ?_)
  have k6 := bd_e k4 (so_lcmp v5x)
  refine gf_if_eq (pc := 7) (tgt := 14) (ti_rfl v5) (by decide) dX7_has_7 (fun q7 => ?_) (fun q7 => ?_)
  ·
    have k8 := if_t k6 q7
    refine go_iconst (pc := 14) (v := 0) (by decide) dX7_has_14 ?_
    exact gi_zret (pc := 15) (ti_c (v := 0) (a := 0) (by decide)) (by omega) (by omega) ⟨_, rfl, (by rw [show (0 : Int32).toInt = 0 from (ti_c (v := 0) (a := 0) (by decide))]; omega), (by rw [show (0 : Int32).toInt = 0 from (ti_c (v := 0) (a := 0) (by decide))]; omega), rfl, (by rw [show (0 : Int32).toInt = 0 from (ti_c (v := 0) (a := 0) (by decide))]; exact k8.symm.trans kf)⟩ hv dX7_has_15
  ·
    have k9 := if_f k6 q7
    refine go_iconst (pc := 10) (v := 1) (by decide) dX7_has_10 ?_
    refine go_goto (pc := 11) (tgt := 15) (by decide) dX7_has_11 ?_
    exact gi_zret (pc := 15) (ti_c (v := 1) (a := 1) (by decide)) (by omega) (by omega) ⟨_, rfl, (by rw [show (1 : Int32).toInt = 1 from (ti_c (v := 1) (a := 1) (by decide))]; omega), (by rw [show (1 : Int32).toInt = 1 from (ti_c (v := 1) (a := 1) (by decide))]; omega), rfl, (by rw [show (1 : Int32).toInt = 1 from (ti_c (v := 1) (a := 1) (by decide))]; exact k9.symm.trans kf)⟩ hv dX7_has_15
def f_X0_decides (s : ST) (c1 : Nat) (a2 : Int) : Int :=
  bd (s.1 (c1 + 2) (a2).toNat) fun v1 => if ¬ v1 = 1 then (bd (s.1 (c1 + 2) (a2).toNat) fun v5 => if v5 = 0 then (0) else (1)) else (bd (s.1 c1 4) fun v11 => bd (o_i2l v11) fun v13 => bd (s.1 (c1 + 7) (a2).toNat) fun v15 => bd (f_X7_has s v13 v15) fun v19 => v19)
set_option maxHeartbeats 4000000 in
set_option maxRecDepth 100000 in
theorem s_X0_decides_f (l : Launch) (d : Nat) {P : PP} {h : HP} (hv : Iv P h) (c1 : Nat) (hc1 : c1 = 2 ∨ c1 = 18) (a2 : Int32) (a2l : 0 ≤ a2.toInt) (a2u : a2.toInt ≤ 39) : Mt l yX0_decides cX0_decides 2 (some .boolean) (d + 2) [.ref c1, .int a2] h 0 0 (fun r h' => ∃ v : Int32, r = some (.int v) ∧ 0 ≤ v.toInt ∧ v.toInt ≤ 1 ∧ h = h' ∧ (v.toInt = f_X0_decides (st h) c1 a2.toInt)) := by
  refine Mt_iv hv (by decide) (Nat.le_of_ble_eq_true rfl) ?_
  show Go l RX0 cX0_decides 2 (g_rm (d + 2) 0 0) "decides" (some .boolean) 117 0 0 (fun _ _ => True) (fun r h' => ∃ v : Int32, r = some (.int v) ∧ 0 ≤ v.toInt ∧ v.toInt ≤ 1 ∧ h = h' ∧ (v.toInt = f_X0_decides (st h) c1 a2.toInt)) 0 0 [(0, .ref c1), (1, .int a2)] [] h
  obtain ⟨fin, kf⟩ : ∃ z, z = f_X0_decides (st h) c1 a2.toInt := ⟨_, _root_.rfl⟩
  have k0 := kf
  unfold f_X0_decides at k0
  refine go_aload_n (pc := 0) rfl dX0_decides_0 ?_
  refine gi_getF (pc := 1) (q := c1 + 2) hv fL_X0_32 (by rcases hc1 with rfl | rfl <;> rfl) (Nat.le_of_ble_eq_true rfl) rfl (by rcases hc1 with rfl | rfl <;> exact hv.rf (by decide)) dX0_decides_1 ?_
  refine go_iload_n (pc := 4) rfl dX0_decides_4 ?_
  refine gi_iald (pc := 5) (lo := 0) (hi := 5) (len := 40) hv (ti_rfl a2) (by rcases hc1 with rfl | rfl <;> rfl) (by omega) (by omega) (fun _ => by rcases hc1 with rfl | rfl <;> rfl) dX0_decides_5 (fun v1 v1l v1u v1w => ?_)
  have k2 := bd_e k0 (congrArg Int32.toInt v1w.symm)
  refine go_iconst (pc := 6) (v := 1) (by decide) dX0_decides_6 ?_
  refine gf_icmp_ne (pc := 7) (tgt := 25) (ti_rfl v1) (ti_c (v := 1) (a := 1) (by decide)) (by decide) dX0_decides_7 (fun q3 => ?_) (fun q3 => ?_)
  ·
    have k4 := if_t k2 q3
    refine go_aload_n (pc := 25) rfl dX0_decides_25 ?_
    refine gi_getF (pc := 26) (q := c1 + 2) hv fL_X0_32 (by rcases hc1 with rfl | rfl <;> rfl) (Nat.le_of_ble_eq_true rfl) rfl (by rcases hc1 with rfl | rfl <;> exact hv.rf (by decide)) dX0_decides_26 ?_
    refine go_iload_n (pc := 29) rfl dX0_decides_29 ?_
    refine gi_iald (pc := 30) (lo := 0) (hi := 5) (len := 40) hv (ti_rfl a2) (by rcases hc1 with rfl | rfl <;> rfl) (by omega) (by omega) (fun _ => by rcases hc1 with rfl | rfl <;> rfl) dX0_decides_30 (fun v5 v5l v5u v5w => ?_)
    have k6 := bd_e k4 (congrArg Int32.toInt v5w.symm)
    refine gf_if_eq (pc := 31) (tgt := 38) (ti_rfl v5) (by decide) dX0_decides_31 (fun q7 => ?_) (fun q7 => ?_)
    ·
      have k8 := if_t k6 q7
      refine go_iconst (pc := 38) (v := 0) (by decide) dX0_decides_38 ?_
      exact gi_zret (pc := 39) (ti_c (v := 0) (a := 0) (by decide)) (by omega) (by omega) ⟨_, rfl, (by rw [show (0 : Int32).toInt = 0 from (ti_c (v := 0) (a := 0) (by decide))]; omega), (by rw [show (0 : Int32).toInt = 0 from (ti_c (v := 0) (a := 0) (by decide))]; omega), rfl, (by rw [show (0 : Int32).toInt = 0 from (ti_c (v := 0) (a := 0) (by decide))]; exact k8.symm.trans kf)⟩ hv dX0_decides_39
    ·
      have k9 := if_f k6 q7
      refine go_iconst (pc := 34) (v := 1) (by decide) dX0_decides_34 ?_
      refine go_goto (pc := 35) (tgt := 39) (by decide) dX0_decides_35 ?_
      exact gi_zret (pc := 39) (ti_c (v := 1) (a := 1) (by decide)) (by omega) (by omega) ⟨_, rfl, (by rw [show (1 : Int32).toInt = 1 from (ti_c (v := 1) (a := 1) (by decide))]; omega), (by rw [show (1 : Int32).toInt = 1 from (ti_c (v := 1) (a := 1) (by decide))]; omega), rfl, (by rw [show (1 : Int32).toInt = 1 from (ti_c (v := 1) (a := 1) (by decide))]; exact k9.symm.trans kf)⟩ hv dX0_decides_39
  ·
    have k10 := if_f k2 (fun z => z q3)
    refine go_aload_n (pc := 10) rfl dX0_decides_10 ?_
    refine gi_get (pc := 11) (lo := -2147483648) (hi := 2147483647) hv fL_X0_25 (by rcases hc1 with rfl | rfl <;> rfl) (Nat.le_of_ble_eq_true rfl) rfl (by rcases hc1 with rfl | rfl <;> rfl) dX0_decides_11 (fun v11 v11l v11u v11w => ?_)
    have k12 := bd_e k10 (congrArg Int32.toInt v11w.symm)
    refine gx_i2l (pc := 14) dX0_decides_14 (fun v13 v13x => ?_)
    have k14 := bd_e k12 (so_i2l (ti_rfl v11) v13x)
    refine go_aload_n (pc := 15) rfl dX0_decides_15 ?_
    refine gi_getF (pc := 16) (q := c1 + 7) hv fL_X0_47 (by rcases hc1 with rfl | rfl <;> rfl) (Nat.le_of_ble_eq_true rfl) rfl (by rcases hc1 with rfl | rfl <;> exact hv.rf (by decide)) dX0_decides_16 ?_
    refine go_iload_n (pc := 19) rfl dX0_decides_19 ?_
    refine gi_iald (pc := 20) (lo := -2) (hi := 4) (len := 40) hv (ti_rfl a2) (by rcases hc1 with rfl | rfl <;> rfl) (by omega) (by omega) (fun _ => by rcases hc1 with rfl | rfl <;> rfl) dX0_decides_20 (fun v15 v15l v15u v15w => ?_)
    have k16 := bd_e k14 (congrArg Int32.toInt v15w.symm)
    refine go_invS (pc := 21) (sl := 0) (s_X7_has_f l (d + 0) hv v13 v15) mL_X0_74 iM_X7_has rfl rfl (Nat.le_of_ble_eq_true rfl) (show d + 0 + 1 + 1 ≤ d + 2 by omega) (show 8 + (3 + 11) + 40 * (d + 0 + 1) ≤ 40 * (d + 2) by omega) (g_c0 hv.ln) (Nat.le_of_ble_eq_true rfl) dX0_decides_21 ?_
    intro r h17 hq _
    obtain ⟨v19, rfl, v19l, v19u, rfl, f18⟩ := hq
    replace f18 : PE _ _ := f18
    have k20 := bd_e k16 f18.symm
    exact gi_zret (pc := 24) (ti_rfl v19) (by omega) (by omega) ⟨_, rfl, (by rw [show (v19 : Int32).toInt = v19.toInt from (ti_rfl v19)]; omega), (by rw [show (v19 : Int32).toInt = v19.toInt from (ti_rfl v19)]; omega), rfl, (k20.symm.trans kf)⟩ hv dX0_decides_24
def f_X0_goesStraight (s : ST) (c1 : Nat) (a2 : Int) : Int :=
  bd (s.1 (c1 + 2) (a2).toNat) fun v1 => if ¬ v1 = 1 then (bd (s.1 (c1 + 2) (a2).toNat) fun v5 => if v5 = 4 then (0) else (bd (s.1 (c1 + 2) (a2).toNat) fun v10 => if v10 = 5 then (0) else (1))) else (bd (s.1 c1 3) fun v16 => bd (o_i2l v16) fun v18 => bd (s.1 (c1 + 7) (a2).toNat) fun v20 => bd (f_X7_has s v18 v20) fun v24 => v24)
set_option maxHeartbeats 4000000 in
set_option maxRecDepth 100000 in
theorem s_X0_goesStraight_f (l : Launch) (d : Nat) {P : PP} {h : HP} (hv : Iv P h) (c1 : Nat) (hc1 : c1 = 2 ∨ c1 = 18) (a2 : Int32) (a2l : 0 ≤ a2.toInt) (a2u : a2.toInt ≤ 39) : Mt l yX0_goesStraight cX0_goesStraight 2 (some .boolean) (d + 2) [.ref c1, .int a2] h 0 0 (fun r h' => ∃ v : Int32, r = some (.int v) ∧ 0 ≤ v.toInt ∧ v.toInt ≤ 1 ∧ h = h' ∧ (v.toInt = f_X0_goesStraight (st h) c1 a2.toInt)) := by
  refine Mt_iv hv (by decide) (Nat.le_of_ble_eq_true rfl) ?_
  show Go l RX0 cX0_goesStraight 2 (g_rm (d + 2) 0 0) "goesStraight" (some .boolean) 117 0 0 (fun _ _ => True) (fun r h' => ∃ v : Int32, r = some (.int v) ∧ 0 ≤ v.toInt ∧ v.toInt ≤ 1 ∧ h = h' ∧ (v.toInt = f_X0_goesStraight (st h) c1 a2.toInt)) 0 0 [(0, .ref c1), (1, .int a2)] [] h
  obtain ⟨fin, kf⟩ : ∃ z, z = f_X0_goesStraight (st h) c1 a2.toInt := ⟨_, _root_.rfl⟩
  have k0 := kf
  unfold f_X0_goesStraight at k0
  refine go_aload_n (pc := 0) rfl dX0_goesStraight_0 ?_
  refine gi_getF (pc := 1) (q := c1 + 2) hv fL_X0_32 (by rcases hc1 with rfl | rfl <;> rfl) (Nat.le_of_ble_eq_true rfl) rfl (by rcases hc1 with rfl | rfl <;> exact hv.rf (by decide)) dX0_goesStraight_1 ?_
  refine go_iload_n (pc := 4) rfl dX0_goesStraight_4 ?_
  refine gi_iald (pc := 5) (lo := 0) (hi := 5) (len := 40) hv (ti_rfl a2) (by rcases hc1 with rfl | rfl <;> rfl) (by omega) (by omega) (fun _ => by rcases hc1 with rfl | rfl <;> rfl) dX0_goesStraight_5 (fun v1 v1l v1u v1w => ?_)
  have k2 := bd_e k0 (congrArg Int32.toInt v1w.symm)
  refine go_iconst (pc := 6) (v := 1) (by decide) dX0_goesStraight_6 ?_
  refine gf_icmp_ne (pc := 7) (tgt := 25) (ti_rfl v1) (ti_c (v := 1) (a := 1) (by decide)) (by decide) dX0_goesStraight_7 (fun q3 => ?_) (fun q3 => ?_)
  ·
    have k4 := if_t k2 q3
    refine go_aload_n (pc := 25) rfl dX0_goesStraight_25 ?_
    refine gi_getF (pc := 26) (q := c1 + 2) hv fL_X0_32 (by rcases hc1 with rfl | rfl <;> rfl) (Nat.le_of_ble_eq_true rfl) rfl (by rcases hc1 with rfl | rfl <;> exact hv.rf (by decide)) dX0_goesStraight_26 ?_
    refine go_iload_n (pc := 29) rfl dX0_goesStraight_29 ?_
    refine gi_iald (pc := 30) (lo := 0) (hi := 5) (len := 40) hv (ti_rfl a2) (by rcases hc1 with rfl | rfl <;> rfl) (by omega) (by omega) (fun _ => by rcases hc1 with rfl | rfl <;> rfl) dX0_goesStraight_30 (fun v5 v5l v5u v5w => ?_)
    have k6 := bd_e k4 (congrArg Int32.toInt v5w.symm)
    refine go_iconst (pc := 31) (v := 4) (by decide) dX0_goesStraight_31 ?_
    refine gf_icmp_eq (pc := 32) (tgt := 49) (ti_rfl v5) (ti_c (v := 4) (a := 4) (by decide)) (by decide) dX0_goesStraight_32 (fun q7 => ?_) (fun q7 => ?_)
    ·
      have k8 := if_t k6 q7
      refine go_iconst (pc := 49) (v := 0) (by decide) dX0_goesStraight_49 ?_
      exact gi_zret (pc := 50) (ti_c (v := 0) (a := 0) (by decide)) (by omega) (by omega) ⟨_, rfl, (by rw [show (0 : Int32).toInt = 0 from (ti_c (v := 0) (a := 0) (by decide))]; omega), (by rw [show (0 : Int32).toInt = 0 from (ti_c (v := 0) (a := 0) (by decide))]; omega), rfl, (by rw [show (0 : Int32).toInt = 0 from (ti_c (v := 0) (a := 0) (by decide))]; exact k8.symm.trans kf)⟩ hv dX0_goesStraight_50
    ·
      have k9 := if_f k6 q7
      refine go_aload_n (pc := 35) rfl dX0_goesStraight_35 ?_
      refine gi_getF (pc := 36) (q := c1 + 2) hv fL_X0_32 (by rcases hc1 with rfl | rfl <;> rfl) (Nat.le_of_ble_eq_true rfl) rfl (by rcases hc1 with rfl | rfl <;> exact hv.rf (by decide)) dX0_goesStraight_36 ?_
      refine go_iload_n (pc := 39) rfl dX0_goesStraight_39 ?_
      refine gi_iald (pc := 40) (lo := 0) (hi := 5) (len := 40) hv (ti_rfl a2) (by rcases hc1 with rfl | rfl <;> rfl) (by omega) (by omega) (fun _ => by rcases hc1 with rfl | rfl <;> rfl) dX0_goesStraight_40 (fun v10 v10l v10u v10w => ?_)
      have k11 := bd_e k9 (congrArg Int32.toInt v10w.symm)
      refine go_iconst (pc := 41) (v := 5) (by decide) dX0_goesStraight_41 ?_
      refine gf_icmp_eq (pc := 42) (tgt := 49) (ti_rfl v10) (ti_c (v := 5) (a := 5) (by decide)) (by decide) dX0_goesStraight_42 (fun q12 => ?_) (fun q12 => ?_)
      ·
        have k13 := if_t k11 q12
        refine go_iconst (pc := 49) (v := 0) (by decide) dX0_goesStraight_49 ?_
        exact gi_zret (pc := 50) (ti_c (v := 0) (a := 0) (by decide)) (by omega) (by omega) ⟨_, rfl, (by rw [show (0 : Int32).toInt = 0 from (ti_c (v := 0) (a := 0) (by decide))]; omega), (by rw [show (0 : Int32).toInt = 0 from (ti_c (v := 0) (a := 0) (by decide))]; omega), rfl, (by rw [show (0 : Int32).toInt = 0 from (ti_c (v := 0) (a := 0) (by decide))]; exact k13.symm.trans kf)⟩ hv dX0_goesStraight_50
      ·
        have k14 := if_f k11 q12
        refine go_iconst (pc := 45) (v := 1) (by decide) dX0_goesStraight_45 ?_
        refine go_goto (pc := 46) (tgt := 50) (by decide) dX0_goesStraight_46 ?_
        exact gi_zret (pc := 50) (ti_c (v := 1) (a := 1) (by decide)) (by omega) (by omega) ⟨_, rfl, (by rw [show (1 : Int32).toInt = 1 from (ti_c (v := 1) (a := 1) (by decide))]; omega), (by rw [show (1 : Int32).toInt = 1 from (ti_c (v := 1) (a := 1) (by decide))]; omega), rfl, (by rw [show (1 : Int32).toInt = 1 from (ti_c (v := 1) (a := 1) (by decide))]; exact k14.symm.trans kf)⟩ hv dX0_goesStraight_50
  ·
    have k15 := if_f k2 (fun z => z q3)
    refine go_aload_n (pc := 10) rfl dX0_goesStraight_10 ?_
    refine gi_get (pc := 11) (lo := -2147483648) (hi := 2147483647) hv fL_X0_22 (by rcases hc1 with rfl | rfl <;> rfl) (Nat.le_of_ble_eq_true rfl) rfl (by rcases hc1 with rfl | rfl <;> rfl) dX0_goesStraight_11 (fun v16 v16l v16u v16w => ?_)
    have k17 := bd_e k15 (congrArg Int32.toInt v16w.symm)
    refine gx_i2l (pc := 14) dX0_goesStraight_14 (fun v18 v18x => ?_)
    have k19 := bd_e k17 (so_i2l (ti_rfl v16) v18x)
    refine go_aload_n (pc := 15) rfl dX0_goesStraight_15 ?_
    refine gi_getF (pc := 16) (q := c1 + 7) hv fL_X0_47 (by rcases hc1 with rfl | rfl <;> rfl) (Nat.le_of_ble_eq_true rfl) rfl (by rcases hc1 with rfl | rfl <;> exact hv.rf (by decide)) dX0_goesStraight_16 ?_
    refine go_iload_n (pc := 19) rfl dX0_goesStraight_19 ?_
    refine gi_iald (pc := 20) (lo := -2) (hi := 4) (len := 40) hv (ti_rfl a2) (by rcases hc1 with rfl | rfl <;> rfl) (by omega) (by omega) (fun _ => by rcases hc1 with rfl | rfl <;> rfl) dX0_goesStraight_20 (fun v20 v20l v20u v20w => ?_)
    have k21 := bd_e k19 (congrArg Int32.toInt v20w.symm)
    refine go_invS (pc := 21) (sl := 0) (s_X7_has_f l (d + 0) hv v18 v20) mL_X0_74 iM_X7_has rfl rfl (Nat.le_of_ble_eq_true rfl) (show d + 0 + 1 + 1 ≤ d + 2 by omega) (show 8 + (3 + 11) + 40 * (d + 0 + 1) ≤ 40 * (d + 2) by omega) (g_c0 hv.ln) (Nat.le_of_ble_eq_true rfl) dX0_goesStraight_21 ?_
    intro r h22 hq _
    obtain ⟨v24, rfl, v24l, v24u, rfl, f23⟩ := hq
    replace f23 : PE _ _ := f23
    have k25 := bd_e k21 f23.symm
    exact gi_zret (pc := 24) (ti_rfl v24) (by omega) (by omega) ⟨_, rfl, (by rw [show (v24 : Int32).toInt = v24.toInt from (ti_rfl v24)]; omega), (by rw [show (v24 : Int32).toInt = v24.toInt from (ti_rfl v24)]; omega), rfl, (k25.symm.trans kf)⟩ hv dX0_goesStraight_24
def f_X0_escapes (s : ST) (c1 : Nat) (a2 : Int) : Int :=
  bd (s.1 (c1 + 14) (a2).toNat) fun v1 => if v1 < 0 then (bd (s.1 (c1 + 2) (a2).toNat) fun v5 => if v5 = 4 then (1) else (bd (s.1 (c1 + 2) (a2).toNat) fun v10 => if ¬ v10 = 1 then (0) else (bd (s.1 c1 4) fun v15 => bd (o_i2l v15) fun v17 => bd (s.1 (c1 + 7) (a2).toNat) fun v19 => bd (f_X7_has s v17 v19) fun v23 => if v23 = 0 then (0) else (1)))) else (0)
set_option maxHeartbeats 4000000 in
set_option maxRecDepth 100000 in
theorem s_X0_escapes_f (l : Launch) (d : Nat) {P : PP} {h : HP} (hv : Iv P h) (c1 : Nat) (hc1 : c1 = 2 ∨ c1 = 18) (a2 : Int32) (a2l : 0 ≤ a2.toInt) (a2u : a2.toInt ≤ 39) : Mt l yX0_escapes cX0_escapes 2 (some .boolean) (d + 2) [.ref c1, .int a2] h 0 0 (fun r h' => ∃ v : Int32, r = some (.int v) ∧ 0 ≤ v.toInt ∧ v.toInt ≤ 1 ∧ h = h' ∧ (v.toInt = f_X0_escapes (st h) c1 a2.toInt)) := by
  refine Mt_iv hv (by decide) (Nat.le_of_ble_eq_true rfl) ?_
  show Go l RX0 cX0_escapes 2 (g_rm (d + 2) 0 0) "escapes" (some .boolean) 117 0 0 (fun _ _ => True) (fun r h' => ∃ v : Int32, r = some (.int v) ∧ 0 ≤ v.toInt ∧ v.toInt ≤ 1 ∧ h = h' ∧ (v.toInt = f_X0_escapes (st h) c1 a2.toInt)) 0 0 [(0, .ref c1), (1, .int a2)] [] h
  obtain ⟨fin, kf⟩ : ∃ z, z = f_X0_escapes (st h) c1 a2.toInt := ⟨_, _root_.rfl⟩
  have k0 := kf
  unfold f_X0_escapes at k0
  refine go_aload_n (pc := 0) rfl dX0_escapes_0 ?_
  refine gi_getF (pc := 1) (q := c1 + 14) hv fL_X0_68 (by rcases hc1 with rfl | rfl <;> rfl) (Nat.le_of_ble_eq_true rfl) rfl (by rcases hc1 with rfl | rfl <;> exact hv.rf (by decide)) dX0_escapes_1 ?_
  refine go_iload_n (pc := 4) rfl dX0_escapes_4 ?_
  refine gi_iald (pc := 5) (lo := -1) (hi := 5) (len := 40) hv (ti_rfl a2) (by rcases hc1 with rfl | rfl <;> rfl) (by omega) (by omega) (fun _ => by rcases hc1 with rfl | rfl <;> rfl) dX0_escapes_5 (fun v1 v1l v1u v1w => ?_)
  have k2 := bd_e k0 (congrArg Int32.toInt v1w.symm)
  refine gf_if_lt (pc := 6) (tgt := 11) (ti_rfl v1) (by decide) dX0_escapes_6 (fun q3 => ?_) (fun q3 => ?_)
  ·
    have k4 := if_t k2 q3
    refine go_aload_n (pc := 11) rfl dX0_escapes_11 ?_
    refine gi_getF (pc := 12) (q := c1 + 2) hv fL_X0_32 (by rcases hc1 with rfl | rfl <;> rfl) (Nat.le_of_ble_eq_true rfl) rfl (by rcases hc1 with rfl | rfl <;> exact hv.rf (by decide)) dX0_escapes_12 ?_
    refine go_iload_n (pc := 15) rfl dX0_escapes_15 ?_
    refine gi_iald (pc := 16) (lo := 0) (hi := 5) (len := 40) hv (ti_rfl a2) (by rcases hc1 with rfl | rfl <;> rfl) (by omega) (by omega) (fun _ => by rcases hc1 with rfl | rfl <;> rfl) dX0_escapes_16 (fun v5 v5l v5u v5w => ?_)
    have k6 := bd_e k4 (congrArg Int32.toInt v5w.symm)
    refine go_iconst (pc := 17) (v := 4) (by decide) dX0_escapes_17 ?_
    refine gf_icmp_eq (pc := 18) (tgt := 48) (ti_rfl v5) (ti_c (v := 4) (a := 4) (by decide)) (by decide) dX0_escapes_18 (fun q7 => ?_) (fun q7 => ?_)
    ·
      have k8 := if_t k6 q7
      refine go_iconst (pc := 48) (v := 1) (by decide) dX0_escapes_48 ?_
      refine go_goto (pc := 49) (tgt := 53) (by decide) dX0_escapes_49 ?_
      exact gi_zret (pc := 53) (ti_c (v := 1) (a := 1) (by decide)) (by omega) (by omega) ⟨_, rfl, (by rw [show (1 : Int32).toInt = 1 from (ti_c (v := 1) (a := 1) (by decide))]; omega), (by rw [show (1 : Int32).toInt = 1 from (ti_c (v := 1) (a := 1) (by decide))]; omega), rfl, (by rw [show (1 : Int32).toInt = 1 from (ti_c (v := 1) (a := 1) (by decide))]; exact k8.symm.trans kf)⟩ hv dX0_escapes_53
    ·
      have k9 := if_f k6 q7
      refine go_aload_n (pc := 21) rfl dX0_escapes_21 ?_
      refine gi_getF (pc := 22) (q := c1 + 2) hv fL_X0_32 (by rcases hc1 with rfl | rfl <;> rfl) (Nat.le_of_ble_eq_true rfl) rfl (by rcases hc1 with rfl | rfl <;> exact hv.rf (by decide)) dX0_escapes_22 ?_
      refine go_iload_n (pc := 25) rfl dX0_escapes_25 ?_
      refine gi_iald (pc := 26) (lo := 0) (hi := 5) (len := 40) hv (ti_rfl a2) (by rcases hc1 with rfl | rfl <;> rfl) (by omega) (by omega) (fun _ => by rcases hc1 with rfl | rfl <;> rfl) dX0_escapes_26 (fun v10 v10l v10u v10w => ?_)
      have k11 := bd_e k9 (congrArg Int32.toInt v10w.symm)
      refine go_iconst (pc := 27) (v := 1) (by decide) dX0_escapes_27 ?_
      refine gf_icmp_ne (pc := 28) (tgt := 52) (ti_rfl v10) (ti_c (v := 1) (a := 1) (by decide)) (by decide) dX0_escapes_28 (fun q12 => ?_) (fun q12 => ?_)
      ·
        have k13 := if_t k11 q12
        refine go_iconst (pc := 52) (v := 0) (by decide) dX0_escapes_52 ?_
        exact gi_zret (pc := 53) (ti_c (v := 0) (a := 0) (by decide)) (by omega) (by omega) ⟨_, rfl, (by rw [show (0 : Int32).toInt = 0 from (ti_c (v := 0) (a := 0) (by decide))]; omega), (by rw [show (0 : Int32).toInt = 0 from (ti_c (v := 0) (a := 0) (by decide))]; omega), rfl, (by rw [show (0 : Int32).toInt = 0 from (ti_c (v := 0) (a := 0) (by decide))]; exact k13.symm.trans kf)⟩ hv dX0_escapes_53
      ·
        have k14 := if_f k11 (fun z => z q12)
        refine go_aload_n (pc := 31) rfl dX0_escapes_31 ?_
        refine gi_get (pc := 32) (lo := -2147483648) (hi := 2147483647) hv fL_X0_25 (by rcases hc1 with rfl | rfl <;> rfl) (Nat.le_of_ble_eq_true rfl) rfl (by rcases hc1 with rfl | rfl <;> rfl) dX0_escapes_32 (fun v15 v15l v15u v15w => ?_)
        have k16 := bd_e k14 (congrArg Int32.toInt v15w.symm)
        refine gx_i2l (pc := 35) dX0_escapes_35 (fun v17 v17x => ?_)
        have k18 := bd_e k16 (so_i2l (ti_rfl v15) v17x)
        refine go_aload_n (pc := 36) rfl dX0_escapes_36 ?_
        refine gi_getF (pc := 37) (q := c1 + 7) hv fL_X0_47 (by rcases hc1 with rfl | rfl <;> rfl) (Nat.le_of_ble_eq_true rfl) rfl (by rcases hc1 with rfl | rfl <;> exact hv.rf (by decide)) dX0_escapes_37 ?_
        refine go_iload_n (pc := 40) rfl dX0_escapes_40 ?_
        refine gi_iald (pc := 41) (lo := -2) (hi := 4) (len := 40) hv (ti_rfl a2) (by rcases hc1 with rfl | rfl <;> rfl) (by omega) (by omega) (fun _ => by rcases hc1 with rfl | rfl <;> rfl) dX0_escapes_41 (fun v19 v19l v19u v19w => ?_)
        have k20 := bd_e k18 (congrArg Int32.toInt v19w.symm)
        refine go_invS (pc := 42) (sl := 0) (s_X7_has_f l (d + 0) hv v17 v19) mL_X0_74 iM_X7_has rfl rfl (Nat.le_of_ble_eq_true rfl) (show d + 0 + 1 + 1 ≤ d + 2 by omega) (show 8 + (3 + 11) + 40 * (d + 0 + 1) ≤ 40 * (d + 2) by omega) (g_c0 hv.ln) (Nat.le_of_ble_eq_true rfl) dX0_escapes_42 ?_
        intro r h21 hq _
        obtain ⟨v23, rfl, v23l, v23u, rfl, f22⟩ := hq
        replace f22 : PE _ _ := f22
        have k24 := bd_e k20 f22.symm
        refine gf_if_eq (pc := 45) (tgt := 52) (ti_rfl v23) (by decide) dX0_escapes_45 (fun q25 => ?_) (fun q25 => ?_)
        ·
          have k26 := if_t k24 q25
          refine go_iconst (pc := 52) (v := 0) (by decide) dX0_escapes_52 ?_
          exact gi_zret (pc := 53) (ti_c (v := 0) (a := 0) (by decide)) (by omega) (by omega) ⟨_, rfl, (by rw [show (0 : Int32).toInt = 0 from (ti_c (v := 0) (a := 0) (by decide))]; omega), (by rw [show (0 : Int32).toInt = 0 from (ti_c (v := 0) (a := 0) (by decide))]; omega), rfl, (by rw [show (0 : Int32).toInt = 0 from (ti_c (v := 0) (a := 0) (by decide))]; exact k26.symm.trans kf)⟩ hv dX0_escapes_53
        ·
          have k27 := if_f k24 q25
          refine go_iconst (pc := 48) (v := 1) (by decide) dX0_escapes_48 ?_
          refine go_goto (pc := 49) (tgt := 53) (by decide) dX0_escapes_49 ?_
          exact gi_zret (pc := 53) (ti_c (v := 1) (a := 1) (by decide)) (by omega) (by omega) ⟨_, rfl, (by rw [show (1 : Int32).toInt = 1 from (ti_c (v := 1) (a := 1) (by decide))]; omega), (by rw [show (1 : Int32).toInt = 1 from (ti_c (v := 1) (a := 1) (by decide))]; omega), rfl, (by rw [show (1 : Int32).toInt = 1 from (ti_c (v := 1) (a := 1) (by decide))]; exact k27.symm.trans kf)⟩ hv dX0_escapes_53
  ·
    have k28 := if_f k2 (Int.not_lt.mpr q3)
    refine go_iconst (pc := 9) (v := 0) (by decide) dX0_escapes_9 ?_
    exact gi_zret (pc := 10) (ti_c (v := 0) (a := 0) (by decide)) (by omega) (by omega) ⟨_, rfl, (by rw [show (0 : Int32).toInt = 0 from (ti_c (v := 0) (a := 0) (by decide))]; omega), (by rw [show (0 : Int32).toInt = 0 from (ti_c (v := 0) (a := 0) (by decide))]; omega), rfl, (by rw [show (0 : Int32).toInt = 0 from (ti_c (v := 0) (a := 0) (by decide))]; exact k28.symm.trans kf)⟩ hv dX0_escapes_10
def f_X0_callsOnlyTold_ : Nat → Nat → Nat → Int → Int → ST → Int
  | 0, _, _, _, _, _ => 0
  | n + 1, _, l0, l1, l2, s => bd (s.1 l0 0) fun v1 => if v1 ≤ l2 then (l1) else (bd (s.1 (l0 + 7) (l2).toNat) fun v6 => bd (s.1 l0 1) fun v8 => if v8 ≤ v6 then (bd (o_iand l1 0) fun v12 => f_X0_callsOnlyTold_ n 4 l0 v12 ((l2 + 1)) s) else (bd (o_iand l1 1) fun v18 => f_X0_callsOnlyTold_ n 4 l0 v18 ((l2 + 1)) s))
def f_X0_callsOnlyTold (s : ST) (c1 : Nat) : Int :=
  f_X0_callsOnlyTold_ 139 4 c1 1 0 s
set_option maxHeartbeats 4000000 in
set_option maxRecDepth 100000 in
theorem s_X0_callsOnlyTold_f (l : Launch) (d : Nat) {P : PP} {h : HP} (hv : Iv P h) (c1 : Nat) (hc1 : c1 = 2 ∨ c1 = 18) : Mt l yX0_callsOnlyTold cX0_callsOnlyTold 3 (some .boolean) (d + 1) [.ref c1] h 0 0 (fun r h' => ∃ v : Int32, r = some (.int v) ∧ 0 ≤ v.toInt ∧ v.toInt ≤ 1 ∧ h = h' ∧ (v.toInt = f_X0_callsOnlyTold (st h) c1)) := by
  refine Mt_iv hv (by decide) (Nat.le_of_ble_eq_true rfl) ?_
  show Go l RX0 cX0_callsOnlyTold 3 (g_rm (d + 1) 0 0) "callsOnlyTold" (some .boolean) 117 0 0 (fun _ _ => True) (fun r h' => ∃ v : Int32, r = some (.int v) ∧ 0 ≤ v.toInt ∧ v.toInt ≤ 1 ∧ h = h' ∧ (v.toInt = f_X0_callsOnlyTold (st h) c1)) 0 0 [(0, .ref c1)] [] h
  obtain ⟨fin, kf⟩ : ∃ z, z = f_X0_callsOnlyTold (st h) c1 := ⟨_, _root_.rfl⟩
  have k0 := kf
  unfold f_X0_callsOnlyTold at k0
  have key : ∀ n : Nat, (∀ (l0 : Nat) (l1 : Int32) (l2 : Int32), (l0 = 2 ∨ l0 = 18) → 0 ≤ l1.toInt → l1.toInt ≤ 1 → 0 ≤ l2.toInt → l2.toInt ≤ 40 → fin = f_X0_callsOnlyTold_ n 4 l0 l1.toInt l2.toInt (st h) → (3 * (40 - l2.toInt) + 2 : Int) < n → Go l RX0 cX0_callsOnlyTold 3 (g_rm (d + 1) 0 0) "callsOnlyTold" (some .boolean) 117 0 0 (fun _ _ => True) (fun r h' => ∃ v : Int32, r = some (.int v) ∧ 0 ≤ v.toInt ∧ v.toInt ≤ 1 ∧ h = h' ∧ (v.toInt = f_X0_callsOnlyTold (st h) c1)) 0 4 [(0, .ref l0), (1, .int l1), (2, .int l2)] [] h) := by
    intro n
    induction n with
    | zero => exact (by intros; omega)
    | succ n ih =>
      refine ?_
      ·
        intro l0 l1 l2 hl0 l1l l1u l2l l2u kL hm
        rw [f_X0_callsOnlyTold_] at kL
        refine go_iload_n (pc := 4) rfl dX0_callsOnlyTold_4 ?_
        refine go_aload_n (pc := 5) rfl dX0_callsOnlyTold_5 ?_
        refine gi_get (pc := 6) (lo := 0) (hi := 40) hv fL_X0_9 (by rcases hl0 with rfl | rfl <;> rfl) (Nat.le_of_ble_eq_true rfl) rfl (by rcases hl0 with rfl | rfl <;> rfl) dX0_callsOnlyTold_6 (fun v1 v1l v1u v1w => ?_)
        have k2 := bd_e kL (congrArg Int32.toInt v1w.symm)
        refine gf_icmp_ge (pc := 9) (tgt := 39) (ti_rfl l2) (ti_rfl v1) (by decide) dX0_callsOnlyTold_9 (fun q3 => ?_) (fun q3 => ?_)
        ·
          have k4 := if_t k2 q3
          refine go_iload_n (pc := 39) rfl dX0_callsOnlyTold_39 ?_
          exact gi_zret (pc := 40) (ti_rfl l1) (by omega) (by omega) ⟨_, rfl, (by rw [show (l1 : Int32).toInt = l1.toInt from (ti_rfl l1)]; omega), (by rw [show (l1 : Int32).toInt = l1.toInt from (ti_rfl l1)]; omega), rfl, (k4.symm.trans kf)⟩ hv dX0_callsOnlyTold_40
        ·
          have k5 := if_f k2 (Int.not_le.mpr q3)
          refine go_iload_n (pc := 12) rfl dX0_callsOnlyTold_12 ?_
          refine go_aload_n (pc := 13) rfl dX0_callsOnlyTold_13 ?_
          refine gi_getF (pc := 14) (q := l0 + 7) hv fL_X0_47 (by rcases hl0 with rfl | rfl <;> rfl) (Nat.le_of_ble_eq_true rfl) rfl (by rcases hl0 with rfl | rfl <;> exact hv.rf (by decide)) dX0_callsOnlyTold_14 ?_
          refine go_iload_n (pc := 17) rfl dX0_callsOnlyTold_17 ?_
          refine gi_iald (pc := 18) (lo := -2) (hi := 4) (len := 40) hv (ti_rfl l2) (by rcases hl0 with rfl | rfl <;> rfl) (by omega) (by omega) (fun _ => by rcases hl0 with rfl | rfl <;> rfl) dX0_callsOnlyTold_18 (fun v6 v6l v6u v6w => ?_)
          have k7 := bd_e k5 (congrArg Int32.toInt v6w.symm)
          refine go_aload_n (pc := 19) rfl dX0_callsOnlyTold_19 ?_
          refine gi_get (pc := 20) (lo := 0) (hi := 5) hv fL_X0_15 (by rcases hl0 with rfl | rfl <;> rfl) (Nat.le_of_ble_eq_true rfl) rfl (by rcases hl0 with rfl | rfl <;> rfl) dX0_callsOnlyTold_20 (fun v8 v8l v8u v8w => ?_)
          have k9 := bd_e k7 (congrArg Int32.toInt v8w.symm)
          refine gf_icmp_ge (pc := 23) (tgt := 30) (ti_rfl v6) (ti_rfl v8) (by decide) dX0_callsOnlyTold_23 (fun q10 => ?_) (fun q10 => ?_)
          ·
            have k11 := if_t k9 q10
            refine go_iconst (pc := 30) (v := 0) (by decide) dX0_callsOnlyTold_30 ?_
            refine gx_iand (pc := 31) dX0_callsOnlyTold_31 (fun v12 v12x => ?_)
            have v12l : 0 ≤ v12.toInt := by rw [v12x]; exact (ti_mask (ti_c (v := 0) (a := 0) (by decide)) (by omega)).1
            have v12u : v12.toInt ≤ 0 := by rw [v12x]; exact (ti_mask (ti_c (v := 0) (a := 0) (by decide)) (by omega)).2
            have k13 := bd_e k11 (so_iand (ti_rfl l1) (ti_c (v := 0) (a := 0) (by decide)) v12x)
            refine go_istore_n (pc := 32) (Nat.le_of_ble_eq_true rfl) dX0_callsOnlyTold_32 (go_lv (lv2 := [(0, .ref l0), (1, .int v12), (2, .int l2)]) rfl ?_)
            refine gf_iinc (pc := 33) (Nat.le_of_ble_eq_true rfl) rfl (ti_rfl l2) (ti_c (by decide)) (by omega) (by omega) dX0_callsOnlyTold_33 (fun v14 e15 => ?_)
            refine go_lv (lv2 := [(0, .ref l0), (1, .int v12), (2, .int v14)]) rfl ?_
            refine go_goto (pc := 36) (tgt := 4) (by decide) dX0_callsOnlyTold_36 ?_
            have z16 : (v14 : Int32).toInt = (l2.toInt + 1) := e15
            exact go_lv rfl (ih l0 v12 v14  hl0 (by omega) (by omega) (by omega) (by omega) (by rw [show (v14 : Int32).toInt = (l2.toInt + 1) from e15]; exact k13) (by omega))
          ·
            have k17 := if_f k9 (Int.not_le.mpr q10)
            refine go_iconst (pc := 26) (v := 1) (by decide) dX0_callsOnlyTold_26 ?_
            refine go_goto (pc := 27) (tgt := 31) (by decide) dX0_callsOnlyTold_27 ?_
            refine gx_iand (pc := 31) dX0_callsOnlyTold_31 (fun v18 v18x => ?_)
            have v18l : 0 ≤ v18.toInt := by rw [v18x]; exact (ti_mask (ti_c (v := 1) (a := 1) (by decide)) (by omega)).1
            have v18u : v18.toInt ≤ 1 := by rw [v18x]; exact (ti_mask (ti_c (v := 1) (a := 1) (by decide)) (by omega)).2
            have k19 := bd_e k17 (so_iand (ti_rfl l1) (ti_c (v := 1) (a := 1) (by decide)) v18x)
            refine go_istore_n (pc := 32) (Nat.le_of_ble_eq_true rfl) dX0_callsOnlyTold_32 (go_lv (lv2 := [(0, .ref l0), (1, .int v18), (2, .int l2)]) rfl ?_)
            refine gf_iinc (pc := 33) (Nat.le_of_ble_eq_true rfl) rfl (ti_rfl l2) (ti_c (by decide)) (by omega) (by omega) dX0_callsOnlyTold_33 (fun v20 e21 => ?_)
            refine go_lv (lv2 := [(0, .ref l0), (1, .int v18), (2, .int v20)]) rfl ?_
            refine go_goto (pc := 36) (tgt := 4) (by decide) dX0_callsOnlyTold_36 ?_
            have z22 : (v20 : Int32).toInt = (l2.toInt + 1) := e21
            exact go_lv rfl (ih l0 v18 v20  hl0 (by omega) (by omega) (by omega) (by omega) (by rw [show (v20 : Int32).toInt = (l2.toInt + 1) from e21]; exact k19) (by omega))
  refine go_iconst (pc := 0) (v := 1) (by decide) dX0_callsOnlyTold_0 ?_
  refine go_istore_n (pc := 1) (Nat.le_of_ble_eq_true rfl) dX0_callsOnlyTold_1 (go_lv (lv2 := [(0, .ref c1), (1, .int 1)]) rfl ?_)
  refine go_iconst (pc := 2) (v := 0) (by decide) dX0_callsOnlyTold_2 ?_
  refine go_istore_n (pc := 3) (Nat.le_of_ble_eq_true rfl) dX0_callsOnlyTold_3 (go_lv (lv2 := [(0, .ref c1), (1, .int 1), (2, .int 0)]) rfl ?_)
  have z23 : (1 : Int32).toInt = 1 := (ti_c (v := 1) (a := 1) (by decide))
  have z24 : (0 : Int32).toInt = 0 := (ti_c (v := 0) (a := 0) (by decide))
  exact go_lv rfl ((key 139) c1 1 0  hc1 (by omega) (by omega) (by omega) (by omega) (by rw [show (1 : Int32).toInt = 1 from (ti_c (v := 1) (a := 1) (by decide)), show (0 : Int32).toInt = 0 from (ti_c (v := 0) (a := 0) (by decide))]; exact k0) (by omega))
def f_X0_walk_ : Nat → Nat → Nat → Int → Int64 → Int → ST → ST
  | 0, _, _, _, _, _, sx => sx
  | n + 1, _, l0, l1, l2, l4, sx => bd (sx.1 l0 0) fun v1 => if v1 ≤ l4 then (bd (f_X7_has sx l2 ((40 + l1))) fun v9 => if v9 = 0 then (sx) else (bd (sx.1 l0 3) fun v14 => bd (o_ishl 1 l1) fun v16 => bd (o_ior v14 v16) fun v18 => bd (sI sx l0 3 v18) fun s20 => s20)) else (bd (f_X7_has sx l2 l4) fun v25 => if ¬ v25 = 0 then (bd (f_X0_goesStraight sx l0 l4) fun v31 => if v31 = 0 then (bd (f_X0_escapes sx l0 l4) fun v37 => if v37 = 0 then (bd (f_X0_decides sx l0 l4) fun v43 => if v43 = 0 then (f_X0_walk_ n 13 l0 l1 l2 ((l4 + 1)) sx) else (bd (sx.1 (l0 + 13) (l4).toNat) fun v51 => bd (f_X7_bit sx v51) fun v55 => bd (o_lor l2 v55) fun v57 => f_X0_walk_ n 13 l0 l1 v57 ((l4 + 1)) sx)) else (bd (sx.1 l0 4) fun v63 => bd (o_ishl 1 l1) fun v65 => bd (o_ior v63 v65) fun v67 => bd (sI sx l0 4 v67) fun s69 => f_X0_walk_ n 13 l0 l1 l2 ((l4 + 1)) s69)) else (bd (sx.1 (l0 + 12) (l4).toNat) fun v75 => bd (f_X7_bit sx v75) fun v79 => bd (o_lor l2 v79) fun v81 => bd (f_X0_escapes sx l0 l4) fun v85 => if v85 = 0 then (bd (f_X0_decides sx l0 l4) fun v91 => if v91 = 0 then (f_X0_walk_ n 13 l0 l1 v81 ((l4 + 1)) sx) else (bd (sx.1 (l0 + 13) (l4).toNat) fun v99 => bd (f_X7_bit sx v99) fun v103 => bd (o_lor v81 v103) fun v105 => f_X0_walk_ n 13 l0 l1 v105 ((l4 + 1)) sx)) else (bd (sx.1 l0 4) fun v111 => bd (o_ishl 1 l1) fun v113 => bd (o_ior v111 v113) fun v115 => bd (sI sx l0 4 v115) fun s117 => f_X0_walk_ n 13 l0 l1 v81 ((l4 + 1)) s117))) else (f_X0_walk_ n 13 l0 l1 l2 ((l4 + 1)) sx))
def f_X0_walk (s : ST) (c1 : Nat) (a2 : Int) : ST :=
  bd (s.1 (c1 + 1) (a2).toNat) fun v126 => bd (f_X7_bit s v126) fun v130 => f_X0_walk_ 139 13 c1 a2 v130 0 s
set_option maxHeartbeats 4000000 in
set_option maxRecDepth 100000 in
theorem s_X0_walk_f (l : Launch) (d : Nat) {P : PP} {h : HP} (hv : Iv P h) (c1 : Nat) (hc1 : c1 = 2 ∨ c1 = 18) (a2 : Int32) (a2l : 0 ≤ a2.toInt) (a2u : a2.toInt ≤ 4) : Mt l yX0_walk cX0_walk 5 none (d + 3) [.ref c1, .int a2] h 0 0 (fun r h' => r = none ∧ Iv P h' ∧ (st h' = f_X0_walk (st h) c1 a2.toInt) ∧ (FX KC0 h h')) := by
  refine Mt_iv hv (by decide) (Nat.le_of_ble_eq_true rfl) ?_
  show Go l RX0 cX0_walk 5 (g_rm (d + 3) 0 0) "walk" none 117 0 0 (fun _ _ => True) (fun r h' => r = none ∧ Iv P h' ∧ (st h' = f_X0_walk (st h) c1 a2.toInt) ∧ (FX KC0 h h')) 0 0 [(0, .ref c1), (1, .int a2)] [] h
  have fx : FX KC0 h h := FX.rfl
  obtain ⟨fin, kf⟩ : ∃ z, z = f_X0_walk (st h) c1 a2.toInt := ⟨_, _root_.rfl⟩
  have k0 := kf
  unfold f_X0_walk at k0
  have key : ∀ n : Nat, (∀ (l0 : Nat) (l1 : Int32) (l2 : Int64) (l4 : Int32) (hx : HP), Iv P hx → (l0 = 2 ∨ l0 = 18) → 0 ≤ l1.toInt → l1.toInt ≤ 4 → 0 ≤ l4.toInt → l4.toInt ≤ 40 → FX KC0 h hx → fin = f_X0_walk_ n 13 l0 l1.toInt l2 l4.toInt (st hx) → (3 * (40 - l4.toInt) + 2 : Int) < n → Go l RX0 cX0_walk 5 (g_rm (d + 3) 0 0) "walk" none 117 0 0 (fun _ _ => True) (fun r h' => r = none ∧ Iv P h' ∧ (st h' = f_X0_walk (st h) c1 a2.toInt) ∧ (FX KC0 h h')) 0 13 [(0, .ref l0), (1, .int l1), (2, .long l2), (4, .int l4)] [] hx) := by
    intro n
    induction n with
    | zero => exact (by intros; omega)
    | succ n ih =>
      refine ?_
      ·
        intro l0 l1 l2 l4 hx hvx hl0 l1l l1u l4l l4u fxx kL hm
        rw [f_X0_walk_] at kL
        refine go_iload (pc := 13) rfl dX0_walk_13 ?_
        refine go_aload_n (pc := 15) rfl dX0_walk_15 ?_
        refine gi_get (pc := 16) (lo := 0) (hi := 40) hvx fL_X0_9 (by rcases hl0 with rfl | rfl <;> rfl) (Nat.le_of_ble_eq_true rfl) rfl (by rcases hl0 with rfl | rfl <;> rfl) dX0_walk_16 (fun v1 v1l v1u v1w => ?_)
        have k2 := bd_e kL (congrArg Int32.toInt v1w.symm)
        refine gf_icmp_ge (pc := 19) (tgt := 108) (ti_rfl l4) (ti_rfl v1) (by decide) dX0_walk_19 (fun q3 => ?_) (fun q3 => ?_)
        ·
          have k4 := if_t k2 q3
          refine go_lload_n (pc := 108) rfl dX0_walk_108 ?_
          refine go_bipush (pc := 109) (v := 40) (by decide) dX0_walk_109 ?_
          refine go_iload_n (pc := 111) rfl dX0_walk_111 ?_
          refine gf_iadd (pc := 112) (ti_c (v := 40) (a := 40) (by decide)) (ti_rfl l1) (by omega) (by omega) dX0_walk_112 (fun v5 e6 => ?_)
          refine go_invS (pc := 113) (sl := 0) (s_X7_has_f l (d + 1) hvx l2 v5) mL_X0_74 iM_X7_has rfl rfl (Nat.le_of_ble_eq_true rfl) (show d + 1 + 1 + 1 ≤ d + 3 by omega) (show 8 + (3 + 11) + 40 * (d + 1 + 1) ≤ 40 * (d + 3) by omega) (g_c0 hvx.ln) (Nat.le_of_ble_eq_true rfl) dX0_walk_113 ?_
          intro r h7 hq _
          obtain ⟨v9, rfl, v9l, v9u, rfl, f8⟩ := hq
          try rw [show (v5 : Int32).toInt = (40 + l1.toInt) from e6] at f8
          replace f8 : PE _ _ := f8
          have k10 := bd_e k4 f8.symm
          refine gf_if_eq (pc := 116) (tgt := 131) (ti_rfl v9) (by decide) dX0_walk_116 (fun q11 => ?_) (fun q11 => ?_)
          ·
            have k12 := if_t k10 q11
            exact gi_vret (pc := 131) ⟨rfl, hvx, (k12.symm.trans kf), fxx⟩ hvx dX0_walk_131
          ·
            have k13 := if_f k10 q11
            refine go_aload_n (pc := 119) rfl dX0_walk_119 ?_
            refine go_dup (pc := 120) rfl dX0_walk_120 ?_
            refine gi_get (pc := 121) (lo := -2147483648) (hi := 2147483647) hvx fL_X0_22 (by rcases hl0 with rfl | rfl <;> rfl) (Nat.le_of_ble_eq_true rfl) rfl (by rcases hl0 with rfl | rfl <;> rfl) dX0_walk_121 (fun v14 v14l v14u v14w => ?_)
            have k15 := bd_e k13 (congrArg Int32.toInt v14w.symm)
            refine go_iconst (pc := 124) (v := 1) (by decide) dX0_walk_124 ?_
            refine go_iload_n (pc := 125) rfl dX0_walk_125 ?_
            refine gx_ishl (pc := 126) dX0_walk_126 (fun v16 v16x => ?_)
            have k17 := bd_e k15 (so_ishl (ti_c (v := 1) (a := 1) (by decide)) (ti_rfl l1) v16x)
            refine gx_ior (pc := 127) dX0_walk_127 (fun v18 v18x => ?_)
            have k19 := bd_e k17 (so_ior (ti_rfl v14) (ti_rfl v16) v18x)
            refine gi_put (pc := 128) (lo := -2147483648) (hi := 2147483647) hvx (ti_rfl v18) (fP_X0_22 _) (by rcases hl0 with rfl | rfl <;> rfl) (Nat.le_of_ble_eq_true rfl) rfl (by rcases hl0 with rfl | rfl <;> rfl) (ti_ge (ti_rfl v18)) (ti_le2 (ti_rfl v18)) rfl rfl (by rcases hl0 with rfl | rfl <;> decide) (by rcases hl0 with rfl | rfl <;> decide) (by rcases hl0 with rfl | rfl <;> decide) (by rcases hl0 with rfl | rfl <;> decide) dX0_walk_128 (fun h20 hv20 hv20e => ?_)
            have fx20 : FX KC0 h h20 := FX.pI fxx hv20e (by unfold KC0; omega)
            have k21 := bd_e k19 (st_I hv20e (ti_rfl v18))
            exact gi_vret (pc := 131) ⟨rfl, hv20, (k21.symm.trans kf), fx20⟩ hv20 dX0_walk_131
        ·
          have k22 := if_f k2 (Int.not_le.mpr q3)
          refine go_lload_n (pc := 22) rfl dX0_walk_22 ?_
          refine go_iload (pc := 23) rfl dX0_walk_23 ?_
          refine go_invS (pc := 25) (sl := 0) (s_X7_has_f l (d + 1) hvx l2 l4) mL_X0_74 iM_X7_has rfl rfl (Nat.le_of_ble_eq_true rfl) (show d + 1 + 1 + 1 ≤ d + 3 by omega) (show 8 + (3 + 11) + 40 * (d + 1 + 1) ≤ 40 * (d + 3) by omega) (g_c0 hvx.ln) (Nat.le_of_ble_eq_true rfl) dX0_walk_25 ?_
          intro r h23 hq _
          obtain ⟨v25, rfl, v25l, v25u, rfl, f24⟩ := hq
          replace f24 : PE _ _ := f24
          have k26 := bd_e k22 f24.symm
          refine gf_if_ne (pc := 28) (tgt := 34) (ti_rfl v25) (by decide) dX0_walk_28 (fun q27 => ?_) (fun q27 => ?_)
          ·
            have k28 := if_t k26 q27
            refine go_aload_n (pc := 34) rfl dX0_walk_34 ?_
            refine go_iload (pc := 35) rfl dX0_walk_35 ?_
            refine go_invV (pc := 37) (sl := 0) (s_X0_goesStraight_f l (d + 0) hvx l0 hl0 l4 (by rw [show (l4 : Int32).toInt = l4.toInt from (ti_rfl l4)]; omega) (by rw [show (l4 : Int32).toInt = l4.toInt from (ti_rfl l4)]; omega)) mL_X0_90 iM_X0_goesStraight sM_X0_goesStraight (hvx.sh (by rcases hl0 with rfl | rfl <;> rfl)) rfl rfl rfl (Nat.le_of_ble_eq_true rfl) (show d + 0 + 2 + 1 ≤ d + 3 by omega) (show 8 + (2 + 11) + 40 * (d + 0 + 2) ≤ 40 * (d + 3) by omega) (g_c0 hvx.ln) (Nat.le_of_ble_eq_true rfl) dX0_walk_37 ?_
            intro r h29 hq _
            obtain ⟨v31, rfl, v31l, v31u, rfl, f30⟩ := hq
            replace f30 : PE _ _ := f30
            have k32 := bd_e k28 f30.symm
            refine gf_if_eq (pc := 40) (tgt := 56) (ti_rfl v31) (by decide) dX0_walk_40 (fun q33 => ?_) (fun q33 => ?_)
            ·
              have k34 := if_t k32 q33
              refine go_aload_n (pc := 56) rfl dX0_walk_56 ?_
              refine go_iload (pc := 57) rfl dX0_walk_57 ?_
              refine go_invV (pc := 59) (sl := 0) (s_X0_escapes_f l (d + 0) hvx l0 hl0 l4 (by rw [show (l4 : Int32).toInt = l4.toInt from (ti_rfl l4)]; omega) (by rw [show (l4 : Int32).toInt = l4.toInt from (ti_rfl l4)]; omega)) mL_X0_93 iM_X0_escapes sM_X0_escapes (hvx.sh (by rcases hl0 with rfl | rfl <;> rfl)) rfl rfl rfl (Nat.le_of_ble_eq_true rfl) (show d + 0 + 2 + 1 ≤ d + 3 by omega) (show 8 + (2 + 11) + 40 * (d + 0 + 2) ≤ 40 * (d + 3) by omega) (g_c0 hvx.ln) (Nat.le_of_ble_eq_true rfl) dX0_walk_59 ?_
              intro r h35 hq _
              obtain ⟨v37, rfl, v37l, v37u, rfl, f36⟩ := hq
              replace f36 : PE _ _ := f36
              have k38 := bd_e k34 f36.symm
              refine gf_if_eq (pc := 62) (tgt := 80) (ti_rfl v37) (by decide) dX0_walk_62 (fun q39 => ?_) (fun q39 => ?_)
              ·
                have k40 := if_t k38 q39
                refine go_aload_n (pc := 80) rfl dX0_walk_80 ?_
                refine go_iload (pc := 81) rfl dX0_walk_81 ?_
                refine go_invV (pc := 83) (sl := 0) (s_X0_decides_f l (d + 0) hvx l0 hl0 l4 (by rw [show (l4 : Int32).toInt = l4.toInt from (ti_rfl l4)]; omega) (by rw [show (l4 : Int32).toInt = l4.toInt from (ti_rfl l4)]; omega)) mL_X0_96 iM_X0_decides sM_X0_decides (hvx.sh (by rcases hl0 with rfl | rfl <;> rfl)) rfl rfl rfl (Nat.le_of_ble_eq_true rfl) (show d + 0 + 2 + 1 ≤ d + 3 by omega) (show 8 + (2 + 11) + 40 * (d + 0 + 2) ≤ 40 * (d + 3) by omega) (g_c0 hvx.ln) (Nat.le_of_ble_eq_true rfl) dX0_walk_83 ?_
                intro r h41 hq _
                obtain ⟨v43, rfl, v43l, v43u, rfl, f42⟩ := hq
                replace f42 : PE _ _ := f42
                have k44 := bd_e k40 f42.symm
                refine gf_if_eq (pc := 86) (tgt := 102) (ti_rfl v43) (by decide) dX0_walk_86 (fun q45 => ?_) (fun q45 => ?_)
                ·
                  have k46 := if_t k44 q45
                  refine gf_iinc (pc := 102) (Nat.le_of_ble_eq_true rfl) rfl (ti_rfl l4) (ti_c (by decide)) (by omega) (by omega) dX0_walk_102 (fun v47 e48 => ?_)
                  refine go_lv (lv2 := [(0, .ref l0), (1, .int l1), (2, .long l2), (4, .int v47)]) rfl ?_
                  refine go_goto (pc := 105) (tgt := 13) (by decide) dX0_walk_105 ?_
                  have z49 : (v47 : Int32).toInt = (l4.toInt + 1) := e48
                  exact go_lv rfl (ih l0 l1 l2 v47 hx hvx hl0 (by omega) (by omega) (by omega) (by omega) fxx (by rw [show (v47 : Int32).toInt = (l4.toInt + 1) from e48]; exact k46) (by omega))
                ·
                  have k50 := if_f k44 q45
                  refine go_lload_n (pc := 89) rfl dX0_walk_89 ?_
                  refine go_aload_n (pc := 90) rfl dX0_walk_90 ?_
                  refine gi_getF (pc := 91) (q := l0 + 13) hvx fL_X0_65 (by rcases hl0 with rfl | rfl <;> rfl) (Nat.le_of_ble_eq_true rfl) rfl (by rcases hl0 with rfl | rfl <;> exact hvx.rf (by decide)) dX0_walk_91 ?_
                  refine go_iload (pc := 94) rfl dX0_walk_94 ?_
                  refine gi_iald (pc := 96) (lo := 0) (hi := 44) (len := 40) hvx (ti_rfl l4) (by rcases hl0 with rfl | rfl <;> rfl) (by omega) (by omega) (fun _ => by rcases hl0 with rfl | rfl <;> rfl) dX0_walk_96 (fun v51 v51l v51u v51w => ?_)
                  have k52 := bd_e k50 (congrArg Int32.toInt v51w.symm)
                  refine go_invS (pc := 97) (sl := 0) (s_X7_bit_f l (d + 1) hvx v51) mL_X0_86 iM_X7_bit rfl rfl (Nat.le_of_ble_eq_true rfl) (show d + 1 + 1 + 1 ≤ d + 3 by omega) (show 8 + (1 + 11) + 40 * (d + 1 + 1) ≤ 40 * (d + 3) by omega) (g_c0 hvx.ln) (Nat.le_of_ble_eq_true rfl) dX0_walk_97 ?_
                  intro r h53 hq _
                  obtain ⟨v55, rfl, rfl, f54⟩ := hq
                  have k56 := bd_e k52 f54.symm
                  refine gx_lor (pc := 100) dX0_walk_100 (fun v57 v57x => ?_)
                  have k58 := bd_e k56 (so_lor v57x)
                  refine go_lstore_n (pc := 101) (Nat.le_of_ble_eq_true rfl) dX0_walk_101 (go_lv (lv2 := [(0, .ref l0), (1, .int l1), (2, .long v57), (4, .int l4)]) rfl ?_)
                  refine gf_iinc (pc := 102) (Nat.le_of_ble_eq_true rfl) rfl (ti_rfl l4) (ti_c (by decide)) (by omega) (by omega) dX0_walk_102 (fun v59 e60 => ?_)
                  refine go_lv (lv2 := [(0, .ref l0), (1, .int l1), (2, .long v57), (4, .int v59)]) rfl ?_
                  refine go_goto (pc := 105) (tgt := 13) (by decide) dX0_walk_105 ?_
                  have z61 : (v59 : Int32).toInt = (l4.toInt + 1) := e60
                  exact go_lv rfl (ih l0 l1 v57 v59 hx hvx hl0 (by omega) (by omega) (by omega) (by omega) fxx (by rw [show (v59 : Int32).toInt = (l4.toInt + 1) from e60]; exact k58) (by omega))
              ·
                have k62 := if_f k38 q39
                refine go_aload_n (pc := 65) rfl dX0_walk_65 ?_
                refine go_dup (pc := 66) rfl dX0_walk_66 ?_
                refine gi_get (pc := 67) (lo := -2147483648) (hi := 2147483647) hvx fL_X0_25 (by rcases hl0 with rfl | rfl <;> rfl) (Nat.le_of_ble_eq_true rfl) rfl (by rcases hl0 with rfl | rfl <;> rfl) dX0_walk_67 (fun v63 v63l v63u v63w => ?_)
                have k64 := bd_e k62 (congrArg Int32.toInt v63w.symm)
                refine go_iconst (pc := 70) (v := 1) (by decide) dX0_walk_70 ?_
                refine go_iload_n (pc := 71) rfl dX0_walk_71 ?_
                refine gx_ishl (pc := 72) dX0_walk_72 (fun v65 v65x => ?_)
                have k66 := bd_e k64 (so_ishl (ti_c (v := 1) (a := 1) (by decide)) (ti_rfl l1) v65x)
                refine gx_ior (pc := 73) dX0_walk_73 (fun v67 v67x => ?_)
                have k68 := bd_e k66 (so_ior (ti_rfl v63) (ti_rfl v65) v67x)
                refine gi_put (pc := 74) (lo := -2147483648) (hi := 2147483647) hvx (ti_rfl v67) (fP_X0_25 _) (by rcases hl0 with rfl | rfl <;> rfl) (Nat.le_of_ble_eq_true rfl) rfl (by rcases hl0 with rfl | rfl <;> rfl) (ti_ge (ti_rfl v67)) (ti_le2 (ti_rfl v67)) rfl rfl (by rcases hl0 with rfl | rfl <;> decide) (by rcases hl0 with rfl | rfl <;> decide) (by rcases hl0 with rfl | rfl <;> decide) (by rcases hl0 with rfl | rfl <;> decide) dX0_walk_74 (fun h69 hv69 hv69e => ?_)
                have fx69 : FX KC0 h h69 := FX.pI fxx hv69e (by unfold KC0; omega)
                have k70 := bd_e k68 (st_I hv69e (ti_rfl v67))
                refine go_goto (pc := 77) (tgt := 102) (by decide) dX0_walk_77 ?_
                refine gf_iinc (pc := 102) (Nat.le_of_ble_eq_true rfl) rfl (ti_rfl l4) (ti_c (by decide)) (by omega) (by omega) dX0_walk_102 (fun v71 e72 => ?_)
                refine go_lv (lv2 := [(0, .ref l0), (1, .int l1), (2, .long l2), (4, .int v71)]) rfl ?_
                refine go_goto (pc := 105) (tgt := 13) (by decide) dX0_walk_105 ?_
                have z73 : (v71 : Int32).toInt = (l4.toInt + 1) := e72
                exact go_lv rfl (ih l0 l1 l2 v71 h69 hv69 hl0 (by omega) (by omega) (by omega) (by omega) fx69 (by rw [show (v71 : Int32).toInt = (l4.toInt + 1) from e72]; exact k70) (by omega))
            ·
              have k74 := if_f k32 q33
              refine go_lload_n (pc := 43) rfl dX0_walk_43 ?_
              refine go_aload_n (pc := 44) rfl dX0_walk_44 ?_
              refine gi_getF (pc := 45) (q := l0 + 12) hvx fL_X0_62 (by rcases hl0 with rfl | rfl <;> rfl) (Nat.le_of_ble_eq_true rfl) rfl (by rcases hl0 with rfl | rfl <;> exact hvx.rf (by decide)) dX0_walk_45 ?_
              refine go_iload (pc := 48) rfl dX0_walk_48 ?_
              refine gi_iald (pc := 50) (lo := 0) (hi := 44) (len := 40) hvx (ti_rfl l4) (by rcases hl0 with rfl | rfl <;> rfl) (by omega) (by omega) (fun _ => by rcases hl0 with rfl | rfl <;> rfl) dX0_walk_50 (fun v75 v75l v75u v75w => ?_)
              have k76 := bd_e k74 (congrArg Int32.toInt v75w.symm)
              refine go_invS (pc := 51) (sl := 0) (s_X7_bit_f l (d + 1) hvx v75) mL_X0_86 iM_X7_bit rfl rfl (Nat.le_of_ble_eq_true rfl) (show d + 1 + 1 + 1 ≤ d + 3 by omega) (show 8 + (1 + 11) + 40 * (d + 1 + 1) ≤ 40 * (d + 3) by omega) (g_c0 hvx.ln) (Nat.le_of_ble_eq_true rfl) dX0_walk_51 ?_
              intro r h77 hq _
              obtain ⟨v79, rfl, rfl, f78⟩ := hq
              have k80 := bd_e k76 f78.symm
              refine gx_lor (pc := 54) dX0_walk_54 (fun v81 v81x => ?_)
              have k82 := bd_e k80 (so_lor v81x)
              refine go_lstore_n (pc := 55) (Nat.le_of_ble_eq_true rfl) dX0_walk_55 (go_lv (lv2 := [(0, .ref l0), (1, .int l1), (2, .long v81), (4, .int l4)]) rfl ?_)
              refine go_aload_n (pc := 56) rfl dX0_walk_56 ?_
              refine go_iload (pc := 57) rfl dX0_walk_57 ?_
              refine go_invV (pc := 59) (sl := 0) (s_X0_escapes_f l (d + 0) hvx l0 hl0 l4 (by rw [show (l4 : Int32).toInt = l4.toInt from (ti_rfl l4)]; omega) (by rw [show (l4 : Int32).toInt = l4.toInt from (ti_rfl l4)]; omega)) mL_X0_93 iM_X0_escapes sM_X0_escapes (hvx.sh (by rcases hl0 with rfl | rfl <;> rfl)) rfl rfl rfl (Nat.le_of_ble_eq_true rfl) (show d + 0 + 2 + 1 ≤ d + 3 by omega) (show 8 + (2 + 11) + 40 * (d + 0 + 2) ≤ 40 * (d + 3) by omega) (g_c0 hvx.ln) (Nat.le_of_ble_eq_true rfl) dX0_walk_59 ?_
              intro r h83 hq _
              obtain ⟨v85, rfl, v85l, v85u, rfl, f84⟩ := hq
              replace f84 : PE _ _ := f84
              have k86 := bd_e k82 f84.symm
              refine gf_if_eq (pc := 62) (tgt := 80) (ti_rfl v85) (by decide) dX0_walk_62 (fun q87 => ?_) (fun q87 => ?_)
              ·
                have k88 := if_t k86 q87
                refine go_aload_n (pc := 80) rfl dX0_walk_80 ?_
                refine go_iload (pc := 81) rfl dX0_walk_81 ?_
                refine go_invV (pc := 83) (sl := 0) (s_X0_decides_f l (d + 0) hvx l0 hl0 l4 (by rw [show (l4 : Int32).toInt = l4.toInt from (ti_rfl l4)]; omega) (by rw [show (l4 : Int32).toInt = l4.toInt from (ti_rfl l4)]; omega)) mL_X0_96 iM_X0_decides sM_X0_decides (hvx.sh (by rcases hl0 with rfl | rfl <;> rfl)) rfl rfl rfl (Nat.le_of_ble_eq_true rfl) (show d + 0 + 2 + 1 ≤ d + 3 by omega) (show 8 + (2 + 11) + 40 * (d + 0 + 2) ≤ 40 * (d + 3) by omega) (g_c0 hvx.ln) (Nat.le_of_ble_eq_true rfl) dX0_walk_83 ?_
                intro r h89 hq _
                obtain ⟨v91, rfl, v91l, v91u, rfl, f90⟩ := hq
                replace f90 : PE _ _ := f90
                have k92 := bd_e k88 f90.symm
                refine gf_if_eq (pc := 86) (tgt := 102) (ti_rfl v91) (by decide) dX0_walk_86 (fun q93 => ?_) (fun q93 => ?_)
                ·
                  have k94 := if_t k92 q93
                  refine gf_iinc (pc := 102) (Nat.le_of_ble_eq_true rfl) rfl (ti_rfl l4) (ti_c (by decide)) (by omega) (by omega) dX0_walk_102 (fun v95 e96 => ?_)
                  refine go_lv (lv2 := [(0, .ref l0), (1, .int l1), (2, .long v81), (4, .int v95)]) rfl ?_
                  refine go_goto (pc := 105) (tgt := 13) (by decide) dX0_walk_105 ?_
                  have z97 : (v95 : Int32).toInt = (l4.toInt + 1) := e96
                  exact go_lv rfl (ih l0 l1 v81 v95 hx hvx hl0 (by omega) (by omega) (by omega) (by omega) fxx (by rw [show (v95 : Int32).toInt = (l4.toInt + 1) from e96]; exact k94) (by omega))
                ·
                  have k98 := if_f k92 q93
                  refine go_lload_n (pc := 89) rfl dX0_walk_89 ?_
                  refine go_aload_n (pc := 90) rfl dX0_walk_90 ?_
                  refine gi_getF (pc := 91) (q := l0 + 13) hvx fL_X0_65 (by rcases hl0 with rfl | rfl <;> rfl) (Nat.le_of_ble_eq_true rfl) rfl (by rcases hl0 with rfl | rfl <;> exact hvx.rf (by decide)) dX0_walk_91 ?_
                  refine go_iload (pc := 94) rfl dX0_walk_94 ?_
                  refine gi_iald (pc := 96) (lo := 0) (hi := 44) (len := 40) hvx (ti_rfl l4) (by rcases hl0 with rfl | rfl <;> rfl) (by omega) (by omega) (fun _ => by rcases hl0 with rfl | rfl <;> rfl) dX0_walk_96 (fun v99 v99l v99u v99w => ?_)
                  have k100 := bd_e k98 (congrArg Int32.toInt v99w.symm)
                  refine go_invS (pc := 97) (sl := 0) (s_X7_bit_f l (d + 1) hvx v99) mL_X0_86 iM_X7_bit rfl rfl (Nat.le_of_ble_eq_true rfl) (show d + 1 + 1 + 1 ≤ d + 3 by omega) (show 8 + (1 + 11) + 40 * (d + 1 + 1) ≤ 40 * (d + 3) by omega) (g_c0 hvx.ln) (Nat.le_of_ble_eq_true rfl) dX0_walk_97 ?_
                  intro r h101 hq _
                  obtain ⟨v103, rfl, rfl, f102⟩ := hq
                  have k104 := bd_e k100 f102.symm
                  refine gx_lor (pc := 100) dX0_walk_100 (fun v105 v105x => ?_)
                  have k106 := bd_e k104 (so_lor v105x)
                  refine go_lstore_n (pc := 101) (Nat.le_of_ble_eq_true rfl) dX0_walk_101 (go_lv (lv2 := [(0, .ref l0), (1, .int l1), (2, .long v105), (4, .int l4)]) rfl ?_)
                  refine gf_iinc (pc := 102) (Nat.le_of_ble_eq_true rfl) rfl (ti_rfl l4) (ti_c (by decide)) (by omega) (by omega) dX0_walk_102 (fun v107 e108 => ?_)
                  refine go_lv (lv2 := [(0, .ref l0), (1, .int l1), (2, .long v105), (4, .int v107)]) rfl ?_
                  refine go_goto (pc := 105) (tgt := 13) (by decide) dX0_walk_105 ?_
                  have z109 : (v107 : Int32).toInt = (l4.toInt + 1) := e108
                  exact go_lv rfl (ih l0 l1 v105 v107 hx hvx hl0 (by omega) (by omega) (by omega) (by omega) fxx (by rw [show (v107 : Int32).toInt = (l4.toInt + 1) from e108]; exact k106) (by omega))
              ·
                have k110 := if_f k86 q87
                refine go_aload_n (pc := 65) rfl dX0_walk_65 ?_
                refine go_dup (pc := 66) rfl dX0_walk_66 ?_
                refine gi_get (pc := 67) (lo := -2147483648) (hi := 2147483647) hvx fL_X0_25 (by rcases hl0 with rfl | rfl <;> rfl) (Nat.le_of_ble_eq_true rfl) rfl (by rcases hl0 with rfl | rfl <;> rfl) dX0_walk_67 (fun v111 v111l v111u v111w => ?_)
                have k112 := bd_e k110 (congrArg Int32.toInt v111w.symm)
                refine go_iconst (pc := 70) (v := 1) (by decide) dX0_walk_70 ?_
                refine go_iload_n (pc := 71) rfl dX0_walk_71 ?_
                refine gx_ishl (pc := 72) dX0_walk_72 (fun v113 v113x => ?_)
                have k114 := bd_e k112 (so_ishl (ti_c (v := 1) (a := 1) (by decide)) (ti_rfl l1) v113x)
                refine gx_ior (pc := 73) dX0_walk_73 (fun v115 v115x => ?_)
                have k116 := bd_e k114 (so_ior (ti_rfl v111) (ti_rfl v113) v115x)
                refine gi_put (pc := 74) (lo := -2147483648) (hi := 2147483647) hvx (ti_rfl v115) (fP_X0_25 _) (by rcases hl0 with rfl | rfl <;> rfl) (Nat.le_of_ble_eq_true rfl) rfl (by rcases hl0 with rfl | rfl <;> rfl) (ti_ge (ti_rfl v115)) (ti_le2 (ti_rfl v115)) rfl rfl (by rcases hl0 with rfl | rfl <;> decide) (by rcases hl0 with rfl | rfl <;> decide) (by rcases hl0 with rfl | rfl <;> decide) (by rcases hl0 with rfl | rfl <;> decide) dX0_walk_74 (fun h117 hv117 hv117e => ?_)
                have fx117 : FX KC0 h h117 := FX.pI fxx hv117e (by unfold KC0; omega)
                have k118 := bd_e k116 (st_I hv117e (ti_rfl v115))
                refine go_goto (pc := 77) (tgt := 102) (by decide) dX0_walk_77 ?_
                refine gf_iinc (pc := 102) (Nat.le_of_ble_eq_true rfl) rfl (ti_rfl l4) (ti_c (by decide)) (by omega) (by omega) dX0_walk_102 (fun v119 e120 => ?_)
                refine go_lv (lv2 := [(0, .ref l0), (1, .int l1), (2, .long v81), (4, .int v119)]) rfl ?_
                refine go_goto (pc := 105) (tgt := 13) (by decide) dX0_walk_105 ?_
                have z121 : (v119 : Int32).toInt = (l4.toInt + 1) := e120
                exact go_lv rfl (ih l0 l1 v81 v119 h117 hv117 hl0 (by omega) (by omega) (by omega) (by omega) fx117 (by rw [show (v119 : Int32).toInt = (l4.toInt + 1) from e120]; exact k118) (by omega))
          ·
            have k122 := if_f k26 (fun z => z q27)
            refine go_goto (pc := 31) (tgt := 102) (by decide) dX0_walk_31 ?_
            refine gf_iinc (pc := 102) (Nat.le_of_ble_eq_true rfl) rfl (ti_rfl l4) (ti_c (by decide)) (by omega) (by omega) dX0_walk_102 (fun v123 e124 => ?_)
            refine go_lv (lv2 := [(0, .ref l0), (1, .int l1), (2, .long l2), (4, .int v123)]) rfl ?_
            refine go_goto (pc := 105) (tgt := 13) (by decide) dX0_walk_105 ?_
            have z125 : (v123 : Int32).toInt = (l4.toInt + 1) := e124
            exact go_lv rfl (ih l0 l1 l2 v123 hx hvx hl0 (by omega) (by omega) (by omega) (by omega) fxx (by rw [show (v123 : Int32).toInt = (l4.toInt + 1) from e124]; exact k122) (by omega))
  refine go_aload_n (pc := 0) rfl dX0_walk_0 ?_
  refine gi_getF (pc := 1) (q := c1 + 1) hv fL_X0_28 (by rcases hc1 with rfl | rfl <;> rfl) (Nat.le_of_ble_eq_true rfl) rfl (by rcases hc1 with rfl | rfl <;> exact hv.rf (by decide)) dX0_walk_1 ?_
  refine go_iload_n (pc := 4) rfl dX0_walk_4 ?_
  refine gi_iald (pc := 5) (lo := 0) (hi := 44) (len := 5) hv (ti_rfl a2) (by rcases hc1 with rfl | rfl <;> rfl) (by omega) (by omega) (fun _ => by rcases hc1 with rfl | rfl <;> rfl) dX0_walk_5 (fun v126 v126l v126u v126w => ?_)
  have k127 := bd_e k0 (congrArg Int32.toInt v126w.symm)
  refine go_invS (pc := 6) (sl := 0) (s_X7_bit_f l (d + 1) hv v126) mL_X0_86 iM_X7_bit rfl rfl (Nat.le_of_ble_eq_true rfl) (show d + 1 + 1 + 1 ≤ d + 3 by omega) (show 8 + (1 + 11) + 40 * (d + 1 + 1) ≤ 40 * (d + 3) by omega) (g_c0 hv.ln) (Nat.le_of_ble_eq_true rfl) dX0_walk_6 ?_
  intro r h128 hq _
  obtain ⟨v130, rfl, rfl, f129⟩ := hq
  have k131 := bd_e k127 f129.symm
  refine go_lstore_n (pc := 9) (Nat.le_of_ble_eq_true rfl) dX0_walk_9 (go_lv (lv2 := [(0, .ref c1), (1, .int a2), (2, .long v130)]) rfl ?_)
  refine go_iconst (pc := 10) (v := 0) (by decide) dX0_walk_10 ?_
  refine go_istore (pc := 11) (Nat.le_of_ble_eq_true rfl) dX0_walk_11 (go_lv (lv2 := [(0, .ref c1), (1, .int a2), (2, .long v130), (4, .int 0)]) rfl ?_)
  have z132 : (0 : Int32).toInt = 0 := (ti_c (v := 0) (a := 0) (by decide))
  exact go_lv rfl ((key 139) c1 a2 v130 0 h hv hc1 (by omega) (by omega) (by omega) (by omega) fx (by rw [show (0 : Int32).toInt = 0 from (ti_c (v := 0) (a := 0) (by decide))]; exact k131) (by omega))
def f_X0_settleEnds_ : Nat → Nat → Nat → Int → Int → Int → Int → Int → ST → ST
  | 0, _, _, _, _, _, _, _, sx => sx
  | n + 1, lab, l0, l1, l2, l3, l4, l5, sx => if lab = 4 then (if 10 < l2 then (sx) else (if l1 = 0 then (sx) else (bd (sx.1 l0 3) fun v7 => bd (sx.1 l0 4) fun v9 => f_X0_settleEnds_ n 28 l0 0 l2 v7 v9 0 sx))) else bd (sx.1 l0 1) fun v12 => if v12 ≤ l5 then (bd (sx.1 l0 3) fun v16 => if ¬ l3 = v16 then (f_X0_settleEnds_ n 4 l0 1 ((l2 + 1)) 0 0 0 sx) else (bd (sx.1 l0 4) fun v25 => if l4 = v25 then (f_X0_settleEnds_ n 4 l0 0 ((l2 + 1)) 0 0 0 sx) else (f_X0_settleEnds_ n 4 l0 1 ((l2 + 1)) 0 0 0 sx))) else (bd (f_X0_walk sx l0 l5) fun s39 => f_X0_settleEnds_ n 28 l0 0 l2 l3 l4 ((l5 + 1)) s39)
def f_X0_settleEnds (s : ST) (c1 : Nat) : ST :=
  f_X0_settleEnds_ 325 4 c1 1 0 0 0 0 s
set_option maxHeartbeats 4000000 in
set_option maxRecDepth 100000 in
theorem s_X0_settleEnds_f (l : Launch) (d : Nat) {P : PP} {h : HP} (hv : Iv P h) (c1 : Nat) (hc1 : c1 = 2 ∨ c1 = 18) : Mt l yX0_settleEnds cX0_settleEnds 6 none (d + 4) [.ref c1] h 0 0 (fun r h' => r = none ∧ Iv P h' ∧ (st h' = f_X0_settleEnds (st h) c1) ∧ (FX KC0 h h')) := by
  refine Mt_iv hv (by decide) (Nat.le_of_ble_eq_true rfl) ?_
  show Go l RX0 cX0_settleEnds 6 (g_rm (d + 4) 0 0) "settleEnds" none 117 0 0 (fun _ _ => True) (fun r h' => r = none ∧ Iv P h' ∧ (st h' = f_X0_settleEnds (st h) c1) ∧ (FX KC0 h h')) 0 0 [(0, .ref c1)] [] h
  have fx : FX KC0 h h := FX.rfl
  obtain ⟨fin, kf⟩ : ∃ z, z = f_X0_settleEnds (st h) c1 := ⟨_, _root_.rfl⟩
  have k0 := kf
  unfold f_X0_settleEnds at k0
  have key : ∀ n : Nat, (∀ (l0 : Nat) (l1 : Int32) (l2 : Int32) (hx : HP), Iv P hx → (l0 = 2 ∨ l0 = 18) → 0 ≤ l1.toInt → l1.toInt ≤ 1 → 0 ≤ l2.toInt → l2.toInt ≤ 11 → FX KC0 h hx → fin = f_X0_settleEnds_ n 4 l0 l1.toInt l2.toInt 0 0 0 (st hx) → (24 * (11 - l2.toInt) + 23 : Int) < n → Go l RX0 cX0_settleEnds 6 (g_rm (d + 4) 0 0) "settleEnds" none 117 0 0 (fun _ _ => True) (fun r h' => r = none ∧ Iv P h' ∧ (st h' = f_X0_settleEnds (st h) c1) ∧ (FX KC0 h h')) 0 4 [(0, .ref l0), (1, .int l1), (2, .int l2)] [] hx) ∧ (∀ (l0 : Nat) (l2 : Int32) (l3 : Int32) (l4 : Int32) (l5 : Int32) (hx : HP), Iv P hx → (l0 = 2 ∨ l0 = 18) → 0 ≤ l2.toInt → l2.toInt ≤ 10 → 0 ≤ l5.toInt → l5.toInt ≤ 5 → FX KC0 h hx → fin = f_X0_settleEnds_ n 28 l0 0 l2.toInt l3.toInt l4.toInt l5.toInt (st hx) → (3 * (5 - l5.toInt) + 24 * (11 - l2.toInt) + 3 : Int) < n → Go l RX0 cX0_settleEnds 6 (g_rm (d + 4) 0 0) "settleEnds" none 117 0 0 (fun _ _ => True) (fun r h' => r = none ∧ Iv P h' ∧ (st h' = f_X0_settleEnds (st h) c1) ∧ (FX KC0 h h')) 0 28 [(0, .ref l0), (2, .int l2), (3, .int l3), (4, .int l4), (5, .int l5)] [] hx) := by
    intro n
    induction n with
    | zero => exact ⟨(by intros; omega), (by intros; omega)⟩
    | succ n ih =>
      refine ⟨?_, ?_⟩
      ·
        intro l0 l1 l2 hx hvx hl0 l1l l1u l2l l2u fxx kL hm
        rw [f_X0_settleEnds_] at kL
        replace kL := if_t kL _root_.rfl
        refine go_iload_n (pc := 4) rfl dX0_settleEnds_4 ?_
        refine go_bipush (pc := 5) (v := 10) (by decide) dX0_settleEnds_5 ?_
        refine gf_icmp_gt (pc := 7) (tgt := 78) (ti_rfl l2) (ti_c (v := 10) (a := 10) (by decide)) (by decide) dX0_settleEnds_7 (fun q1 => ?_) (fun q1 => ?_)
        ·
          have k2 := if_t kL q1
          exact gi_vret (pc := 78) ⟨rfl, hvx, (k2.symm.trans kf), fxx⟩ hvx dX0_settleEnds_78
        ·
          have k3 := if_f kL (Int.not_lt.mpr q1)
          refine go_iload_n (pc := 10) rfl dX0_settleEnds_10 ?_
          refine gf_if_eq (pc := 11) (tgt := 78) (ti_rfl l1) (by decide) dX0_settleEnds_11 (fun q4 => ?_) (fun q4 => ?_)
          ·
            have k5 := if_t k3 q4
            exact gi_vret (pc := 78) ⟨rfl, hvx, (k5.symm.trans kf), fxx⟩ hvx dX0_settleEnds_78
          ·
            have k6 := if_f k3 q4
            refine go_aload_n (pc := 14) rfl dX0_settleEnds_14 ?_
            refine gi_get (pc := 15) (lo := -2147483648) (hi := 2147483647) hvx fL_X0_22 (by rcases hl0 with rfl | rfl <;> rfl) (Nat.le_of_ble_eq_true rfl) rfl (by rcases hl0 with rfl | rfl <;> rfl) dX0_settleEnds_15 (fun v7 v7l v7u v7w => ?_)
            have k8 := bd_e k6 (congrArg Int32.toInt v7w.symm)
            refine go_istore_n (pc := 18) (Nat.le_of_ble_eq_true rfl) dX0_settleEnds_18 (go_lv (lv2 := [(0, .ref l0), (1, .int l1), (2, .int l2), (3, .int v7)]) rfl ?_)
            refine go_aload_n (pc := 19) rfl dX0_settleEnds_19 ?_
            refine gi_get (pc := 20) (lo := -2147483648) (hi := 2147483647) hvx fL_X0_25 (by rcases hl0 with rfl | rfl <;> rfl) (Nat.le_of_ble_eq_true rfl) rfl (by rcases hl0 with rfl | rfl <;> rfl) dX0_settleEnds_20 (fun v9 v9l v9u v9w => ?_)
            have k10 := bd_e k8 (congrArg Int32.toInt v9w.symm)
            refine go_istore (pc := 23) (Nat.le_of_ble_eq_true rfl) dX0_settleEnds_23 (go_lv (lv2 := [(0, .ref l0), (1, .int l1), (2, .int l2), (3, .int v7), (4, .int v9)]) rfl ?_)
            refine go_iconst (pc := 25) (v := 0) (by decide) dX0_settleEnds_25 ?_
            refine go_istore (pc := 26) (Nat.le_of_ble_eq_true rfl) dX0_settleEnds_26 (go_lv (lv2 := [(0, .ref l0), (1, .int l1), (2, .int l2), (3, .int v7), (4, .int v9), (5, .int 0)]) rfl ?_)
            have z11 : (0 : Int32).toInt = 0 := (ti_c (v := 0) (a := 0) (by decide))
            exact go_lv rfl (ih.2 l0 l2 v7 v9 0 hx hvx hl0 (by omega) (by omega) (by omega) (by omega) fxx (by rw [show (0 : Int32).toInt = 0 from (ti_c (v := 0) (a := 0) (by decide))]; exact k10) (by omega))
      ·
        intro l0 l2 l3 l4 l5 hx hvx hl0 l2l l2u l5l l5u fxx kL hm
        rw [f_X0_settleEnds_] at kL
        replace kL := if_f kL (by decide)
        refine go_iload (pc := 28) rfl dX0_settleEnds_28 ?_
        refine go_aload_n (pc := 30) rfl dX0_settleEnds_30 ?_
        refine gi_get (pc := 31) (lo := 0) (hi := 5) hvx fL_X0_15 (by rcases hl0 with rfl | rfl <;> rfl) (Nat.le_of_ble_eq_true rfl) rfl (by rcases hl0 with rfl | rfl <;> rfl) dX0_settleEnds_31 (fun v12 v12l v12u v12w => ?_)
        have k13 := bd_e kL (congrArg Int32.toInt v12w.symm)
        refine gf_icmp_ge (pc := 34) (tgt := 49) (ti_rfl l5) (ti_rfl v12) (by decide) dX0_settleEnds_34 (fun q14 => ?_) (fun q14 => ?_)
        ·
          have k15 := if_t k13 q14
          refine go_iload_n (pc := 49) rfl dX0_settleEnds_49 ?_
          refine go_aload_n (pc := 50) rfl dX0_settleEnds_50 ?_
          refine gi_get (pc := 51) (lo := -2147483648) (hi := 2147483647) hvx fL_X0_22 (by rcases hl0 with rfl | rfl <;> rfl) (Nat.le_of_ble_eq_true rfl) rfl (by rcases hl0 with rfl | rfl <;> rfl) dX0_settleEnds_51 (fun v16 v16l v16u v16w => ?_)
          have k17 := bd_e k15 (congrArg Int32.toInt v16w.symm)
          refine gf_icmp_ne (pc := 54) (tgt := 66) (ti_rfl l3) (ti_rfl v16) (by decide) dX0_settleEnds_54 (fun q18 => ?_) (fun q18 => ?_)
          ·
            have k19 := if_t k17 q18
            refine go_iconst (pc := 66) (v := 1) (by decide) dX0_settleEnds_66 ?_
            refine go_goto (pc := 67) (tgt := 71) (by decide) dX0_settleEnds_67 ?_
            refine go_istore_n (pc := 71) (Nat.le_of_ble_eq_true rfl) dX0_settleEnds_71 (go_lv (lv2 := [(0, .ref l0), (1, .int 1), (2, .int l2), (3, .int l3), (4, .int l4), (5, .int l5)]) rfl ?_)
            refine gf_iinc (pc := 72) (Nat.le_of_ble_eq_true rfl) rfl (ti_rfl l2) (ti_c (by decide)) (by omega) (by omega) dX0_settleEnds_72 (fun v20 e21 => ?_)
            refine go_lv (lv2 := [(0, .ref l0), (1, .int 1), (2, .int v20), (3, .int l3), (4, .int l4), (5, .int l5)]) rfl ?_
            refine go_goto (pc := 75) (tgt := 4) (by decide) dX0_settleEnds_75 ?_
            have z22 : (1 : Int32).toInt = 1 := (ti_c (v := 1) (a := 1) (by decide))
            have z23 : (v20 : Int32).toInt = (l2.toInt + 1) := e21
            exact go_lv rfl (ih.1 l0 1 v20 hx hvx hl0 (by omega) (by omega) (by omega) (by omega) fxx (by rw [show (1 : Int32).toInt = 1 from (ti_c (v := 1) (a := 1) (by decide)), show (v20 : Int32).toInt = (l2.toInt + 1) from e21]; exact k19) (by omega))
          ·
            have k24 := if_f k17 (fun z => z q18)
            refine go_iload (pc := 57) rfl dX0_settleEnds_57 ?_
            refine go_aload_n (pc := 59) rfl dX0_settleEnds_59 ?_
            refine gi_get (pc := 60) (lo := -2147483648) (hi := 2147483647) hvx fL_X0_25 (by rcases hl0 with rfl | rfl <;> rfl) (Nat.le_of_ble_eq_true rfl) rfl (by rcases hl0 with rfl | rfl <;> rfl) dX0_settleEnds_60 (fun v25 v25l v25u v25w => ?_)
            have k26 := bd_e k24 (congrArg Int32.toInt v25w.symm)
            refine gf_icmp_eq (pc := 63) (tgt := 70) (ti_rfl l4) (ti_rfl v25) (by decide) dX0_settleEnds_63 (fun q27 => ?_) (fun q27 => ?_)
            ·
              have k28 := if_t k26 q27
              refine go_iconst (pc := 70) (v := 0) (by decide) dX0_settleEnds_70 ?_
              refine go_istore_n (pc := 71) (Nat.le_of_ble_eq_true rfl) dX0_settleEnds_71 (go_lv (lv2 := [(0, .ref l0), (1, .int 0), (2, .int l2), (3, .int l3), (4, .int l4), (5, .int l5)]) rfl ?_)
              refine gf_iinc (pc := 72) (Nat.le_of_ble_eq_true rfl) rfl (ti_rfl l2) (ti_c (by decide)) (by omega) (by omega) dX0_settleEnds_72 (fun v29 e30 => ?_)
              refine go_lv (lv2 := [(0, .ref l0), (1, .int 0), (2, .int v29), (3, .int l3), (4, .int l4), (5, .int l5)]) rfl ?_
              refine go_goto (pc := 75) (tgt := 4) (by decide) dX0_settleEnds_75 ?_
              have z31 : (0 : Int32).toInt = 0 := (ti_c (v := 0) (a := 0) (by decide))
              have z32 : (v29 : Int32).toInt = (l2.toInt + 1) := e30
              exact go_lv rfl (ih.1 l0 0 v29 hx hvx hl0 (by omega) (by omega) (by omega) (by omega) fxx (by rw [show (0 : Int32).toInt = 0 from (ti_c (v := 0) (a := 0) (by decide)), show (v29 : Int32).toInt = (l2.toInt + 1) from e30]; exact k28) (by omega))
            ·
              have k33 := if_f k26 q27
              refine go_iconst (pc := 66) (v := 1) (by decide) dX0_settleEnds_66 ?_
              refine go_goto (pc := 67) (tgt := 71) (by decide) dX0_settleEnds_67 ?_
              refine go_istore_n (pc := 71) (Nat.le_of_ble_eq_true rfl) dX0_settleEnds_71 (go_lv (lv2 := [(0, .ref l0), (1, .int 1), (2, .int l2), (3, .int l3), (4, .int l4), (5, .int l5)]) rfl ?_)
              refine gf_iinc (pc := 72) (Nat.le_of_ble_eq_true rfl) rfl (ti_rfl l2) (ti_c (by decide)) (by omega) (by omega) dX0_settleEnds_72 (fun v34 e35 => ?_)
              refine go_lv (lv2 := [(0, .ref l0), (1, .int 1), (2, .int v34), (3, .int l3), (4, .int l4), (5, .int l5)]) rfl ?_
              refine go_goto (pc := 75) (tgt := 4) (by decide) dX0_settleEnds_75 ?_
              have z36 : (1 : Int32).toInt = 1 := (ti_c (v := 1) (a := 1) (by decide))
              have z37 : (v34 : Int32).toInt = (l2.toInt + 1) := e35
              exact go_lv rfl (ih.1 l0 1 v34 hx hvx hl0 (by omega) (by omega) (by omega) (by omega) fxx (by rw [show (1 : Int32).toInt = 1 from (ti_c (v := 1) (a := 1) (by decide)), show (v34 : Int32).toInt = (l2.toInt + 1) from e35]; exact k33) (by omega))
        ·
          have k38 := if_f k13 (Int.not_le.mpr q14)
          refine go_aload_n (pc := 37) rfl dX0_settleEnds_37 ?_
          refine go_iload (pc := 38) rfl dX0_settleEnds_38 ?_
          refine go_invV (pc := 40) (sl := 0) (s_X0_walk_f l (d + 0) hvx l0 hl0 l5 (by rw [show (l5 : Int32).toInt = l5.toInt from (ti_rfl l5)]; omega) (by rw [show (l5 : Int32).toInt = l5.toInt from (ti_rfl l5)]; omega)) mL_X0_82 iM_X0_walk sM_X0_walk (hvx.sh (by rcases hl0 with rfl | rfl <;> rfl)) rfl rfl rfl (Nat.le_of_ble_eq_true rfl) (show d + 0 + 3 + 1 ≤ d + 4 by omega) (show 8 + (5 + 11) + 40 * (d + 0 + 3) ≤ 40 * (d + 4) by omega) (g_c0 hvx.ln) (Nat.le_of_ble_eq_true rfl) dX0_settleEnds_40 ?_
          intro r h39 hq _
          obtain ⟨rfl, hv39, f40, f41⟩ := hq
          have fx39 : FX KC0 h h39 := FX.tr fxx f41
          have k42 := bd_e k38 f40.symm
          refine gf_iinc (pc := 43) (Nat.le_of_ble_eq_true rfl) rfl (ti_rfl l5) (ti_c (by decide)) (by omega) (by omega) dX0_settleEnds_43 (fun v43 e44 => ?_)
          refine go_lv (lv2 := [(0, .ref l0), (2, .int l2), (3, .int l3), (4, .int l4), (5, .int v43)]) rfl ?_
          refine go_goto (pc := 46) (tgt := 28) (by decide) dX0_settleEnds_46 ?_
          have z45 : (v43 : Int32).toInt = (l5.toInt + 1) := e44
          exact go_lv rfl (ih.2 l0 l2 l3 l4 v43 h39 hv39 hl0 (by omega) (by omega) (by omega) (by omega) fx39 (by rw [show (v43 : Int32).toInt = (l5.toInt + 1) from e44]; exact k42) (by omega))
  refine go_iconst (pc := 0) (v := 1) (by decide) dX0_settleEnds_0 ?_
  refine go_istore_n (pc := 1) (Nat.le_of_ble_eq_true rfl) dX0_settleEnds_1 (go_lv (lv2 := [(0, .ref c1), (1, .int 1)]) rfl ?_)
  refine go_iconst (pc := 2) (v := 0) (by decide) dX0_settleEnds_2 ?_
  refine go_istore_n (pc := 3) (Nat.le_of_ble_eq_true rfl) dX0_settleEnds_3 (go_lv (lv2 := [(0, .ref c1), (1, .int 1), (2, .int 0)]) rfl ?_)
  have z46 : (1 : Int32).toInt = 1 := (ti_c (v := 1) (a := 1) (by decide))
  have z47 : (0 : Int32).toInt = 0 := (ti_c (v := 0) (a := 0) (by decide))
  exact go_lv rfl ((key 325).1 c1 1 0 h hv hc1 (by omega) (by omega) (by omega) (by omega) fx (by rw [show (1 : Int32).toInt = 1 from (ti_c (v := 1) (a := 1) (by decide)), show (0 : Int32).toInt = 0 from (ti_c (v := 0) (a := 0) (by decide))]; exact k0) (by omega))
def f_X0_allMayEnd (s : ST) (c1 : Nat) : Int :=
  bd (s.1 c1 3) fun v1 => bd (s.1 c1 4) fun v3 => bd (o_ior v1 v3) fun v5 => bd (s.1 c1 1) fun v7 => bd (o_ishl 1 v7) fun v9 => bd (o_isub v9 1) fun v11 => if ¬ v5 = v11 then (0) else (1)
set_option maxHeartbeats 4000000 in
set_option maxRecDepth 100000 in
theorem s_X0_allMayEnd_f (l : Launch) (d : Nat) {P : PP} {h : HP} (hv : Iv P h) (c1 : Nat) (hc1 : c1 = 2 ∨ c1 = 18) : Mt l yX0_allMayEnd cX0_allMayEnd 1 (some .boolean) (d + 1) [.ref c1] h 0 0 (fun r h' => ∃ v : Int32, r = some (.int v) ∧ 0 ≤ v.toInt ∧ v.toInt ≤ 1 ∧ h = h' ∧ (v.toInt = f_X0_allMayEnd (st h) c1)) := by
  refine Mt_iv hv (by decide) (Nat.le_of_ble_eq_true rfl) ?_
  show Go l RX0 cX0_allMayEnd 1 (g_rm (d + 1) 0 0) "allMayEnd" (some .boolean) 117 0 0 (fun _ _ => True) (fun r h' => ∃ v : Int32, r = some (.int v) ∧ 0 ≤ v.toInt ∧ v.toInt ≤ 1 ∧ h = h' ∧ (v.toInt = f_X0_allMayEnd (st h) c1)) 0 0 [(0, .ref c1)] [] h
  obtain ⟨fin, kf⟩ : ∃ z, z = f_X0_allMayEnd (st h) c1 := ⟨_, _root_.rfl⟩
  have k0 := kf
  unfold f_X0_allMayEnd at k0
  refine go_aload_n (pc := 0) rfl dX0_allMayEnd_0 ?_
  refine gi_get (pc := 1) (lo := -2147483648) (hi := 2147483647) hv fL_X0_22 (by rcases hc1 with rfl | rfl <;> rfl) (Nat.le_of_ble_eq_true rfl) rfl (by rcases hc1 with rfl | rfl <;> rfl) dX0_allMayEnd_1 (fun v1 v1l v1u v1w => ?_)
  have k2 := bd_e k0 (congrArg Int32.toInt v1w.symm)
  refine go_aload_n (pc := 4) rfl dX0_allMayEnd_4 ?_
  refine gi_get (pc := 5) (lo := -2147483648) (hi := 2147483647) hv fL_X0_25 (by rcases hc1 with rfl | rfl <;> rfl) (Nat.le_of_ble_eq_true rfl) rfl (by rcases hc1 with rfl | rfl <;> rfl) dX0_allMayEnd_5 (fun v3 v3l v3u v3w => ?_)
  have k4 := bd_e k2 (congrArg Int32.toInt v3w.symm)
  refine gx_ior (pc := 8) dX0_allMayEnd_8 (fun v5 v5x => ?_)
  have k6 := bd_e k4 (so_ior (ti_rfl v1) (ti_rfl v3) v5x)
  refine go_iconst (pc := 9) (v := 1) (by decide) dX0_allMayEnd_9 ?_
  refine go_aload_n (pc := 10) rfl dX0_allMayEnd_10 ?_
  refine gi_get (pc := 11) (lo := 0) (hi := 5) hv fL_X0_15 (by rcases hc1 with rfl | rfl <;> rfl) (Nat.le_of_ble_eq_true rfl) rfl (by rcases hc1 with rfl | rfl <;> rfl) dX0_allMayEnd_11 (fun v7 v7l v7u v7w => ?_)
  have k8 := bd_e k6 (congrArg Int32.toInt v7w.symm)
  refine gx_ishl (pc := 14) dX0_allMayEnd_14 (fun v9 v9x => ?_)
  have k10 := bd_e k8 (so_ishl (ti_c (v := 1) (a := 1) (by decide)) (ti_rfl v7) v9x)
  refine go_iconst (pc := 15) (v := 1) (by decide) dX0_allMayEnd_15 ?_
  refine gx_isub (pc := 16) dX0_allMayEnd_16 (fun v11 v11x => ?_)
  have k12 := bd_e k10 (so_isub (ti_rfl v9) (ti_c (v := 1) (a := 1) (by decide)) v11x)
  refine gf_icmp_ne (pc := 17) (tgt := 24) (ti_rfl v5) (ti_rfl v11) (by decide) dX0_allMayEnd_17 (fun q13 => ?_) (fun q13 => ?_)
  ·
    have k14 := if_t k12 q13
    refine go_iconst (pc := 24) (v := 0) (by decide) dX0_allMayEnd_24 ?_
    exact gi_zret (pc := 25) (ti_c (v := 0) (a := 0) (by decide)) (by omega) (by omega) ⟨_, rfl, (by rw [show (0 : Int32).toInt = 0 from (ti_c (v := 0) (a := 0) (by decide))]; omega), (by rw [show (0 : Int32).toInt = 0 from (ti_c (v := 0) (a := 0) (by decide))]; omega), rfl, (by rw [show (0 : Int32).toInt = 0 from (ti_c (v := 0) (a := 0) (by decide))]; exact k14.symm.trans kf)⟩ hv dX0_allMayEnd_25
  ·
    have k15 := if_f k12 (fun z => z q13)
    refine go_iconst (pc := 20) (v := 1) (by decide) dX0_allMayEnd_20 ?_
    refine go_goto (pc := 21) (tgt := 25) (by decide) dX0_allMayEnd_21 ?_
    exact gi_zret (pc := 25) (ti_c (v := 1) (a := 1) (by decide)) (by omega) (by omega) ⟨_, rfl, (by rw [show (1 : Int32).toInt = 1 from (ti_c (v := 1) (a := 1) (by decide))]; omega), (by rw [show (1 : Int32).toInt = 1 from (ti_c (v := 1) (a := 1) (by decide))]; omega), rfl, (by rw [show (1 : Int32).toInt = 1 from (ti_c (v := 1) (a := 1) (by decide))]; exact k15.symm.trans kf)⟩ hv dX0_allMayEnd_25

