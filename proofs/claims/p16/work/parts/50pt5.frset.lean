def f_X8_isInSet_x2 (s : ST) (a2 : Int) : Int :=
  bd (s.1 109 ((a2 / 32)).toNat) fun v3 => bd (o_iushr v3 ((a2 % 32))) fun v7 => bd (o_iand v7 1) fun v9 => if ¬ v9 = 1 then (0) else (1)
set_option maxHeartbeats 4000000 in
set_option maxRecDepth 100000 in
theorem s_X8_isInSet_x2_f (l : Launch) (d : Nat) {P : PP} {h : HP} (hv : Iv P h) (a2 : Int32) (a2l : 0 ≤ a2.toInt) (a2u : a2.toInt ≤ 584) : Mt l yX8_isInSet cX8_isInSet 2 (some .boolean) (d + 1) [.ref 70, .int a2] h 0 0 (fun r h' => ∃ v : Int32, r = some (.int v) ∧ 0 ≤ v.toInt ∧ v.toInt ≤ 1 ∧ h = h' ∧ ((v.toInt = 1 → sb h.2.1 109 a2.toInt) ∧ (v.toInt = 0 → ¬ sb h.2.1 109 a2.toInt)) ∧ (v.toInt = f_X8_isInSet_x2 (st h) a2.toInt)) := by
  refine Mt_iv hv (by decide) (Nat.le_of_ble_eq_true rfl) ?_
  show Go l RX8 cX8_isInSet 2 (g_rm (d + 1) 0 0) "isInSet" (some .boolean) 117 0 0 (fun _ _ => True) (fun r h' => ∃ v : Int32, r = some (.int v) ∧ 0 ≤ v.toInt ∧ v.toInt ≤ 1 ∧ h = h' ∧ ((v.toInt = 1 → sb h.2.1 109 a2.toInt) ∧ (v.toInt = 0 → ¬ sb h.2.1 109 a2.toInt)) ∧ (v.toInt = f_X8_isInSet_x2 (st h) a2.toInt)) 0 0 [(0, .ref 70), (1, .int a2)] [] h
  obtain ⟨fin, kf⟩ : ∃ z, z = f_X8_isInSet_x2 (st h) a2.toInt := ⟨_, _root_.rfl⟩
  have k0 := kf
  unfold f_X8_isInSet_x2 at k0
  refine go_aload_n (pc := 0) rfl dX8_isInSet_0 ?_
  refine gi_getF (pc := 1) (q := 109) hv fL_X8_127 rfl (Nat.le_of_ble_eq_true rfl) rfl (hv.rf (by decide)) dX8_isInSet_1 ?_
  refine go_iload_n (pc := 4) rfl dX8_isInSet_4 ?_
  refine go_bipush (pc := 5) (v := 32) (by decide) dX8_isInSet_5 ?_
  refine gf_idiv (pc := 7) (ti_rfl a2) (ti_c (v := 32) (a := 32) (by decide)) (by omega) (by omega) dX8_isInSet_7 (fun v1 e2 => ?_)
  refine gi_iald (pc := 8) (lo := -2147483648) (hi := 2147483647) (len := 19) hv e2 rfl (by omega) (by omega) (fun _ => rfl) dX8_isInSet_8 (fun v3 v3l v3u v3w => ?_)
  have k4 := bd_e k0 (congrArg Int32.toInt v3w.symm)
  refine go_iload_n (pc := 9) rfl dX8_isInSet_9 ?_
  refine go_bipush (pc := 10) (v := 32) (by decide) dX8_isInSet_10 ?_
  refine gf_irem (pc := 12) (ti_rfl a2) (ti_c (v := 32) (a := 32) (by decide)) (by omega) (by omega) dX8_isInSet_12 (fun v5 e6 => ?_)
  refine gx_iushr (pc := 13) dX8_isInSet_13 (fun v7 v7x => ?_)
  have k8 := bd_e k4 (so_iushr (ti_rfl v3) e6 v7x)
  refine go_iconst (pc := 14) (v := 1) (by decide) dX8_isInSet_14 ?_
  refine gx_iand (pc := 15) dX8_isInSet_15 (fun v9 v9x => ?_)
  have v9l : 0 ≤ v9.toInt := by rw [v9x]; exact (ti_mask (ti_c (v := 1) (a := 1) (by decide)) (by omega)).1
  have v9u : v9.toInt ≤ 1 := by rw [v9x]; exact (ti_mask (ti_c (v := 1) (a := 1) (by decide)) (by omega)).2
  have k10 := bd_e k8 (so_iand (ti_rfl v7) (ti_c (v := 1) (a := 1) (by decide)) v9x)
  refine go_iconst (pc := 16) (v := 1) (by decide) dX8_isInSet_16 ?_
  refine gf_icmp_ne (pc := 17) (tgt := 24) (ti_rfl v9) (ti_c (v := 1) (a := 1) (by decide)) (by decide) dX8_isInSet_17 (fun q11 => ?_) (fun q11 => ?_)
  ·
    have k12 := if_t k10 q11
    refine go_iconst (pc := 24) (v := 0) (by decide) dX8_isInSet_24 ?_
    exact gi_zret (pc := 25) (ti_c (v := 0) (a := 0) (by decide)) (by omega) (by omega) ⟨_, rfl, (by rw [show (0 : Int32).toInt = 0 from (ti_c (v := 0) (a := 0) (by decide))]; omega), (by rw [show (0 : Int32).toInt = 0 from (ti_c (v := 0) (a := 0) (by decide))]; omega), rfl, ⟨fun q => absurd q (by decide), fun _ q => absurd (show (v9 : Int32).toInt = 1 from by rw [v9x, v7x]; exact (ur_bit (by rw [(show (v5 : Int32).toInt = (a2.toInt % 32) from e6)]; omega) (by rw [(show (v5 : Int32).toInt = (a2.toInt % 32) from e6)]; omega)).mpr (by rw [(show (v5 : Int32).toInt = (a2.toInt % 32) from e6), v3w]; exact (sb_iff (by omega)).mp q)) (by omega)⟩, (by rw [show (0 : Int32).toInt = 0 from (ti_c (v := 0) (a := 0) (by decide))]; exact k12.symm.trans kf)⟩ hv dX8_isInSet_25
  ·
    have k13 := if_f k10 (fun z => z q11)
    refine go_iconst (pc := 20) (v := 1) (by decide) dX8_isInSet_20 ?_
    refine go_goto (pc := 21) (tgt := 25) (by decide) dX8_isInSet_21 ?_
    exact gi_zret (pc := 25) (ti_c (v := 1) (a := 1) (by decide)) (by omega) (by omega) ⟨_, rfl, (by rw [show (1 : Int32).toInt = 1 from (ti_c (v := 1) (a := 1) (by decide))]; omega), (by rw [show (1 : Int32).toInt = 1 from (ti_c (v := 1) (a := 1) (by decide))]; omega), rfl, ⟨fun _ => (sb_iff (by omega)).mpr (by rw [← v3w, ← (show (v5 : Int32).toInt = (a2.toInt % 32) from e6)]; exact (ur_bit (by rw [(show (v5 : Int32).toInt = (a2.toInt % 32) from e6)]; omega) (by rw [(show (v5 : Int32).toInt = (a2.toInt % 32) from e6)]; omega)).mp (by rw [← v7x, ← v9x]; omega)), fun q => absurd q (by decide)⟩, (by rw [show (1 : Int32).toInt = 1 from (ti_c (v := 1) (a := 1) (by decide))]; exact k13.symm.trans kf)⟩ hv dX8_isInSet_25
def f_X8_isInSet2 (s : ST) (a2 : Int) : Int :=
  bd (s.1 109 ((a2 / 32)).toNat) fun v3 => bd (o_iushr v3 ((a2 % 32))) fun v7 => bd (o_iand v7 1) fun v9 => if ¬ v9 = 1 then (0) else (1)
set_option maxHeartbeats 4000000 in
set_option maxRecDepth 100000 in
theorem s_X8_isInSet2_f (l : Launch) (d : Nat) {P : PP} {h : HP} (hv : Iv P h) (a2 : Int32) (a2l : 0 ≤ a2.toInt) (a2u : a2.toInt ≤ 584) : Mt l yX8_isInSet cX8_isInSet 2 (some .boolean) (d + 1) [.ref 70, .int a2] h 0 0 (fun r h' => ∃ v : Int32, r = some (.int v) ∧ 0 ≤ v.toInt ∧ v.toInt ≤ 1 ∧ h = h' ∧ (v.toInt = f_X8_isInSet2 (st h) a2.toInt)) := by
  refine Mt_iv hv (by decide) (Nat.le_of_ble_eq_true rfl) ?_
  show Go l RX8 cX8_isInSet 2 (g_rm (d + 1) 0 0) "isInSet" (some .boolean) 117 0 0 (fun _ _ => True) (fun r h' => ∃ v : Int32, r = some (.int v) ∧ 0 ≤ v.toInt ∧ v.toInt ≤ 1 ∧ h = h' ∧ (v.toInt = f_X8_isInSet2 (st h) a2.toInt)) 0 0 [(0, .ref 70), (1, .int a2)] [] h
  obtain ⟨fin, kf⟩ : ∃ z, z = f_X8_isInSet2 (st h) a2.toInt := ⟨_, _root_.rfl⟩
  have k0 := kf
  unfold f_X8_isInSet2 at k0
  refine go_aload_n (pc := 0) rfl dX8_isInSet_0 ?_
  refine gi_getF (pc := 1) (q := 109) hv fL_X8_127 rfl (Nat.le_of_ble_eq_true rfl) rfl (hv.rf (by decide)) dX8_isInSet_1 ?_
  refine go_iload_n (pc := 4) rfl dX8_isInSet_4 ?_
  refine go_bipush (pc := 5) (v := 32) (by decide) dX8_isInSet_5 ?_
  refine gf_idiv (pc := 7) (ti_rfl a2) (ti_c (v := 32) (a := 32) (by decide)) (by omega) (by omega) dX8_isInSet_7 (fun v1 e2 => ?_)
  refine gi_iald (pc := 8) (lo := -2147483648) (hi := 2147483647) (len := 19) hv e2 rfl (by omega) (by omega) (fun _ => rfl) dX8_isInSet_8 (fun v3 v3l v3u v3w => ?_)
  have k4 := bd_e k0 (congrArg Int32.toInt v3w.symm)
  refine go_iload_n (pc := 9) rfl dX8_isInSet_9 ?_
  refine go_bipush (pc := 10) (v := 32) (by decide) dX8_isInSet_10 ?_
  refine gf_irem (pc := 12) (ti_rfl a2) (ti_c (v := 32) (a := 32) (by decide)) (by omega) (by omega) dX8_isInSet_12 (fun v5 e6 => ?_)
  refine gx_iushr (pc := 13) dX8_isInSet_13 (fun v7 v7x => ?_)
  have k8 := bd_e k4 (so_iushr (ti_rfl v3) e6 v7x)
  refine go_iconst (pc := 14) (v := 1) (by decide) dX8_isInSet_14 ?_
  refine gx_iand (pc := 15) dX8_isInSet_15 (fun v9 v9x => ?_)
  have v9l : 0 ≤ v9.toInt := by rw [v9x]; exact (ti_mask (ti_c (v := 1) (a := 1) (by decide)) (by omega)).1
  have v9u : v9.toInt ≤ 1 := by rw [v9x]; exact (ti_mask (ti_c (v := 1) (a := 1) (by decide)) (by omega)).2
  have k10 := bd_e k8 (so_iand (ti_rfl v7) (ti_c (v := 1) (a := 1) (by decide)) v9x)
  refine go_iconst (pc := 16) (v := 1) (by decide) dX8_isInSet_16 ?_
  refine gf_icmp_ne (pc := 17) (tgt := 24) (ti_rfl v9) (ti_c (v := 1) (a := 1) (by decide)) (by decide) dX8_isInSet_17 (fun q11 => ?_) (fun q11 => ?_)
  ·
    have k12 := if_t k10 q11
    refine go_iconst (pc := 24) (v := 0) (by decide) dX8_isInSet_24 ?_
    exact gi_zret (pc := 25) (ti_c (v := 0) (a := 0) (by decide)) (by omega) (by omega) ⟨_, rfl, (by rw [show (0 : Int32).toInt = 0 from (ti_c (v := 0) (a := 0) (by decide))]; omega), (by rw [show (0 : Int32).toInt = 0 from (ti_c (v := 0) (a := 0) (by decide))]; omega), rfl, (by rw [show (0 : Int32).toInt = 0 from (ti_c (v := 0) (a := 0) (by decide))]; exact k12.symm.trans kf)⟩ hv dX8_isInSet_25
  ·
    have k13 := if_f k10 (fun z => z q11)
    refine go_iconst (pc := 20) (v := 1) (by decide) dX8_isInSet_20 ?_
    refine go_goto (pc := 21) (tgt := 25) (by decide) dX8_isInSet_21 ?_
    exact gi_zret (pc := 25) (ti_c (v := 1) (a := 1) (by decide)) (by omega) (by omega) ⟨_, rfl, (by rw [show (1 : Int32).toInt = 1 from (ti_c (v := 1) (a := 1) (by decide))]; omega), (by rw [show (1 : Int32).toInt = 1 from (ti_c (v := 1) (a := 1) (by decide))]; omega), rfl, (by rw [show (1 : Int32).toInt = 1 from (ti_c (v := 1) (a := 1) (by decide))]; exact k13.symm.trans kf)⟩ hv dX8_isInSet_25
def f_X8_reach2 (s : ST) (a2 : Int) : ST :=
  bd (s.1 70 47) fun u70_47 => bd (f_X8_isInSet_x2 s a2) fun v5 => if v5 = 0 then (bd (s.1 109 ((a2 / 32)).toNat) fun v11 => bd (o_ishl 1 ((a2 % 32))) fun v15 => bd (o_ior v11 v15) fun v17 => bd (sI s 109 ((a2 / 32)).toNat v17) fun s19 => bd (sI s19 110 (u70_47).toNat a2) fun s22 => bd (sI s22 70 47 ((u70_47 + 1))) fun s27 => s27) else (s)
set_option maxHeartbeats 4000000 in
set_option maxRecDepth 100000 in
theorem s_X8_reach2_f (l : Launch) (d : Nat) {P : PP} {h : HP} (hv : Iv P h) (a2 : Int32) (a2l : 0 ≤ a2.toInt) (a2u : a2.toInt ≤ 584) (hw : WT h.2.1 ≤ ct h.2.1 109) : Mt l yX8_reach cX8_reach 2 none (d + 2) [.ref 70, .int a2] h 0 0 (fun r h' => r = none ∧ Iv P h' ∧ (RC h.2.1 h'.2.1 a2.toInt) ∧ (st h' = f_X8_reach2 (st h) a2.toInt) ∧ (FX KAq h h')) := by
  refine Mt_iv hv (by decide) (Nat.le_of_ble_eq_true rfl) ?_
  show Go l RX8 cX8_reach 2 (g_rm (d + 2) 0 0) "reach" none 117 0 0 (fun _ _ => True) (fun r h' => r = none ∧ Iv P h' ∧ (RC h.2.1 h'.2.1 a2.toInt) ∧ (st h' = f_X8_reach2 (st h) a2.toInt) ∧ (FX KAq h h')) 0 0 [(0, .ref 70), (1, .int a2)] [] h
  have fx : FX KAq h h := FX.rfl
  obtain ⟨fin, kf⟩ : ∃ z, z = f_X8_reach2 (st h) a2.toInt := ⟨_, _root_.rfl⟩
  have k0 := kf
  unfold f_X8_reach2 at k0
  obtain ⟨u70_47, u70_47w⟩ : ∃ v : Int32, v = h.2.1 70 47 := ⟨_, rfl⟩
  have u70_47e : (h.2.1 70 47).toInt = u70_47.toInt := by rw [u70_47w]
  have u70_47l : 0 ≤ u70_47.toInt := by rw [u70_47w]; exact (hv.2.1 70 47).1
  have u70_47u : u70_47.toInt ≤ 585 := by rw [u70_47w]; exact (hv.2.1 70 47).2
  have k1 := bd_e k0 (congrArg Int32.toInt u70_47w.symm)
  have hw2 : (h.2.1 70 47).toInt ≤ ct h.2.1 109 := hw
  refine go_aload_n (pc := 0) rfl dX8_reach_0 ?_
  refine go_iload_n (pc := 1) rfl dX8_reach_1 ?_
  refine go_invV (pc := 2) (sl := 0) (s_X8_isInSet_x2_f l (d + 0) hv a2 (by rw [show (a2 : Int32).toInt = a2.toInt from (ti_rfl a2)]; omega) (by rw [show (a2 : Int32).toInt = a2.toInt from (ti_rfl a2)]; omega)) mL_X8_341 iM_X8_isInSet sM_X8_isInSet (hv.sh rfl) rfl rfl rfl (Nat.le_of_ble_eq_true rfl) (show d + 0 + 1 + 1 ≤ d + 2 by omega) (show 8 + (2 + 11) + 40 * (d + 0 + 1) ≤ 40 * (d + 2) by omega) (g_c0 hv.ln) (Nat.le_of_ble_eq_true rfl) dX8_reach_2 ?_
  intro r h2 hq _
  obtain ⟨v5, rfl, v5l, v5u, rfl, f3, f4⟩ := hq
  replace f4 : PE _ _ := f4
  have k6 := bd_e k1 f4.symm
  refine gf_if_eq (pc := 5) (tgt := 9) (ti_rfl v5) (by decide) dX8_reach_5 (fun q7 => ?_) (fun q7 => ?_)
  ·
    have k8 := if_t k6 q7
    refine go_aload_n (pc := 9) rfl dX8_reach_9 ?_
    refine gi_getF (pc := 10) (q := 109) hv fL_X8_127 rfl (Nat.le_of_ble_eq_true rfl) rfl (hv.rf (by decide)) dX8_reach_10 ?_
    refine go_iload_n (pc := 13) rfl dX8_reach_13 ?_
    refine go_bipush (pc := 14) (v := 32) (by decide) dX8_reach_14 ?_
    refine gf_idiv (pc := 16) (ti_rfl a2) (ti_c (v := 32) (a := 32) (by decide)) (by omega) (by omega) dX8_reach_16 (fun v9 e10 => ?_)
    refine go_dup2 (pc := 17) rfl rfl dX8_reach_17 ?_
    refine gi_iald (pc := 18) (lo := -2147483648) (hi := 2147483647) (len := 19) hv e10 rfl (by omega) (by omega) (fun _ => rfl) dX8_reach_18 (fun v11 v11l v11u v11w => ?_)
    have k12 := bd_e k8 (congrArg Int32.toInt v11w.symm)
    refine go_iconst (pc := 19) (v := 1) (by decide) dX8_reach_19 ?_
    refine go_iload_n (pc := 20) rfl dX8_reach_20 ?_
    refine go_bipush (pc := 21) (v := 32) (by decide) dX8_reach_21 ?_
    refine gf_irem (pc := 23) (ti_rfl a2) (ti_c (v := 32) (a := 32) (by decide)) (by omega) (by omega) dX8_reach_23 (fun v13 e14 => ?_)
    refine gx_ishl (pc := 24) dX8_reach_24 (fun v15 v15x => ?_)
    have k16 := bd_e k12 (so_ishl (ti_c (v := 1) (a := 1) (by decide)) e14 v15x)
    refine gx_ior (pc := 25) dX8_reach_25 (fun v17 v17x => ?_)
    have k18 := bd_e k16 (so_ior (ti_rfl v11) (ti_rfl v15) v17x)
    refine gi_iast (pc := 26) (lo := -2147483648) (hi := 2147483647) (len := 19) hv e10 (ti_rfl v17) rfl (by omega) (by omega) (fun _ => rfl) (ti_ge (ti_rfl v17)) (ti_le2 (ti_rfl v17)) (by decide) dX8_reach_26 (fun h19 hv19 hv19e => ?_)
    have fx19 : FX KAq h h19 := FX.pI fx hv19e (by unfold KAq; omega)
    have k20 := bd_e k18 (st_I hv19e (ti_rfl v17))
    refine go_aload_n (pc := 27) rfl dX8_reach_27 ?_
    refine gi_getF (pc := 28) (q := 110) hv19 fL_X8_130 rfl (Nat.le_of_ble_eq_true rfl) rfl (hv19.rf (by decide)) dX8_reach_28 ?_
    refine go_aload_n (pc := 31) rfl dX8_reach_31 ?_
    refine gi_get (pc := 32) (lo := 0) (hi := 585) hv19 fL_X8_344 rfl (Nat.le_of_ble_eq_true rfl) rfl rfl dX8_reach_32 (fun v21 v21l v21u v21w => ?_)
    have v21r : u70_47 = h19.2.1 70 47 := (show u70_47 = h19.2.1 70 47 from by rw [hv19e]; exact (g_iI rfl u70_47w.symm).symm)
    have v21q : TI v21 u70_47.toInt := by rw [v21w.trans v21r.symm]; exact (ti_rfl u70_47)
    refine go_iload_n (pc := 35) rfl dX8_reach_35 ?_
    have kk : u70_47.toInt ≤ 584 := by have q := ct_miss (F := h.2.1) (c := 109) (x := a2.toInt) (by omega) (by omega) (f3.2 (by omega)); omega
    refine gi_iast (pc := 36) (lo := 0) (hi := 584) (len := 585) hv19 v21q (ti_rfl a2) rfl (by omega) (by omega) (fun _ => rfl) (by omega) (by omega) (by decide) dX8_reach_36 (fun h22 hv22 hv22e => ?_)
    have fx22 : FX KAq h h22 := FX.pI fx19 hv22e (by unfold KAq; omega)
    have k23 := bd_e k20 (st_I hv22e (ti_rfl a2))
    refine go_aload_n (pc := 37) rfl dX8_reach_37 ?_
    refine go_dup (pc := 38) rfl dX8_reach_38 ?_
    refine gi_get (pc := 39) (lo := 0) (hi := 585) hv22 fL_X8_344 rfl (Nat.le_of_ble_eq_true rfl) rfl rfl dX8_reach_39 (fun v24 v24l v24u v24w => ?_)
    have v24r : u70_47 = h22.2.1 70 47 := (show u70_47 = h22.2.1 70 47 from by rw [hv22e]; exact (g_iI rfl (show u70_47 = h19.2.1 70 47 from by rw [hv19e]; exact (g_iI rfl u70_47w.symm).symm).symm).symm)
    have v24q : TI v24 u70_47.toInt := by rw [v24w.trans v24r.symm]; exact (ti_rfl u70_47)
    refine go_iconst (pc := 42) (v := 1) (by decide) dX8_reach_42 ?_
    refine gf_iadd (pc := 43) v24q (ti_c (v := 1) (a := 1) (by decide)) (by omega) (by omega) dX8_reach_43 (fun v25 e26 => ?_)
    refine gi_put (pc := 44) (lo := 0) (hi := 585) hv22 e26 (fP_X8_344 _) rfl (Nat.le_of_ble_eq_true rfl) rfl rfl (by omega) (by omega) rfl rfl (by decide) (by decide) (by decide) (by decide) dX8_reach_44 (fun h27 hv27 hv27e => ?_)
    have fx27 : FX KAq h h27 := FX.pI fx22 hv27e (by unfold KAq; omega)
    have k28 := bd_e k23 (st_I hv27e e26)
    have eR : h27.2.1 = (fun p q => if p = 70 ∧ q = 47 then v25 else if p = 110 ∧ q = (WT h.2.1).toNat then a2 else if p = 109 ∧ q = (a2.toInt / 32).toNat then v17 else h.2.1 p q) := by (rw [hv27e, hv22e, hv19e, show (WT h.2.1).toNat = (u70_47.toInt).toNat from by rw [← u70_47e]; rfl]; rfl)
    exact gi_vret (pc := 47) ⟨rfl, hv27, (by rw [eR]; exact RC.new (by omega) (by omega) e14 (by rw [v17x, v15x, v11w]) rfl (by rw [show (v25 : Int32).toInt = (u70_47.toInt + 1) from e26]; show _ = (h.2.1 70 47).toInt + 1; omega) (by show 0 ≤ (h.2.1 70 47).toInt; omega) (f3.2 (by omega))), (k28.symm.trans kf), fx27⟩ hv27 dX8_reach_47
  ·
    have k29 := if_f k6 q7
    exact gi_vret (pc := 8) ⟨rfl, hv, (RC.old (f3.1 (by omega))), (k29.symm.trans kf), fx⟩ hv dX8_reach_8
def f_X8_isCall_x2 (s : ST) (a2 : Int) : Int :=
  if 520 ≤ a2 then (0) else (bd (s.1 70 6) fun v6 => bd (s.1 75 (v6).toNat) fun v8 => if v8 ≤ (a2 / 13) then (0) else (bd (f_X8_kindAt2 s ((a2 / 13))) fun v18 => if ¬ v18 = 1 then (0) else (1)))
set_option maxHeartbeats 4000000 in
set_option maxRecDepth 100000 in
theorem s_X8_isCall_x2_f (l : Launch) (d : Nat) {P : PP} {h : HP} (hv : Iv P h) (a2 : Int32) (a2l : 0 ≤ a2.toInt) (a2u : a2.toInt ≤ 584) : Mt l yX8_isCall cX8_isCall 2 (some .boolean) (d + 3) [.ref 70, .int a2] h 0 0 (fun r h' => ∃ v : Int32, r = some (.int v) ∧ 0 ≤ v.toInt ∧ v.toInt ≤ 1 ∧ h = h' ∧ ((v.toInt = 1 → a2.toInt < 520 ∧ a2.toInt / 13 < V h.2.1 75 (h.2.1 70 6).toInt ∧ V h.2.1 77 (V h.2.1 93 (40 * (h.2.1 70 6).toInt + a2.toInt / 13)) = 1) ∧ (v.toInt = 0 → ¬ (a2.toInt < 520 ∧ a2.toInt / 13 < V h.2.1 75 (h.2.1 70 6).toInt ∧ V h.2.1 77 (V h.2.1 93 (40 * (h.2.1 70 6).toInt + a2.toInt / 13)) = 1))) ∧ (v.toInt = f_X8_isCall_x2 (st h) a2.toInt)) := by
  refine Mt_iv hv (by decide) (Nat.le_of_ble_eq_true rfl) ?_
  show Go l RX8 cX8_isCall 2 (g_rm (d + 3) 0 0) "isCall" (some .boolean) 117 0 0 (fun _ _ => True) (fun r h' => ∃ v : Int32, r = some (.int v) ∧ 0 ≤ v.toInt ∧ v.toInt ≤ 1 ∧ h = h' ∧ ((v.toInt = 1 → a2.toInt < 520 ∧ a2.toInt / 13 < V h.2.1 75 (h.2.1 70 6).toInt ∧ V h.2.1 77 (V h.2.1 93 (40 * (h.2.1 70 6).toInt + a2.toInt / 13)) = 1) ∧ (v.toInt = 0 → ¬ (a2.toInt < 520 ∧ a2.toInt / 13 < V h.2.1 75 (h.2.1 70 6).toInt ∧ V h.2.1 77 (V h.2.1 93 (40 * (h.2.1 70 6).toInt + a2.toInt / 13)) = 1))) ∧ (v.toInt = f_X8_isCall_x2 (st h) a2.toInt)) 0 0 [(0, .ref 70), (1, .int a2)] [] h
  obtain ⟨S, hS⟩ : ∃ S : Int, S = (h.2.1 70 6).toInt := ⟨_, rfl⟩
  have S0 : 0 ≤ S := by rw [hS]; exact (hv.2.1 70 6).1
  have S1 : S ≤ 1 := by rw [hS]; exact (hv.2.1 70 6).2
  obtain ⟨fin, kf⟩ : ∃ z, z = f_X8_isCall_x2 (st h) a2.toInt := ⟨_, _root_.rfl⟩
  have k0 := kf
  unfold f_X8_isCall_x2 at k0
  refine go_iload_n (pc := 0) rfl dX8_isCall_0 ?_
  refine go_sipush (pc := 1) (v := 520) (by decide) dX8_isCall_1 ?_
  refine gf_icmp_ge (pc := 4) (tgt := 39) (ti_rfl a2) (ti_c (v := 520) (a := 520) (by decide)) (by decide) dX8_isCall_4 (fun q1 => ?_) (fun q1 => ?_)
  ·
    have k2 := if_t k0 q1
    refine go_iconst (pc := 39) (v := 0) (by decide) dX8_isCall_39 ?_
    exact gi_zret (pc := 40) (ti_c (v := 0) (a := 0) (by decide)) (by omega) (by omega) ⟨_, rfl, (by rw [show (0 : Int32).toInt = 0 from (ti_c (v := 0) (a := 0) (by decide))]; omega), (by rw [show (0 : Int32).toInt = 0 from (ti_c (v := 0) (a := 0) (by decide))]; omega), rfl, (by rw [← hS]; exact ⟨fun q => absurd q (by decide), fun _ q => by omega⟩), (by rw [show (0 : Int32).toInt = 0 from (ti_c (v := 0) (a := 0) (by decide))]; exact k2.symm.trans kf)⟩ hv dX8_isCall_40
  ·
    have k3 := if_f k0 (Int.not_le.mpr q1)
    refine go_iload_n (pc := 7) rfl dX8_isCall_7 ?_
    refine go_bipush (pc := 8) (v := 13) (by decide) dX8_isCall_8 ?_
    refine gf_idiv (pc := 10) (ti_rfl a2) (ti_c (v := 13) (a := 13) (by decide)) (by omega) (by omega) dX8_isCall_10 (fun v4 e5 => ?_)
    refine go_aload_n (pc := 11) rfl dX8_isCall_11 ?_
    refine gi_getF (pc := 12) (q := 75) hv fL_X8_23 rfl (Nat.le_of_ble_eq_true rfl) rfl (hv.rf (by decide)) dX8_isCall_12 ?_
    refine go_aload_n (pc := 15) rfl dX8_isCall_15 ?_
    refine gi_get (pc := 16) (lo := 0) (hi := 1) hv fL_X8_187 rfl (Nat.le_of_ble_eq_true rfl) rfl rfl dX8_isCall_16 (fun v6 v6l v6u v6w => ?_)
    have k7 := bd_e k3 (congrArg Int32.toInt v6w.symm)
    have v6S : v6.toInt = S := by rw [v6w, hv.fy (j := 6) (by omega), ← hv.fy (j := 6) (by omega)]; exact hS.symm
    refine gi_iald (pc := 19) (lo := 0) (hi := 40) (len := 2) hv (ti_rfl v6) rfl (by omega) (by omega) (fun _ => rfl) dX8_isCall_19 (fun v8 v8l v8u v8w => ?_)
    have k9 := bd_e k7 (congrArg Int32.toInt v8w.symm)
    have v8V : v8.toInt = V h.2.1 75 S := by rw [v8w, v6S]; rfl
    refine gf_icmp_ge (pc := 20) (tgt := 39) e5 (ti_rfl v8) (by decide) dX8_isCall_20 (fun q10 => ?_) (fun q10 => ?_)
    ·
      have k11 := if_t k9 q10
      refine go_iconst (pc := 39) (v := 0) (by decide) dX8_isCall_39 ?_
      exact gi_zret (pc := 40) (ti_c (v := 0) (a := 0) (by decide)) (by omega) (by omega) ⟨_, rfl, (by rw [show (0 : Int32).toInt = 0 from (ti_c (v := 0) (a := 0) (by decide))]; omega), (by rw [show (0 : Int32).toInt = 0 from (ti_c (v := 0) (a := 0) (by decide))]; omega), rfl, (by rw [← hS]; exact ⟨fun q => absurd q (by decide), fun _ q => by omega⟩), (by rw [show (0 : Int32).toInt = 0 from (ti_c (v := 0) (a := 0) (by decide))]; exact k11.symm.trans kf)⟩ hv dX8_isCall_40
    ·
      have k12 := if_f k9 (Int.not_le.mpr q10)
      refine go_aload_n (pc := 23) rfl dX8_isCall_23 ?_
      refine go_iload_n (pc := 24) rfl dX8_isCall_24 ?_
      refine go_bipush (pc := 25) (v := 13) (by decide) dX8_isCall_25 ?_
      refine gf_idiv (pc := 27) (ti_rfl a2) (ti_c (v := 13) (a := 13) (by decide)) (by omega) (by omega) dX8_isCall_27 (fun v13 e14 => ?_)
      refine go_invV (pc := 28) (sl := 0) (s_X8_kindAt2_f l (d + 0) hv v13 (by rw [show (v13 : Int32).toInt = (a2.toInt / 13) from e14]; omega) (by rw [show (v13 : Int32).toInt = (a2.toInt / 13) from e14]; omega)) mL_X8_271 iM_X8_kindAt sM_X8_kindAt (hv.sh rfl) rfl rfl rfl (Nat.le_of_ble_eq_true rfl) (show d + 0 + 2 + 1 ≤ d + 3 by omega) (show 8 + (2 + 11) + 40 * (d + 0 + 2) ≤ 40 * (d + 3) by omega) (g_c0 hv.ln) (Nat.le_of_ble_eq_true rfl) dX8_isCall_28 ?_
      intro r h15 hq _
      obtain ⟨v18, rfl, v18l, v18u, rfl, f16, f17⟩ := hq
      have v18K : v18.toInt = V h.2.1 77 (V h.2.1 93 (40 * S + (a2.toInt / 13))) := by rw [f16]; unfold g_kd g_it; rw [show (v13 : Int32).toInt = (a2.toInt / 13) from e14, ← hS]; rfl
      try rw [show (v13 : Int32).toInt = (a2.toInt / 13) from e14] at f16
      try rw [show (v13 : Int32).toInt = (a2.toInt / 13) from e14] at f17
      replace f17 : PE _ _ := f17
      have k19 := bd_e k12 f17.symm
      refine go_iconst (pc := 31) (v := 1) (by decide) dX8_isCall_31 ?_
      refine gf_icmp_ne (pc := 32) (tgt := 39) (ti_rfl v18) (ti_c (v := 1) (a := 1) (by decide)) (by decide) dX8_isCall_32 (fun q20 => ?_) (fun q20 => ?_)
      ·
        have k21 := if_t k19 q20
        refine go_iconst (pc := 39) (v := 0) (by decide) dX8_isCall_39 ?_
        exact gi_zret (pc := 40) (ti_c (v := 0) (a := 0) (by decide)) (by omega) (by omega) ⟨_, rfl, (by rw [show (0 : Int32).toInt = 0 from (ti_c (v := 0) (a := 0) (by decide))]; omega), (by rw [show (0 : Int32).toInt = 0 from (ti_c (v := 0) (a := 0) (by decide))]; omega), rfl, (by rw [← hS]; exact ⟨fun q => absurd q (by decide), fun _ q => by omega⟩), (by rw [show (0 : Int32).toInt = 0 from (ti_c (v := 0) (a := 0) (by decide))]; exact k21.symm.trans kf)⟩ hv dX8_isCall_40
      ·
        have k22 := if_f k19 (fun z => z q20)
        refine go_iconst (pc := 35) (v := 1) (by decide) dX8_isCall_35 ?_
        refine go_goto (pc := 36) (tgt := 40) (by decide) dX8_isCall_36 ?_
        exact gi_zret (pc := 40) (ti_c (v := 1) (a := 1) (by decide)) (by omega) (by omega) ⟨_, rfl, (by rw [show (1 : Int32).toInt = 1 from (ti_c (v := 1) (a := 1) (by decide))]; omega), (by rw [show (1 : Int32).toInt = 1 from (ti_c (v := 1) (a := 1) (by decide))]; omega), rfl, (by rw [← hS]; exact ⟨fun _ => ⟨by omega, by omega, by omega⟩, fun q => absurd q (by decide)⟩), (by rw [show (1 : Int32).toInt = 1 from (ti_c (v := 1) (a := 1) (by decide))]; exact k22.symm.trans kf)⟩ hv dX8_isCall_40
def f_X8_goesUp2_ : Nat → Nat → Int → Int → Int → ST → ST
  | 0, _, _, _, _, sx => sx
  | n + 1, _, l1, l2, l3, sx => bd (sx.1 70 6) fun v1 => bd (sx.1 75 (v1).toNat) fun v3 => if v3 ≤ l3 then (sx) else (bd (f_X8_kindAt2 sx l3) fun v11 => if ¬ v11 = 1 then (f_X8_goesUp2_ n 2 l1 l2 ((l3 + 1)) sx) else (bd (f_X8_item2 sx l3) fun v22 => bd (sx.1 84 (v22).toNat) fun v24 => if ¬ v24 = l1 then (f_X8_goesUp2_ n 2 l1 l2 ((l3 + 1)) sx) else (bd (f_X8_statementPlace2 sx l3 l2) fun v34 => bd (f_X8_reach2 sx v34) fun s36 => f_X8_goesUp2_ n 2 l1 l2 ((l3 + 1)) s36)))
def f_X8_goesUp2 (s : ST) (a2 : Int) (a3 : Int) : ST :=
  f_X8_goesUp2_ 139 2 a2 a3 0 s
set_option maxHeartbeats 4000000 in
set_option maxRecDepth 100000 in
theorem s_X8_goesUp2_f (l : Launch) (d : Nat) {P : PP} {h : HP} (hv : Iv P h) (a2 : Int32) (a2l : 0 ≤ a2.toInt) (a2u : a2.toInt ≤ 4) (a3 : Int32) (a3l : 0 ≤ a3.toInt) (a3u : a3.toInt ≤ 6) (hw : WT h.2.1 ≤ ct h.2.1 109) : Mt l yX8_goesUp cX8_goesUp 4 none (d + 3) [.ref 70, .int a2, .int a3] h 0 0 (fun r h' => r = none ∧ Iv P h' ∧ (PH h.2.1 h'.2.1) ∧ (st h' = f_X8_goesUp2 (st h) a2.toInt a3.toInt) ∧ (FX KAq h h')) := by
  refine Mt_iv hv (by decide) (Nat.le_of_ble_eq_true rfl) ?_
  show Go l RX8 cX8_goesUp 4 (g_rm (d + 3) 0 0) "goesUp" none 117 0 0 (fun _ _ => True) (fun r h' => r = none ∧ Iv P h' ∧ (PH h.2.1 h'.2.1) ∧ (st h' = f_X8_goesUp2 (st h) a2.toInt a3.toInt) ∧ (FX KAq h h')) 0 0 [(0, .ref 70), (1, .int a2), (2, .int a3)] [] h
  obtain ⟨S, hS⟩ : ∃ S : Int, S = (h.2.1 70 6).toInt := ⟨_, rfl⟩
  have S0 : 0 ≤ S := by rw [hS]; exact (hv.2.1 70 6).1
  have S1 : S ≤ 1 := by rw [hS]; exact (hv.2.1 70 6).2
  have fx : FX KAq h h := FX.rfl
  obtain ⟨fin, kf⟩ : ∃ z, z = f_X8_goesUp2 (st h) a2.toInt a3.toInt := ⟨_, _root_.rfl⟩
  have k0 := kf
  unfold f_X8_goesUp2 at k0
  have key : ∀ n : Nat, (∀ (l1 : Int32) (l2 : Int32) (l3 : Int32) (hx : HP), Iv P hx → 0 ≤ l1.toInt → l1.toInt ≤ 4 → 0 ≤ l2.toInt → l2.toInt ≤ 6 → 0 ≤ l3.toInt → l3.toInt ≤ 40 → (PH h.2.1 hx.2.1) → FX KAq h hx → fin = f_X8_goesUp2_ n 2 l1.toInt l2.toInt l3.toInt (st hx) → (3 * (40 - l3.toInt) + 2 : Int) < n → Go l RX8 cX8_goesUp 4 (g_rm (d + 3) 0 0) "goesUp" none 117 0 0 (fun _ _ => True) (fun r h' => r = none ∧ Iv P h' ∧ (PH h.2.1 h'.2.1) ∧ (st h' = f_X8_goesUp2 (st h) a2.toInt a3.toInt) ∧ (FX KAq h h')) 0 2 [(0, .ref 70), (1, .int l1), (2, .int l2), (3, .int l3)] [] hx) := by
    intro n
    induction n with
    | zero => exact (by intros; omega)
    | succ n ih =>
      refine ?_
      ·
        intro l1 l2 l3 hx hvx l1l l1u l2l l2u l3l l3u x0 fxx kL hm
        rw [f_X8_goesUp2_] at kL
        refine go_iload_n (pc := 2) rfl dX8_goesUp_2 ?_
        refine go_aload_n (pc := 3) rfl dX8_goesUp_3 ?_
        refine gi_getF (pc := 4) (q := 75) hvx fL_X8_23 rfl (Nat.le_of_ble_eq_true rfl) rfl (hvx.rf (by decide)) dX8_goesUp_4 ?_
        refine go_aload_n (pc := 7) rfl dX8_goesUp_7 ?_
        refine gi_get (pc := 8) (lo := 0) (hi := 1) hvx fL_X8_187 rfl (Nat.le_of_ble_eq_true rfl) rfl rfl dX8_goesUp_8 (fun v1 v1l v1u v1w => ?_)
        have k2 := bd_e kL (congrArg Int32.toInt v1w.symm)
        have v1S : v1.toInt = S := by rw [v1w, hvx.fy (j := 6) (by omega), ← hv.fy (j := 6) (by omega)]; exact hS.symm
        refine gi_iald (pc := 11) (lo := 0) (hi := 40) (len := 2) hvx (ti_rfl v1) rfl (by omega) (by omega) (fun _ => rfl) dX8_goesUp_11 (fun v3 v3l v3u v3w => ?_)
        have k4 := bd_e k2 (congrArg Int32.toInt v3w.symm)
        have v3V : v3.toInt = V h.2.1 75 S := by rw [v3w, v1S, hvx.fz (c := 75) (by omega) (by omega), ← hv.fz (c := 75) (by omega) (by omega)]; rfl
        refine gf_icmp_ge (pc := 12) (tgt := 53) (ti_rfl l3) (ti_rfl v3) (by decide) dX8_goesUp_12 (fun q5 => ?_) (fun q5 => ?_)
        ·
          have k6 := if_t k4 q5
          exact gi_vret (pc := 53) ⟨rfl, hvx, x0, (k6.symm.trans kf), fxx⟩ hvx dX8_goesUp_53
        ·
          have k7 := if_f k4 (Int.not_le.mpr q5)
          refine go_aload_n (pc := 15) rfl dX8_goesUp_15 ?_
          refine go_iload_n (pc := 16) rfl dX8_goesUp_16 ?_
          refine go_invV (pc := 17) (sl := 0) (s_X8_kindAt2_f l (d + 0) hvx l3 (by rw [show (l3 : Int32).toInt = l3.toInt from (ti_rfl l3)]; omega) (by rw [show (l3 : Int32).toInt = l3.toInt from (ti_rfl l3)]; omega)) mL_X8_271 iM_X8_kindAt sM_X8_kindAt (hvx.sh rfl) rfl rfl rfl (Nat.le_of_ble_eq_true rfl) (show d + 0 + 2 + 1 ≤ d + 3 by omega) (show 8 + (2 + 11) + 40 * (d + 0 + 2) ≤ 40 * (d + 3) by omega) (g_c0 hvx.ln) (Nat.le_of_ble_eq_true rfl) dX8_goesUp_17 ?_
          intro r h8 hq _
          obtain ⟨v11, rfl, v11l, v11u, rfl, f9, f10⟩ := hq
          have v11K : v11.toInt = V h.2.1 77 (V h.2.1 93 (40 * S + l3.toInt)) := by rw [f9]; unfold g_kd g_it; rw [hvx.fy (j := 6) (by omega), ← hv.fy (j := 6) (by omega), ← hS, hvx.fz (c := 93) (by omega) (by omega), ← hv.fz (c := 93) (by omega) (by omega), hvx.fz (c := 77) (by omega) (by omega), ← hv.fz (c := 77) (by omega) (by omega)]; rfl
          replace f10 : PE _ _ := f10
          have k12 := bd_e k7 f10.symm
          refine go_iconst (pc := 20) (v := 1) (by decide) dX8_goesUp_20 ?_
          refine gf_icmp_ne (pc := 21) (tgt := 47) (ti_rfl v11) (ti_c (v := 1) (a := 1) (by decide)) (by decide) dX8_goesUp_21 (fun q13 => ?_) (fun q13 => ?_)
          ·
            have k14 := if_t k12 q13
            refine gf_iinc (pc := 47) (Nat.le_of_ble_eq_true rfl) rfl (ti_rfl l3) (ti_c (by decide)) (by omega) (by omega) dX8_goesUp_47 (fun v15 e16 => ?_)
            refine go_lv (lv2 := [(0, .ref 70), (1, .int l1), (2, .int l2), (3, .int v15)]) rfl ?_
            refine go_goto (pc := 50) (tgt := 2) (by decide) dX8_goesUp_50 ?_
            have z17 : (v15 : Int32).toInt = (l3.toInt + 1) := e16
            exact go_lv rfl (ih l1 l2 v15 hx hvx (by omega) (by omega) (by omega) (by omega) (by omega) (by omega) x0 fxx (by rw [show (v15 : Int32).toInt = (l3.toInt + 1) from e16]; exact k14) (by omega))
          ·
            have k18 := if_f k12 (fun z => z q13)
            refine go_aload_n (pc := 24) rfl dX8_goesUp_24 ?_
            refine gi_getF (pc := 25) (q := 84) hvx fL_X8_50 rfl (Nat.le_of_ble_eq_true rfl) rfl (hvx.rf (by decide)) dX8_goesUp_25 ?_
            refine go_aload_n (pc := 28) rfl dX8_goesUp_28 ?_
            refine go_iload_n (pc := 29) rfl dX8_goesUp_29 ?_
            refine go_invV (pc := 30) (sl := 0) (s_X8_item2_f l (d + 1) hvx l3 (by rw [show (l3 : Int32).toInt = l3.toInt from (ti_rfl l3)]; omega) (by rw [show (l3 : Int32).toInt = l3.toInt from (ti_rfl l3)]; omega)) mL_X8_268 iM_X8_item sM_X8_item (hvx.sh rfl) rfl rfl rfl (Nat.le_of_ble_eq_true rfl) (show d + 1 + 1 + 1 ≤ d + 3 by omega) (show 8 + (2 + 11) + 40 * (d + 1 + 1) ≤ 40 * (d + 3) by omega) (g_c0 hvx.ln) (Nat.le_of_ble_eq_true rfl) dX8_goesUp_30 ?_
            intro r h19 hq _
            obtain ⟨v22, rfl, v22l, v22u, rfl, f20, f21⟩ := hq
            have v22K : v22.toInt = V h.2.1 93 (40 * S + l3.toInt) := by rw [f20]; unfold g_it; rw [hvx.fy (j := 6) (by omega), ← hv.fy (j := 6) (by omega), ← hS, hvx.fz (c := 93) (by omega) (by omega), ← hv.fz (c := 93) (by omega) (by omega)]; rfl
            replace f21 : PE _ _ := f21
            have k23 := bd_e k18 f21.symm
            refine gi_iald (pc := 33) (lo := -2) (hi := 4) (len := 260) hvx (ti_rfl v22) rfl (by omega) (by omega) (fun _ => rfl) dX8_goesUp_33 (fun v24 v24l v24u v24w => ?_)
            have k25 := bd_e k23 (congrArg Int32.toInt v24w.symm)
            have v24V : v24.toInt = V h.2.1 84 v22.toInt := by rw [v24w, hvx.fz (c := 84) (by omega) (by omega), ← hv.fz (c := 84) (by omega) (by omega)]; rfl
            refine go_iload_n (pc := 34) rfl dX8_goesUp_34 ?_
            refine gf_icmp_ne (pc := 35) (tgt := 47) (ti_rfl v24) (ti_rfl l1) (by decide) dX8_goesUp_35 (fun q26 => ?_) (fun q26 => ?_)
            ·
              have k27 := if_t k25 q26
              refine gf_iinc (pc := 47) (Nat.le_of_ble_eq_true rfl) rfl (ti_rfl l3) (ti_c (by decide)) (by omega) (by omega) dX8_goesUp_47 (fun v28 e29 => ?_)
              refine go_lv (lv2 := [(0, .ref 70), (1, .int l1), (2, .int l2), (3, .int v28)]) rfl ?_
              refine go_goto (pc := 50) (tgt := 2) (by decide) dX8_goesUp_50 ?_
              have z30 : (v28 : Int32).toInt = (l3.toInt + 1) := e29
              exact go_lv rfl (ih l1 l2 v28 hx hvx (by omega) (by omega) (by omega) (by omega) (by omega) (by omega) x0 fxx (by rw [show (v28 : Int32).toInt = (l3.toInt + 1) from e29]; exact k27) (by omega))
            ·
              have k31 := if_f k25 (fun z => z q26)
              refine go_aload_n (pc := 38) rfl dX8_goesUp_38 ?_
              refine go_iload_n (pc := 39) rfl dX8_goesUp_39 ?_
              refine go_iload_n (pc := 40) rfl dX8_goesUp_40 ?_
              refine go_invS (pc := 41) (sl := 0) (s_X8_statementPlace2_f l (d + 1) hvx l3 (by rw [show (l3 : Int32).toInt = l3.toInt from (ti_rfl l3)]; omega) (by rw [show (l3 : Int32).toInt = l3.toInt from (ti_rfl l3)]; omega) l2 (by rw [show (l2 : Int32).toInt = l2.toInt from (ti_rfl l2)]; omega) (by rw [show (l2 : Int32).toInt = l2.toInt from (ti_rfl l2)]; omega)) mL_X8_291 iM_X8_statementPlace rfl rfl (Nat.le_of_ble_eq_true rfl) (show d + 1 + 1 + 1 ≤ d + 3 by omega) (show 8 + (2 + 11) + 40 * (d + 1 + 1) ≤ 40 * (d + 3) by omega) (g_c0 hvx.ln) (Nat.le_of_ble_eq_true rfl) dX8_goesUp_41 ?_
              intro r h32 hq _
              obtain ⟨v34, rfl, v34l, v34u, rfl, f33⟩ := hq
              replace f33 : PE _ _ := f33
              have k35 := bd_e k31 f33.symm
              refine go_invV (pc := 44) (sl := 0) (s_X8_reach2_f l (d + 0) hvx v34 (by rw [show (v34 : Int32).toInt = v34.toInt from (ti_rfl v34)]; omega) (by rw [show (v34 : Int32).toInt = v34.toInt from (ti_rfl v34)]; omega) x0.1) mL_X8_347 iM_X8_reach sM_X8_reach (hvx.sh rfl) rfl rfl rfl (Nat.le_of_ble_eq_true rfl) (show d + 0 + 2 + 1 ≤ d + 3 by omega) (show 8 + (2 + 11) + 40 * (d + 0 + 2) ≤ 40 * (d + 3) by omega) (g_c0 hvx.ln) (Nat.le_of_ble_eq_true rfl) dX8_goesUp_44 ?_
              intro r h36 hq _
              obtain ⟨rfl, hv36, f37, f38, f39⟩ := hq
              have fx36 : FX KAq h h36 := FX.tr fxx f39
              have k40 := bd_e k35 f38.symm
              have ph41s := (RC.ph f37 (by omega) (by omega) x0.1)
              have ph41c := ph41s.2.1
              have ph41 : PH h.2.1 h36.2.1 := x0.trans ph41s
              have ph41a := ph41.1
              have ph41b := ph41.2.1
              refine gf_iinc (pc := 47) (Nat.le_of_ble_eq_true rfl) rfl (ti_rfl l3) (ti_c (by decide)) (by omega) (by omega) dX8_goesUp_47 (fun v42 e43 => ?_)
              refine go_lv (lv2 := [(0, .ref 70), (1, .int l1), (2, .int l2), (3, .int v42)]) rfl ?_
              refine go_goto (pc := 50) (tgt := 2) (by decide) dX8_goesUp_50 ?_
              have z44 : (v42 : Int32).toInt = (l3.toInt + 1) := e43
              exact go_lv rfl (ih l1 l2 v42 h36 hv36 (by omega) (by omega) (by omega) (by omega) (by omega) (by omega) ph41 fx36 (by rw [show (v42 : Int32).toInt = (l3.toInt + 1) from e43]; exact k40) (by omega))
  have ph0 : PH h.2.1 h.2.1 := PH.rfl hw
  refine go_iconst (pc := 0) (v := 0) (by decide) dX8_goesUp_0 ?_
  refine go_istore_n (pc := 1) (Nat.le_of_ble_eq_true rfl) dX8_goesUp_1 (go_lv (lv2 := [(0, .ref 70), (1, .int a2), (2, .int a3), (3, .int 0)]) rfl ?_)
  have z45 : (0 : Int32).toInt = 0 := (ti_c (v := 0) (a := 0) (by decide))
  exact go_lv rfl ((key 139) a2 a3 0 h hv (by omega) (by omega) (by omega) (by omega) (by omega) (by omega) ph0 fx (by rw [show (0 : Int32).toInt = 0 from (ti_c (v := 0) (a := 0) (by decide))]; exact k0) (by omega))
noncomputable def f_X8_goes2_ : Nat → Nat → Int → Int → Int → Int → Int → Int → Int → ST → ST
  | 0, _, _, _, _, _, _, _, _, sx => sx
  | n + 1, lab, l1, l2, l3, l4, l5, l6, s0, sx => if lab = 0 then (bd (sx.1 70 47) fun u70_47 => if u70_47 ≤ 0 then (sx) else (bd (sI sx 70 47 ((u70_47 - 1))) fun s9 => bd (s9.1 110 ((u70_47 - 1)).toNat) fun v12 => f_X8_goes2_ n 30 l1 l2 v12 0 0 0 0 s9)) else if lab = 30 then (bd (sx.1 70 47) fun u70_47 => if 585 ≤ l4 then (if 520 ≤ l3 then (bd (f_X8_isCall_x2 sx l3) fun v29 => if v29 = 0 then (f_X8_goes2_ n 184 l1 l2 l3 (((l3 - 520) % 13)) 0 0 l1 sx) else (if ((l3 - 520) % 13) < 7 then (f_X8_goes2_ n 184 l1 l2 l3 (((l3 - 520) % 13)) 0 0 l1 sx) else (bd (f_X8_item2 sx ((l3 / 13))) fun v44 => bd (sx.1 84 (v44).toNat) fun v46 => f_X8_goes2_ n 117 l1 l2 l3 (((l3 - 520) % 13)) v46 0 0 sx))) else (bd (f_X8_isCall_x2 sx l3) fun v58 => if v58 = 0 then (f_X8_goes2_ n 184 l1 l2 l3 ((l3 % 13)) 0 0 l1 sx) else (if (l3 % 13) < 7 then (f_X8_goes2_ n 184 l1 l2 l3 ((l3 % 13)) 0 0 l1 sx) else (bd (f_X8_item2 sx ((l3 / 13))) fun v73 => bd (sx.1 84 (v73).toNat) fun v75 => f_X8_goes2_ n 117 l1 l2 l3 ((l3 % 13)) v75 0 0 sx)))) else (bd (f_X8_isHung2 sx l3 l4) fun v82 => if v82 = 0 then (f_X8_goes2_ n 30 l1 l2 l3 ((l4 + 1)) 0 0 0 sx) else (bd (f_X8_reach2 sx l4) fun s90 => f_X8_goes2_ n 30 l1 l2 l3 ((l4 + 1)) 0 0 0 s90))) else if lab = 117 then (bd (sx.1 70 47) fun u70_47 => if 6 ≤ l6 then (if l2 = 0 then (f_X8_goes2_ n 184 l1 l2 l3 l4 0 0 l1 sx) else (bd (f_X8_procedurePlace2 sx l5 l4) fun v107 => bd (f_X8_reach2 sx v107) fun s109 => f_X8_goes2_ n 184 l1 l2 l3 l4 0 0 l1 s109)) else (bd (sx.1 108 ((((6 * l5) + l4) - 7)).toNat) fun v122 => bd (o_ishr v122 l6) fun v124 => bd (o_iand v124 1) fun v126 => if ¬ v126 = 1 then (f_X8_goes2_ n 117 l1 l2 l3 l4 l5 ((l6 + 1)) 0 sx) else (bd (f_X8_reach2 sx ((((l3 - l4) + 1) + l6))) fun s141 => f_X8_goes2_ n 117 l1 l2 l3 l4 l5 ((l6 + 1)) 0 s141))) else bd (sx.1 70 47) fun u70_47 => if s0 = 0 then (f_X8_goes2_ n 0 l1 l2 0 0 0 0 0 sx) else (if l3 < 520 then (f_X8_goes2_ n 0 l1 l2 0 0 0 0 0 sx) else (if 7 ≤ l4 then (f_X8_goes2_ n 0 l1 l2 0 0 0 0 0 sx) else (bd (f_X8_goesUp2 sx (((l3 - 520) / 13)) l4) fun s164 => f_X8_goes2_ n 0 l1 l2 0 0 0 0 0 s164)))
noncomputable def f_X8_goes2 (s : ST) (a2 : Int) (a3 : Int) : ST :=
  f_X8_goes2_ (BG 2200001) 0 a2 a3 0 0 0 0 0 s
set_option maxHeartbeats 4000000 in
set_option maxRecDepth 100000 in
theorem s_X8_goes2_f (l : Launch) (d : Nat) {P : PP} {h : HP} (hv : Iv P h) (a2 : Int32) (a2l : 0 ≤ a2.toInt) (a2u : a2.toInt ≤ 1) (a3 : Int32) (a3l : 0 ≤ a3.toInt) (a3u : a3.toInt ≤ 1) (hw : WT h.2.1 ≤ ct h.2.1 109) (ckf : CKF h.2.1) : Mt l yX8_goes cX8_goes 7 none (d + 4) [.ref 70, .int a2, .int a3] h 0 0 (fun r h' => r = none ∧ Iv P h' ∧ (PH h.2.1 h'.2.1) ∧ (WT h'.2.1 ≤ 0) ∧ (st h' = f_X8_goes2 (st h) a2.toInt a3.toInt) ∧ (FX KAq h h')) := by
  refine Mt_iv hv (by decide) (Nat.le_of_ble_eq_true rfl) ?_
  show Go l RX8 cX8_goes 7 (g_rm (d + 4) 0 0) "goes" none 117 0 0 (fun _ _ => True) (fun r h' => r = none ∧ Iv P h' ∧ (PH h.2.1 h'.2.1) ∧ (WT h'.2.1 ≤ 0) ∧ (st h' = f_X8_goes2 (st h) a2.toInt a3.toInt) ∧ (FX KAq h h')) 0 0 [(0, .ref 70), (1, .int a2), (2, .int a3)] [] h
  obtain ⟨S, hS⟩ : ∃ S : Int, S = (h.2.1 70 6).toInt := ⟨_, rfl⟩
  have S0 : 0 ≤ S := by rw [hS]; exact (hv.2.1 70 6).1
  have S1 : S ≤ 1 := by rw [hS]; exact (hv.2.1 70 6).2
  have fx : FX KAq h h := FX.rfl
  obtain ⟨fin, kf⟩ : ∃ z, z = f_X8_goes2 (st h) a2.toInt a3.toInt := ⟨_, _root_.rfl⟩
  have k0 := kf
  unfold f_X8_goes2 at k0
  have key : ∀ n : Nat, (∀ (l1 : Int32) (l2 : Int32) (hx : HP), Iv P hx → 0 ≤ l1.toInt → l1.toInt ≤ 1 → 0 ≤ l2.toInt → l2.toInt ≤ 1 → (PH h.2.1 hx.2.1) → ((0 ≤ ct hx.2.1 109 ∧ ct hx.2.1 109 ≤ 585) ∧ 0 ≤ WT hx.2.1 ∧ WT hx.2.1 ≤ 585) → FX KAq h hx → fin = f_X8_goes2_ n 0 l1.toInt l2.toInt 0 0 0 0 0 (st hx) → (1200 * (2 * (585 - ct hx.2.1 109) + WT hx.2.1) : Int) < n → Go l RX8 cX8_goes 7 (g_rm (d + 4) 0 0) "goes" none 117 0 0 (fun _ _ => True) (fun r h' => r = none ∧ Iv P h' ∧ (PH h.2.1 h'.2.1) ∧ (WT h'.2.1 ≤ 0) ∧ (st h' = f_X8_goes2 (st h) a2.toInt a3.toInt) ∧ (FX KAq h h')) 0 0 [(0, .ref 70), (1, .int l1), (2, .int l2)] [] hx) ∧ (∀ (l1 : Int32) (l2 : Int32) (l3 : Int32) (l4 : Int32) (hx : HP), Iv P hx → 0 ≤ l1.toInt → l1.toInt ≤ 1 → 0 ≤ l2.toInt → l2.toInt ≤ 1 → 0 ≤ l3.toInt → l3.toInt ≤ 584 → 0 ≤ l4.toInt → l4.toInt ≤ 585 → (PH h.2.1 hx.2.1) → ((0 ≤ ct hx.2.1 109 ∧ ct hx.2.1 109 ≤ 585) ∧ 0 ≤ WT hx.2.1 ∧ WT hx.2.1 ≤ 585) → FX KAq h hx → fin = f_X8_goes2_ n 30 l1.toInt l2.toInt l3.toInt l4.toInt 0 0 0 (st hx) → (1200 * (2 * (585 - ct hx.2.1 109) + WT hx.2.1) + 100 + (585 - l4.toInt) : Int) < n → Go l RX8 cX8_goes 7 (g_rm (d + 4) 0 0) "goes" none 117 0 0 (fun _ _ => True) (fun r h' => r = none ∧ Iv P h' ∧ (PH h.2.1 h'.2.1) ∧ (WT h'.2.1 ≤ 0) ∧ (st h' = f_X8_goes2 (st h) a2.toInt a3.toInt) ∧ (FX KAq h h')) 0 30 [(0, .ref 70), (1, .int l1), (2, .int l2), (3, .int l3), (4, .int l4)] [] hx) ∧ (∀ (l1 : Int32) (l2 : Int32) (l3 : Int32) (l4 : Int32) (l5 : Int32) (l6 : Int32) (hx : HP), Iv P hx → 0 ≤ l1.toInt → l1.toInt ≤ 1 → 0 ≤ l2.toInt → l2.toInt ≤ 1 → 0 ≤ l3.toInt → l3.toInt ≤ 584 → 7 ≤ l4.toInt → l4.toInt ≤ 12 → 0 ≤ l5.toInt → l5.toInt ≤ 4 → 0 ≤ l6.toInt → l6.toInt ≤ 6 → (PH h.2.1 hx.2.1) → ((0 ≤ ct hx.2.1 109 ∧ ct hx.2.1 109 ≤ 585) ∧ 0 ≤ WT hx.2.1 ∧ WT hx.2.1 ≤ 585) → (l4.toInt = l3.toInt % 13) → (l3.toInt < 520) → (7 ≤ l4.toInt) → FX KAq h hx → fin = f_X8_goes2_ n 117 l1.toInt l2.toInt l3.toInt l4.toInt l5.toInt l6.toInt 0 (st hx) → (1200 * (2 * (585 - ct hx.2.1 109) + WT hx.2.1) + 50 + (6 - l6.toInt) : Int) < n → Go l RX8 cX8_goes 7 (g_rm (d + 4) 0 0) "goes" none 117 0 0 (fun _ _ => True) (fun r h' => r = none ∧ Iv P h' ∧ (PH h.2.1 h'.2.1) ∧ (WT h'.2.1 ≤ 0) ∧ (st h' = f_X8_goes2 (st h) a2.toInt a3.toInt) ∧ (FX KAq h h')) 0 117 [(0, .ref 70), (1, .int l1), (2, .int l2), (3, .int l3), (4, .int l4), (5, .int l5), (6, .int l6)] [] hx) ∧ (∀ (l1 : Int32) (l2 : Int32) (l3 : Int32) (l4 : Int32) (s0 : Int32) (hx : HP), Iv P hx → 0 ≤ l1.toInt → l1.toInt ≤ 1 → 0 ≤ l2.toInt → l2.toInt ≤ 1 → 0 ≤ l3.toInt → l3.toInt ≤ 584 → 0 ≤ l4.toInt → l4.toInt ≤ 12 → 0 ≤ s0.toInt → s0.toInt ≤ 1 → (PH h.2.1 hx.2.1) → ((0 ≤ ct hx.2.1 109 ∧ ct hx.2.1 109 ≤ 585) ∧ 0 ≤ WT hx.2.1 ∧ WT hx.2.1 ≤ 585) → FX KAq h hx → fin = f_X8_goes2_ n 184 l1.toInt l2.toInt l3.toInt l4.toInt 0 0 s0.toInt (st hx) → (1200 * (2 * (585 - ct hx.2.1 109) + WT hx.2.1) + 10 : Int) < n → Go l RX8 cX8_goes 7 (g_rm (d + 4) 0 0) "goes" none 117 0 0 (fun _ _ => True) (fun r h' => r = none ∧ Iv P h' ∧ (PH h.2.1 h'.2.1) ∧ (WT h'.2.1 ≤ 0) ∧ (st h' = f_X8_goes2 (st h) a2.toInt a3.toInt) ∧ (FX KAq h h')) 0 184 [(0, .ref 70), (1, .int l1), (2, .int l2), (3, .int l3), (4, .int l4)] [.int s0] hx) := by
    intro n
    induction n with
    | zero => exact ⟨(by intros; omega), (by intros; omega), (by intros; omega), (by intros; omega)⟩
    | succ n ih =>
      refine ⟨?_, ?_, ?_, ?_⟩
      ·
        intro l1 l2 hx hvx l1l l1u l2l l2u x0 x1 fxx kL hm
        obtain ⟨u70_47, u70_47w⟩ : ∃ v : Int32, v = hx.2.1 70 47 := ⟨_, rfl⟩
        have u70_47e : (hx.2.1 70 47).toInt = u70_47.toInt := by rw [u70_47w]
        have u70_47l : 0 ≤ u70_47.toInt := by rw [u70_47w]; exact (hvx.2.1 70 47).1
        have u70_47u : u70_47.toInt ≤ 585 := by rw [u70_47w]; exact (hvx.2.1 70 47).2
        rw [f_X8_goes2_] at kL
        replace kL := if_t kL _root_.rfl
        have k1 := bd_e kL (congrArg Int32.toInt u70_47w.symm)
        have x0a := x0.1
        have x0b := x0.2.1
        have hwt : (hx.2.1 70 47).toInt = WT hx.2.1 := rfl
        refine go_aload_n (pc := 0) rfl dX8_goes_0 ?_
        refine gi_get (pc := 1) (lo := 0) (hi := 585) hvx fL_X8_344 rfl (Nat.le_of_ble_eq_true rfl) rfl rfl dX8_goes_1 (fun v2 v2l v2u v2w => ?_)
        have v2r : u70_47 = hx.2.1 70 47 := u70_47w
        have v2q : TI v2 u70_47.toInt := by rw [v2w.trans v2r.symm]; exact (ti_rfl u70_47)
        refine gf_if_le (pc := 4) (tgt := 218) v2q (by decide) dX8_goes_4 (fun q3 => ?_) (fun q3 => ?_)
        ·
          have k4 := if_t k1 q3
          exact gi_vret (pc := 218) ⟨rfl, hvx, x0, (by omega), (k4.symm.trans kf), fxx⟩ hvx dX8_goes_218
        ·
          have k5 := if_f k1 (Int.not_le.mpr q3)
          refine go_aload_n (pc := 7) rfl dX8_goes_7 ?_
          refine go_dup (pc := 8) rfl dX8_goes_8 ?_
          refine gi_get (pc := 9) (lo := 0) (hi := 585) hvx fL_X8_344 rfl (Nat.le_of_ble_eq_true rfl) rfl rfl dX8_goes_9 (fun v6 v6l v6u v6w => ?_)
          have v6r : u70_47 = hx.2.1 70 47 := u70_47w
          have v6q : TI v6 u70_47.toInt := by rw [v6w.trans v6r.symm]; exact (ti_rfl u70_47)
          refine go_iconst (pc := 12) (v := 1) (by decide) dX8_goes_12 ?_
          refine gf_isub (pc := 13) v6q (ti_c (v := 1) (a := 1) (by decide)) (by omega) (by omega) dX8_goes_13 (fun v7 e8 => ?_)
          refine gi_put (pc := 14) (lo := 0) (hi := 585) hvx e8 (fP_X8_344 _) rfl (Nat.le_of_ble_eq_true rfl) rfl rfl (by omega) (by omega) rfl rfl (by decide) (by decide) (by decide) (by decide) dX8_goes_14 (fun h9 hv9 hv9e => ?_)
          have fx9 : FX KAq h h9 := FX.pI fxx hv9e (by unfold KAq; omega)
          have k10 := bd_e k5 (st_I hv9e e8)
          have pop := PH.pop (F := hx.2.1) (z := v7) x0.1 (by rw [show (v7 : Int32).toInt = (u70_47.toInt - 1) from e8]; omega)
          have eh : h9.2.1 = (fun p q => if p = 70 ∧ q = 47 then v7 else hx.2.1 p q) := by rw [hv9e]; rfl
          rw [← eh] at pop
          have pop1 := pop.2.1
          have pop2 := pop.2.2
          have php : PH h.2.1 h9.2.1 := x0.trans pop.1
          refine go_aload_n (pc := 17) rfl dX8_goes_17 ?_
          refine gi_getF (pc := 18) (q := 110) hv9 fL_X8_130 rfl (Nat.le_of_ble_eq_true rfl) rfl (hv9.rf (by decide)) dX8_goes_18 ?_
          refine go_aload_n (pc := 21) rfl dX8_goes_21 ?_
          refine gi_get (pc := 22) (lo := 0) (hi := 585) hv9 fL_X8_344 rfl (Nat.le_of_ble_eq_true rfl) rfl rfl dX8_goes_22 (fun v11 v11l v11u v11w => ?_)
          have v11r : v7 = h9.2.1 70 47 := (show v7 = h9.2.1 70 47 from by rw [hv9e]; exact g_iS.symm)
          have v11q : TI v11 ((u70_47.toInt - 1)) := by rw [v11w.trans v11r.symm]; exact e8
          refine gi_iald (pc := 25) (lo := 0) (hi := 584) (len := 585) hv9 v11q rfl (by omega) (by omega) (fun _ => rfl) dX8_goes_25 (fun v12 v12l v12u v12w => ?_)
          have k13 := bd_e k10 (congrArg Int32.toInt v12w.symm)
          refine go_istore_n (pc := 26) (Nat.le_of_ble_eq_true rfl) dX8_goes_26 (go_lv (lv2 := [(0, .ref 70), (1, .int l1), (2, .int l2), (3, .int v12)]) rfl ?_)
          refine go_iconst (pc := 27) (v := 0) (by decide) dX8_goes_27 ?_
          refine go_istore (pc := 28) (Nat.le_of_ble_eq_true rfl) dX8_goes_28 (go_lv (lv2 := [(0, .ref 70), (1, .int l1), (2, .int l2), (3, .int v12), (4, .int 0)]) rfl ?_)
          have z14 : (0 : Int32).toInt = 0 := (ti_c (v := 0) (a := 0) (by decide))
          exact go_lv rfl (ih.2.1 l1 l2 v12 0 h9 hv9 (by omega) (by omega) (by omega) (by omega) (by omega) (by omega) (by omega) (by omega) php ⟨⟨ct_lo _ _, ct_hi _ _⟩, (hv9.2.1 70 47)⟩ fx9 (by rw [show (0 : Int32).toInt = 0 from (ti_c (v := 0) (a := 0) (by decide))]; exact k13) (by omega))
      ·
        intro l1 l2 l3 l4 hx hvx l1l l1u l2l l2u l3l l3u l4l l4u x0 x1 fxx kL hm
        obtain ⟨u70_47, u70_47w⟩ : ∃ v : Int32, v = hx.2.1 70 47 := ⟨_, rfl⟩
        have u70_47e : (hx.2.1 70 47).toInt = u70_47.toInt := by rw [u70_47w]
        have u70_47l : 0 ≤ u70_47.toInt := by rw [u70_47w]; exact (hvx.2.1 70 47).1
        have u70_47u : u70_47.toInt ≤ 585 := by rw [u70_47w]; exact (hvx.2.1 70 47).2
        rw [f_X8_goes2_] at kL
        replace kL := if_f kL (by decide)
        replace kL := if_t kL _root_.rfl
        have k15 := bd_e kL (congrArg Int32.toInt u70_47w.symm)
        have x0a := x0.1
        have x0b := x0.2.1
        refine go_iload (pc := 30) rfl dX8_goes_30 ?_
        refine go_sipush (pc := 32) (v := 585) (by decide) dX8_goes_32 ?_
        refine gf_icmp_ge (pc := 35) (tgt := 60) (ti_rfl l4) (ti_c (v := 585) (a := 585) (by decide)) (by decide) dX8_goes_35 (fun q16 => ?_) (fun q16 => ?_)
        ·
          have k17 := if_t k15 q16
          refine go_iload_n (pc := 60) rfl dX8_goes_60 ?_
          refine go_sipush (pc := 61) (v := 520) (by decide) dX8_goes_61 ?_
          refine gf_icmp_ge (pc := 64) (tgt := 74) (ti_rfl l3) (ti_c (v := 520) (a := 520) (by decide)) (by decide) dX8_goes_64 (fun q18 => ?_) (fun q18 => ?_)
          ·
            have k19 := if_t k17 q18
            refine go_iload_n (pc := 74) rfl dX8_goes_74 ?_
            refine go_sipush (pc := 75) (v := 520) (by decide) dX8_goes_75 ?_
            refine gf_isub (pc := 78) (ti_rfl l3) (ti_c (v := 520) (a := 520) (by decide)) (by omega) (by omega) dX8_goes_78 (fun v20 e21 => ?_)
            refine go_bipush (pc := 79) (v := 13) (by decide) dX8_goes_79 ?_
            refine gf_irem (pc := 81) e21 (ti_c (v := 13) (a := 13) (by decide)) (by omega) (by omega) dX8_goes_81 (fun v22 e23 => ?_)
            have z24 : (v22 : Int32).toInt = ((l3.toInt - 520) % 13) := e23
            refine go_istore (pc := 82) (Nat.le_of_ble_eq_true rfl) dX8_goes_82 (go_lv (lv2 := [(0, .ref 70), (1, .int l1), (2, .int l2), (3, .int l3), (4, .int v22)]) rfl ?_)
            refine go_aload_n (pc := 84) rfl dX8_goes_84 ?_
            refine go_iload_n (pc := 85) rfl dX8_goes_85 ?_
            have sM25 : (hx.2.1 70 6).toInt = S := by rw [hvx.fy (j := 6) (by omega), ← hv.fy (j := 6) (by omega)]; exact hS.symm
            refine go_invV (pc := 86) (sl := 0) (s_X8_isCall_x2_f l (d + 0) hvx l3 (by rw [show (l3 : Int32).toInt = l3.toInt from (ti_rfl l3)]; omega) (by rw [show (l3 : Int32).toInt = l3.toInt from (ti_rfl l3)]; omega)) mL_X8_350 iM_X8_isCall sM_X8_isCall (hvx.sh rfl) rfl rfl rfl (Nat.le_of_ble_eq_true rfl) (show d + 0 + 3 + 1 ≤ d + 4 by omega) (show 8 + (2 + 11) + 40 * (d + 0 + 3) ≤ 40 * (d + 4) by omega) (g_c0 hvx.ln) (Nat.le_of_ble_eq_true rfl) dX8_goes_86 ?_
            intro r h26 hq _
            obtain ⟨v29, rfl, v29l, v29u, rfl, f27, f28⟩ := hq
            rw [sM25] at f27
            replace f28 : PE _ _ := f28
            have k30 := bd_e k19 f28.symm
            have icf := f27
            rw [VE.v (VE.of hv hvx) (c := 75) (by omega) (by omega), VE.v (VE.of hv hvx) (c := 77) (by omega) (by omega), VE.v (VE.of hv hvx) (c := 93) (by omega) (by omega)] at icf
            refine gf_if_eq (pc := 89) (tgt := 183) (ti_rfl v29) (by decide) dX8_goes_89 (fun q31 => ?_) (fun q31 => ?_)
            ·
              have k32 := if_t k30 q31
              refine go_iload_n (pc := 183) rfl dX8_goes_183 ?_
              have z33 : (v22 : Int32).toInt = ((l3.toInt - 520) % 13) := e23
              exact go_lv rfl (ih.2.2.2 l1 l2 l3 v22 l1 hx hvx (by omega) (by omega) (by omega) (by omega) (by omega) (by omega) (by omega) (by omega) (by omega) (by omega) x0 ⟨⟨ct_lo _ _, ct_hi _ _⟩, (hvx.2.1 70 47)⟩ fxx (by rw [show (v22 : Int32).toInt = ((l3.toInt - 520) % 13) from e23]; exact k32) (by omega))
            ·
              have k34 := if_f k30 q31
              refine go_iload (pc := 92) rfl dX8_goes_92 ?_
              refine go_bipush (pc := 94) (v := 7) (by decide) dX8_goes_94 ?_
              refine gf_icmp_lt (pc := 96) (tgt := 183) e23 (ti_c (v := 7) (a := 7) (by decide)) (by decide) dX8_goes_96 (fun q35 => ?_) (fun q35 => ?_)
              ·
                have k36 := if_t k34 q35
                refine go_iload_n (pc := 183) rfl dX8_goes_183 ?_
                have z37 : (v22 : Int32).toInt = ((l3.toInt - 520) % 13) := e23
                exact go_lv rfl (ih.2.2.2 l1 l2 l3 v22 l1 hx hvx (by omega) (by omega) (by omega) (by omega) (by omega) (by omega) (by omega) (by omega) (by omega) (by omega) x0 ⟨⟨ct_lo _ _, ct_hi _ _⟩, (hvx.2.1 70 47)⟩ fxx (by rw [show (v22 : Int32).toInt = ((l3.toInt - 520) % 13) from e23]; exact k36) (by omega))
              ·
                have k38 := if_f k34 (Int.not_lt.mpr q35)
                refine go_aload_n (pc := 99) rfl dX8_goes_99 ?_
                refine gi_getF (pc := 100) (q := 84) hvx fL_X8_50 rfl (Nat.le_of_ble_eq_true rfl) rfl (hvx.rf (by decide)) dX8_goes_100 ?_
                refine go_aload_n (pc := 103) rfl dX8_goes_103 ?_
                refine go_iload_n (pc := 104) rfl dX8_goes_104 ?_
                refine go_bipush (pc := 105) (v := 13) (by decide) dX8_goes_105 ?_
                refine gf_idiv (pc := 107) (ti_rfl l3) (ti_c (v := 13) (a := 13) (by decide)) (by omega) (by omega) dX8_goes_107 (fun v39 e40 => ?_)
                refine go_invV (pc := 108) (sl := 0) (s_X8_item2_f l (d + 2) hvx v39 (by rw [show (v39 : Int32).toInt = (l3.toInt / 13) from e40]; omega) (by rw [show (v39 : Int32).toInt = (l3.toInt / 13) from e40]; omega)) mL_X8_268 iM_X8_item sM_X8_item (hvx.sh rfl) rfl rfl rfl (Nat.le_of_ble_eq_true rfl) (show d + 2 + 1 + 1 ≤ d + 4 by omega) (show 8 + (2 + 11) + 40 * (d + 2 + 1) ≤ 40 * (d + 4) by omega) (g_c0 hvx.ln) (Nat.le_of_ble_eq_true rfl) dX8_goes_108 ?_
                intro r h41 hq _
                obtain ⟨v44, rfl, v44l, v44u, rfl, f42, f43⟩ := hq
                have v44K : v44.toInt = V h.2.1 93 (40 * S + (l3.toInt / 13)) := by rw [f42]; unfold g_it; rw [show (v39 : Int32).toInt = (l3.toInt / 13) from e40, hvx.fy (j := 6) (by omega), ← hv.fy (j := 6) (by omega), ← hS, hvx.fz (c := 93) (by omega) (by omega), ← hv.fz (c := 93) (by omega) (by omega)]; rfl
                try rw [show (v39 : Int32).toInt = (l3.toInt / 13) from e40] at f42
                try rw [show (v39 : Int32).toInt = (l3.toInt / 13) from e40] at f43
                replace f43 : PE _ _ := f43
                have k45 := bd_e k38 f43.symm
                refine gi_iald (pc := 111) (lo := -2) (hi := 4) (len := 260) hvx (ti_rfl v44) rfl (by omega) (by omega) (fun _ => rfl) dX8_goes_111 (fun v46 v46l v46u v46w => ?_)
                have k47 := bd_e k45 (congrArg Int32.toInt v46w.symm)
                have v46V : v46.toInt = V h.2.1 84 v44.toInt := by rw [v46w, hvx.fz (c := 84) (by omega) (by omega), ← hv.fz (c := 84) (by omega) (by omega)]; rfl
                have ic := icf.1 (by omega)
                have kk : 0 ≤ v46.toInt := by
                  rw [v46w]
                  refine (KS.ckf x0.2.2.2 ckf) _ ?_
                  have e : V h.2.1 77 v44.toInt = 1 := by rw [v44K]; exact ic.2.2
                  rw [← x0.2.2.2.ve.v (c := 77) (by omega) (by omega)] at e
                  exact e
                refine go_istore (pc := 112) (Nat.le_of_ble_eq_true rfl) dX8_goes_112 (go_lv (lv2 := [(0, .ref 70), (1, .int l1), (2, .int l2), (3, .int l3), (4, .int v22), (5, .int v46)]) rfl ?_)
                refine go_iconst (pc := 114) (v := 0) (by decide) dX8_goes_114 ?_
                refine go_istore (pc := 115) (Nat.le_of_ble_eq_true rfl) dX8_goes_115 (go_lv (lv2 := [(0, .ref 70), (1, .int l1), (2, .int l2), (3, .int l3), (4, .int v22), (5, .int v46), (6, .int 0)]) rfl ?_)
                have z48 : (v22 : Int32).toInt = ((l3.toInt - 520) % 13) := e23
                have z49 : (0 : Int32).toInt = 0 := (ti_c (v := 0) (a := 0) (by decide))
                exact go_lv rfl (ih.2.2.1 l1 l2 l3 v22 v46 0 hx hvx (by omega) (by omega) (by omega) (by omega) (by omega) (by omega) (by omega) (by omega) (by omega) (by omega) (by omega) (by omega) x0 ⟨⟨ct_lo _ _, ct_hi _ _⟩, (hvx.2.1 70 47)⟩ (by omega) (by omega) (by omega) fxx (by rw [show (v22 : Int32).toInt = ((l3.toInt - 520) % 13) from e23, show (0 : Int32).toInt = 0 from (ti_c (v := 0) (a := 0) (by decide))]; exact k47) (by omega))
          ·
            have k50 := if_f k17 (Int.not_le.mpr q18)
            refine go_iload_n (pc := 67) rfl dX8_goes_67 ?_
            refine go_bipush (pc := 68) (v := 13) (by decide) dX8_goes_68 ?_
            refine gf_irem (pc := 70) (ti_rfl l3) (ti_c (v := 13) (a := 13) (by decide)) (by omega) (by omega) dX8_goes_70 (fun v51 e52 => ?_)
            refine go_goto (pc := 71) (tgt := 82) (by decide) dX8_goes_71 ?_
            have z53 : (v51 : Int32).toInt = (l3.toInt % 13) := e52
            refine go_istore (pc := 82) (Nat.le_of_ble_eq_true rfl) dX8_goes_82 (go_lv (lv2 := [(0, .ref 70), (1, .int l1), (2, .int l2), (3, .int l3), (4, .int v51)]) rfl ?_)
            refine go_aload_n (pc := 84) rfl dX8_goes_84 ?_
            refine go_iload_n (pc := 85) rfl dX8_goes_85 ?_
            have sM54 : (hx.2.1 70 6).toInt = S := by rw [hvx.fy (j := 6) (by omega), ← hv.fy (j := 6) (by omega)]; exact hS.symm
            refine go_invV (pc := 86) (sl := 0) (s_X8_isCall_x2_f l (d + 0) hvx l3 (by rw [show (l3 : Int32).toInt = l3.toInt from (ti_rfl l3)]; omega) (by rw [show (l3 : Int32).toInt = l3.toInt from (ti_rfl l3)]; omega)) mL_X8_350 iM_X8_isCall sM_X8_isCall (hvx.sh rfl) rfl rfl rfl (Nat.le_of_ble_eq_true rfl) (show d + 0 + 3 + 1 ≤ d + 4 by omega) (show 8 + (2 + 11) + 40 * (d + 0 + 3) ≤ 40 * (d + 4) by omega) (g_c0 hvx.ln) (Nat.le_of_ble_eq_true rfl) dX8_goes_86 ?_
            intro r h55 hq _
            obtain ⟨v58, rfl, v58l, v58u, rfl, f56, f57⟩ := hq
            rw [sM54] at f56
            replace f57 : PE _ _ := f57
            have k59 := bd_e k50 f57.symm
            have icf := f56
            rw [VE.v (VE.of hv hvx) (c := 75) (by omega) (by omega), VE.v (VE.of hv hvx) (c := 77) (by omega) (by omega), VE.v (VE.of hv hvx) (c := 93) (by omega) (by omega)] at icf
            refine gf_if_eq (pc := 89) (tgt := 183) (ti_rfl v58) (by decide) dX8_goes_89 (fun q60 => ?_) (fun q60 => ?_)
            ·
              have k61 := if_t k59 q60
              refine go_iload_n (pc := 183) rfl dX8_goes_183 ?_
              have z62 : (v51 : Int32).toInt = (l3.toInt % 13) := e52
              exact go_lv rfl (ih.2.2.2 l1 l2 l3 v51 l1 hx hvx (by omega) (by omega) (by omega) (by omega) (by omega) (by omega) (by omega) (by omega) (by omega) (by omega) x0 ⟨⟨ct_lo _ _, ct_hi _ _⟩, (hvx.2.1 70 47)⟩ fxx (by rw [show (v51 : Int32).toInt = (l3.toInt % 13) from e52]; exact k61) (by omega))
            ·
              have k63 := if_f k59 q60
              refine go_iload (pc := 92) rfl dX8_goes_92 ?_
              refine go_bipush (pc := 94) (v := 7) (by decide) dX8_goes_94 ?_
              refine gf_icmp_lt (pc := 96) (tgt := 183) e52 (ti_c (v := 7) (a := 7) (by decide)) (by decide) dX8_goes_96 (fun q64 => ?_) (fun q64 => ?_)
              ·
                have k65 := if_t k63 q64
                refine go_iload_n (pc := 183) rfl dX8_goes_183 ?_
                have z66 : (v51 : Int32).toInt = (l3.toInt % 13) := e52
                exact go_lv rfl (ih.2.2.2 l1 l2 l3 v51 l1 hx hvx (by omega) (by omega) (by omega) (by omega) (by omega) (by omega) (by omega) (by omega) (by omega) (by omega) x0 ⟨⟨ct_lo _ _, ct_hi _ _⟩, (hvx.2.1 70 47)⟩ fxx (by rw [show (v51 : Int32).toInt = (l3.toInt % 13) from e52]; exact k65) (by omega))
              ·
                have k67 := if_f k63 (Int.not_lt.mpr q64)
                refine go_aload_n (pc := 99) rfl dX8_goes_99 ?_
                refine gi_getF (pc := 100) (q := 84) hvx fL_X8_50 rfl (Nat.le_of_ble_eq_true rfl) rfl (hvx.rf (by decide)) dX8_goes_100 ?_
                refine go_aload_n (pc := 103) rfl dX8_goes_103 ?_
                refine go_iload_n (pc := 104) rfl dX8_goes_104 ?_
                refine go_bipush (pc := 105) (v := 13) (by decide) dX8_goes_105 ?_
                refine gf_idiv (pc := 107) (ti_rfl l3) (ti_c (v := 13) (a := 13) (by decide)) (by omega) (by omega) dX8_goes_107 (fun v68 e69 => ?_)
                refine go_invV (pc := 108) (sl := 0) (s_X8_item2_f l (d + 2) hvx v68 (by rw [show (v68 : Int32).toInt = (l3.toInt / 13) from e69]; omega) (by rw [show (v68 : Int32).toInt = (l3.toInt / 13) from e69]; omega)) mL_X8_268 iM_X8_item sM_X8_item (hvx.sh rfl) rfl rfl rfl (Nat.le_of_ble_eq_true rfl) (show d + 2 + 1 + 1 ≤ d + 4 by omega) (show 8 + (2 + 11) + 40 * (d + 2 + 1) ≤ 40 * (d + 4) by omega) (g_c0 hvx.ln) (Nat.le_of_ble_eq_true rfl) dX8_goes_108 ?_
                intro r h70 hq _
                obtain ⟨v73, rfl, v73l, v73u, rfl, f71, f72⟩ := hq
                have v73K : v73.toInt = V h.2.1 93 (40 * S + (l3.toInt / 13)) := by rw [f71]; unfold g_it; rw [show (v68 : Int32).toInt = (l3.toInt / 13) from e69, hvx.fy (j := 6) (by omega), ← hv.fy (j := 6) (by omega), ← hS, hvx.fz (c := 93) (by omega) (by omega), ← hv.fz (c := 93) (by omega) (by omega)]; rfl
                try rw [show (v68 : Int32).toInt = (l3.toInt / 13) from e69] at f71
                try rw [show (v68 : Int32).toInt = (l3.toInt / 13) from e69] at f72
                replace f72 : PE _ _ := f72
                have k74 := bd_e k67 f72.symm
                refine gi_iald (pc := 111) (lo := -2) (hi := 4) (len := 260) hvx (ti_rfl v73) rfl (by omega) (by omega) (fun _ => rfl) dX8_goes_111 (fun v75 v75l v75u v75w => ?_)
                have k76 := bd_e k74 (congrArg Int32.toInt v75w.symm)
                have v75V : v75.toInt = V h.2.1 84 v73.toInt := by rw [v75w, hvx.fz (c := 84) (by omega) (by omega), ← hv.fz (c := 84) (by omega) (by omega)]; rfl
                have ic := icf.1 (by omega)
                have kk : 0 ≤ v75.toInt := by
                  rw [v75w]
                  refine (KS.ckf x0.2.2.2 ckf) _ ?_
                  have e : V h.2.1 77 v73.toInt = 1 := by rw [v73K]; exact ic.2.2
                  rw [← x0.2.2.2.ve.v (c := 77) (by omega) (by omega)] at e
                  exact e
                refine go_istore (pc := 112) (Nat.le_of_ble_eq_true rfl) dX8_goes_112 (go_lv (lv2 := [(0, .ref 70), (1, .int l1), (2, .int l2), (3, .int l3), (4, .int v51), (5, .int v75)]) rfl ?_)
                refine go_iconst (pc := 114) (v := 0) (by decide) dX8_goes_114 ?_
                refine go_istore (pc := 115) (Nat.le_of_ble_eq_true rfl) dX8_goes_115 (go_lv (lv2 := [(0, .ref 70), (1, .int l1), (2, .int l2), (3, .int l3), (4, .int v51), (5, .int v75), (6, .int 0)]) rfl ?_)
                have z77 : (v51 : Int32).toInt = (l3.toInt % 13) := e52
                have z78 : (0 : Int32).toInt = 0 := (ti_c (v := 0) (a := 0) (by decide))
                exact go_lv rfl (ih.2.2.1 l1 l2 l3 v51 v75 0 hx hvx (by omega) (by omega) (by omega) (by omega) (by omega) (by omega) (by omega) (by omega) (by omega) (by omega) (by omega) (by omega) x0 ⟨⟨ct_lo _ _, ct_hi _ _⟩, (hvx.2.1 70 47)⟩ (by omega) (by omega) (by omega) fxx (by rw [show (v51 : Int32).toInt = (l3.toInt % 13) from e52, show (0 : Int32).toInt = 0 from (ti_c (v := 0) (a := 0) (by decide))]; exact k76) (by omega))
        ·
          have k79 := if_f k15 (Int.not_le.mpr q16)
          refine go_aload_n (pc := 38) rfl dX8_goes_38 ?_
          refine go_iload_n (pc := 39) rfl dX8_goes_39 ?_
          refine go_iload (pc := 40) rfl dX8_goes_40 ?_
          refine go_invV (pc := 42) (sl := 0) (s_X8_isHung2_f l (d + 2) hvx l3 (by rw [show (l3 : Int32).toInt = l3.toInt from (ti_rfl l3)]; omega) (by rw [show (l3 : Int32).toInt = l3.toInt from (ti_rfl l3)]; omega) l4 (by rw [show (l4 : Int32).toInt = l4.toInt from (ti_rfl l4)]; omega) (by rw [show (l4 : Int32).toInt = l4.toInt from (ti_rfl l4)]; omega)) mL_X8_326 iM_X8_isHung sM_X8_isHung (hvx.sh rfl) rfl rfl rfl (Nat.le_of_ble_eq_true rfl) (show d + 2 + 1 + 1 ≤ d + 4 by omega) (show 8 + (3 + 11) + 40 * (d + 2 + 1) ≤ 40 * (d + 4) by omega) (g_c0 hvx.ln) (Nat.le_of_ble_eq_true rfl) dX8_goes_42 ?_
          intro r h80 hq _
          obtain ⟨v82, rfl, v82l, v82u, rfl, f81⟩ := hq
          replace f81 : PE _ _ := f81
          have k83 := bd_e k79 f81.symm
          refine gf_if_eq (pc := 45) (tgt := 54) (ti_rfl v82) (by decide) dX8_goes_45 (fun q84 => ?_) (fun q84 => ?_)
          ·
            have k85 := if_t k83 q84
            refine gf_iinc (pc := 54) (Nat.le_of_ble_eq_true rfl) rfl (ti_rfl l4) (ti_c (by decide)) (by omega) (by omega) dX8_goes_54 (fun v86 e87 => ?_)
            refine go_lv (lv2 := [(0, .ref 70), (1, .int l1), (2, .int l2), (3, .int l3), (4, .int v86)]) rfl ?_
            refine go_goto (pc := 57) (tgt := 30) (by decide) dX8_goes_57 ?_
            have z88 : (v86 : Int32).toInt = (l4.toInt + 1) := e87
            exact go_lv rfl (ih.2.1 l1 l2 l3 v86 hx hvx (by omega) (by omega) (by omega) (by omega) (by omega) (by omega) (by omega) (by omega) x0 ⟨⟨ct_lo _ _, ct_hi _ _⟩, (hvx.2.1 70 47)⟩ fxx (by rw [show (v86 : Int32).toInt = (l4.toInt + 1) from e87]; exact k85) (by omega))
          ·
            have k89 := if_f k83 q84
            refine go_aload_n (pc := 48) rfl dX8_goes_48 ?_
            refine go_iload (pc := 49) rfl dX8_goes_49 ?_
            refine go_invV (pc := 51) (sl := 0) (s_X8_reach2_f l (d + 1) hvx l4 (by rw [show (l4 : Int32).toInt = l4.toInt from (ti_rfl l4)]; omega) (by rw [show (l4 : Int32).toInt = l4.toInt from (ti_rfl l4)]; omega) x0.1) mL_X8_347 iM_X8_reach sM_X8_reach (hvx.sh rfl) rfl rfl rfl (Nat.le_of_ble_eq_true rfl) (show d + 1 + 2 + 1 ≤ d + 4 by omega) (show 8 + (2 + 11) + 40 * (d + 1 + 2) ≤ 40 * (d + 4) by omega) (g_c0 hvx.ln) (Nat.le_of_ble_eq_true rfl) dX8_goes_51 ?_
            intro r h90 hq _
            obtain ⟨rfl, hv90, f91, f92, f93⟩ := hq
            have fx90 : FX KAq h h90 := FX.tr fxx f93
            have k94 := bd_e k89 f92.symm
            have ph95s := (RC.ph f91 (by omega) (by omega) x0.1)
            have ph95c := ph95s.2.1
            have ph95 : PH h.2.1 h90.2.1 := x0.trans ph95s
            have ph95a := ph95.1
            have ph95b := ph95.2.1
            refine gf_iinc (pc := 54) (Nat.le_of_ble_eq_true rfl) rfl (ti_rfl l4) (ti_c (by decide)) (by omega) (by omega) dX8_goes_54 (fun v96 e97 => ?_)
            refine go_lv (lv2 := [(0, .ref 70), (1, .int l1), (2, .int l2), (3, .int l3), (4, .int v96)]) rfl ?_
            refine go_goto (pc := 57) (tgt := 30) (by decide) dX8_goes_57 ?_
            have z98 : (v96 : Int32).toInt = (l4.toInt + 1) := e97
            exact go_lv rfl (ih.2.1 l1 l2 l3 v96 h90 hv90 (by omega) (by omega) (by omega) (by omega) (by omega) (by omega) (by omega) (by omega) ph95 ⟨⟨ct_lo _ _, ct_hi _ _⟩, (hv90.2.1 70 47)⟩ fx90 (by rw [show (v96 : Int32).toInt = (l4.toInt + 1) from e97]; exact k94) (by omega))
      ·
        intro l1 l2 l3 l4 l5 l6 hx hvx l1l l1u l2l l2u l3l l3u l4l l4u l5l l5u l6l l6u x0 x1 x2 x3 x4 fxx kL hm
        obtain ⟨u70_47, u70_47w⟩ : ∃ v : Int32, v = hx.2.1 70 47 := ⟨_, rfl⟩
        have u70_47e : (hx.2.1 70 47).toInt = u70_47.toInt := by rw [u70_47w]
        have u70_47l : 0 ≤ u70_47.toInt := by rw [u70_47w]; exact (hvx.2.1 70 47).1
        have u70_47u : u70_47.toInt ≤ 585 := by rw [u70_47w]; exact (hvx.2.1 70 47).2
        rw [f_X8_goes2_] at kL
        replace kL := if_f kL (by decide)
        replace kL := if_f kL (by decide)
        replace kL := if_t kL _root_.rfl
        have k99 := bd_e kL (congrArg Int32.toInt u70_47w.symm)
        have x0a := x0.1
        have x0b := x0.2.1
        refine go_iload (pc := 117) rfl dX8_goes_117 ?_
        refine go_bipush (pc := 119) (v := 6) (by decide) dX8_goes_119 ?_
        refine gf_icmp_ge (pc := 121) (tgt := 168) (ti_rfl l6) (ti_c (v := 6) (a := 6) (by decide)) (by decide) dX8_goes_121 (fun q100 => ?_) (fun q100 => ?_)
        ·
          have k101 := if_t k99 q100
          refine go_iload_n (pc := 168) rfl dX8_goes_168 ?_
          refine gf_if_eq (pc := 169) (tgt := 183) (ti_rfl l2) (by decide) dX8_goes_169 (fun q102 => ?_) (fun q102 => ?_)
          ·
            have k103 := if_t k101 q102
            refine go_iload_n (pc := 183) rfl dX8_goes_183 ?_
            exact go_lv rfl (ih.2.2.2 l1 l2 l3 l4 l1 hx hvx (by omega) (by omega) (by omega) (by omega) (by omega) (by omega) (by omega) (by omega) (by omega) (by omega) x0 ⟨⟨ct_lo _ _, ct_hi _ _⟩, (hvx.2.1 70 47)⟩ fxx k103 (by omega))
          ·
            have k104 := if_f k101 q102
            refine go_aload_n (pc := 172) rfl dX8_goes_172 ?_
            refine go_iload (pc := 173) rfl dX8_goes_173 ?_
            refine go_iload (pc := 175) rfl dX8_goes_175 ?_
            refine go_invS (pc := 177) (sl := 0) (s_X8_procedurePlace2_f l (d + 2) hvx l5 (by rw [show (l5 : Int32).toInt = l5.toInt from (ti_rfl l5)]; omega) (by rw [show (l5 : Int32).toInt = l5.toInt from (ti_rfl l5)]; omega) l4 (by rw [show (l4 : Int32).toInt = l4.toInt from (ti_rfl l4)]; omega) (by rw [show (l4 : Int32).toInt = l4.toInt from (ti_rfl l4)]; omega)) mL_X8_300 iM_X8_procedurePlace rfl rfl (Nat.le_of_ble_eq_true rfl) (show d + 2 + 1 + 1 ≤ d + 4 by omega) (show 8 + (2 + 11) + 40 * (d + 2 + 1) ≤ 40 * (d + 4) by omega) (g_c0 hvx.ln) (Nat.le_of_ble_eq_true rfl) dX8_goes_177 ?_
            intro r h105 hq _
            obtain ⟨v107, rfl, v107l, v107u, rfl, f106⟩ := hq
            replace f106 : PE _ _ := f106
            have k108 := bd_e k104 f106.symm
            refine go_invV (pc := 180) (sl := 0) (s_X8_reach2_f l (d + 1) hvx v107 (by rw [show (v107 : Int32).toInt = v107.toInt from (ti_rfl v107)]; omega) (by rw [show (v107 : Int32).toInt = v107.toInt from (ti_rfl v107)]; omega) x0.1) mL_X8_347 iM_X8_reach sM_X8_reach (hvx.sh rfl) rfl rfl rfl (Nat.le_of_ble_eq_true rfl) (show d + 1 + 2 + 1 ≤ d + 4 by omega) (show 8 + (2 + 11) + 40 * (d + 1 + 2) ≤ 40 * (d + 4) by omega) (g_c0 hvx.ln) (Nat.le_of_ble_eq_true rfl) dX8_goes_180 ?_
            intro r h109 hq _
            obtain ⟨rfl, hv109, f110, f111, f112⟩ := hq
            have fx109 : FX KAq h h109 := FX.tr fxx f112
            have k113 := bd_e k108 f111.symm
            have ph114s := (RC.ph f110 (by omega) (by omega) x0.1)
            have ph114c := ph114s.2.1
            have ph114 : PH h.2.1 h109.2.1 := x0.trans ph114s
            have ph114a := ph114.1
            have ph114b := ph114.2.1
            refine go_iload_n (pc := 183) rfl dX8_goes_183 ?_
            exact go_lv rfl (ih.2.2.2 l1 l2 l3 l4 l1 h109 hv109 (by omega) (by omega) (by omega) (by omega) (by omega) (by omega) (by omega) (by omega) (by omega) (by omega) ph114 ⟨⟨ct_lo _ _, ct_hi _ _⟩, (hv109.2.1 70 47)⟩ fx109 k113 (by omega))
        ·
          have k115 := if_f k99 (Int.not_le.mpr q100)
          refine go_aload_n (pc := 124) rfl dX8_goes_124 ?_
          refine gi_getF (pc := 125) (q := 108) hvx fL_X8_124 rfl (Nat.le_of_ble_eq_true rfl) rfl (hvx.rf (by decide)) dX8_goes_125 ?_
          refine go_bipush (pc := 128) (v := 6) (by decide) dX8_goes_128 ?_
          refine go_iload (pc := 130) rfl dX8_goes_130 ?_
          refine gf_imul (pc := 132) (ti_c (v := 6) (a := 6) (by decide)) (ti_rfl l5) (by omega) (by omega) dX8_goes_132 (fun v116 e117 => ?_)
          refine go_iload (pc := 133) rfl dX8_goes_133 ?_
          refine gf_iadd (pc := 135) e117 (ti_rfl l4) (by omega) (by omega) dX8_goes_135 (fun v118 e119 => ?_)
          refine go_bipush (pc := 136) (v := 7) (by decide) dX8_goes_136 ?_
          refine gf_isub (pc := 138) e119 (ti_c (v := 7) (a := 7) (by decide)) (by omega) (by omega) dX8_goes_138 (fun v120 e121 => ?_)
          refine gi_iald (pc := 139) (lo := -2147483648) (hi := 2147483647) (len := 30) hvx e121 rfl (by omega) (by omega) (fun _ => rfl) dX8_goes_139 (fun v122 v122l v122u v122w => ?_)
          have k123 := bd_e k115 (congrArg Int32.toInt v122w.symm)
          refine go_iload (pc := 140) rfl dX8_goes_140 ?_
          refine gx_ishr (pc := 142) dX8_goes_142 (fun v124 v124x => ?_)
          have k125 := bd_e k123 (so_ishr (ti_rfl v122) (ti_rfl l6) v124x)
          refine go_iconst (pc := 143) (v := 1) (by decide) dX8_goes_143 ?_
          refine gx_iand (pc := 144) dX8_goes_144 (fun v126 v126x => ?_)
          have v126l : 0 ≤ v126.toInt := by rw [v126x]; exact (ti_mask (ti_c (v := 1) (a := 1) (by decide)) (by omega)).1
          have v126u : v126.toInt ≤ 1 := by rw [v126x]; exact (ti_mask (ti_c (v := 1) (a := 1) (by decide)) (by omega)).2
          have k127 := bd_e k125 (so_iand (ti_rfl v124) (ti_c (v := 1) (a := 1) (by decide)) v126x)
          refine go_iconst (pc := 145) (v := 1) (by decide) dX8_goes_145 ?_
          refine gf_icmp_ne (pc := 146) (tgt := 162) (ti_rfl v126) (ti_c (v := 1) (a := 1) (by decide)) (by decide) dX8_goes_146 (fun q128 => ?_) (fun q128 => ?_)
          ·
            have k129 := if_t k127 q128
            refine gf_iinc (pc := 162) (Nat.le_of_ble_eq_true rfl) rfl (ti_rfl l6) (ti_c (by decide)) (by omega) (by omega) dX8_goes_162 (fun v130 e131 => ?_)
            refine go_lv (lv2 := [(0, .ref 70), (1, .int l1), (2, .int l2), (3, .int l3), (4, .int l4), (5, .int l5), (6, .int v130)]) rfl ?_
            refine go_goto (pc := 165) (tgt := 117) (by decide) dX8_goes_165 ?_
            have z132 : (v130 : Int32).toInt = (l6.toInt + 1) := e131
            exact go_lv rfl (ih.2.2.1 l1 l2 l3 l4 l5 v130 hx hvx (by omega) (by omega) (by omega) (by omega) (by omega) (by omega) (by omega) (by omega) (by omega) (by omega) (by omega) (by omega) x0 ⟨⟨ct_lo _ _, ct_hi _ _⟩, (hvx.2.1 70 47)⟩ (by omega) (by omega) (by omega) fxx (by rw [show (v130 : Int32).toInt = (l6.toInt + 1) from e131]; exact k129) (by omega))
          ·
            have k133 := if_f k127 (fun z => z q128)
            refine go_aload_n (pc := 149) rfl dX8_goes_149 ?_
            refine go_iload_n (pc := 150) rfl dX8_goes_150 ?_
            refine go_iload (pc := 151) rfl dX8_goes_151 ?_
            refine gf_isub (pc := 153) (ti_rfl l3) (ti_rfl l4) (by omega) (by omega) dX8_goes_153 (fun v134 e135 => ?_)
            refine go_iconst (pc := 154) (v := 1) (by decide) dX8_goes_154 ?_
            refine gf_iadd (pc := 155) e135 (ti_c (v := 1) (a := 1) (by decide)) (by omega) (by omega) dX8_goes_155 (fun v136 e137 => ?_)
            refine go_iload (pc := 156) rfl dX8_goes_156 ?_
            refine gf_iadd (pc := 158) e137 (ti_rfl l6) (by omega) (by omega) dX8_goes_158 (fun v138 e139 => ?_)
            have z140 : (v138 : Int32).toInt = (((l3.toInt - l4.toInt) + 1) + l6.toInt) := e139
            refine go_invV (pc := 159) (sl := 0) (s_X8_reach2_f l (d + 1) hvx v138 (by rw [show (v138 : Int32).toInt = (((l3.toInt - l4.toInt) + 1) + l6.toInt) from e139]; omega) (by rw [show (v138 : Int32).toInt = (((l3.toInt - l4.toInt) + 1) + l6.toInt) from e139]; omega) x0.1) mL_X8_347 iM_X8_reach sM_X8_reach (hvx.sh rfl) rfl rfl rfl (Nat.le_of_ble_eq_true rfl) (show d + 1 + 2 + 1 ≤ d + 4 by omega) (show 8 + (2 + 11) + 40 * (d + 1 + 2) ≤ 40 * (d + 4) by omega) (g_c0 hvx.ln) (Nat.le_of_ble_eq_true rfl) dX8_goes_159 ?_
            intro r h141 hq _
            obtain ⟨rfl, hv141, f142, f143, f144⟩ := hq
            try rw [show (v138 : Int32).toInt = (((l3.toInt - l4.toInt) + 1) + l6.toInt) from e139] at f142
            try rw [show (v138 : Int32).toInt = (((l3.toInt - l4.toInt) + 1) + l6.toInt) from e139] at f143
            try rw [show (v138 : Int32).toInt = (((l3.toInt - l4.toInt) + 1) + l6.toInt) from e139] at f144
            have fx141 : FX KAq h h141 := FX.tr fxx f144
            have k145 := bd_e k133 f143.symm
            have ph146s := (RC.ph f142 (by omega) (by omega) x0.1)
            have ph146c := ph146s.2.1
            have ph146 : PH h.2.1 h141.2.1 := x0.trans ph146s
            have ph146a := ph146.1
            have ph146b := ph146.2.1
            refine gf_iinc (pc := 162) (Nat.le_of_ble_eq_true rfl) rfl (ti_rfl l6) (ti_c (by decide)) (by omega) (by omega) dX8_goes_162 (fun v147 e148 => ?_)
            refine go_lv (lv2 := [(0, .ref 70), (1, .int l1), (2, .int l2), (3, .int l3), (4, .int l4), (5, .int l5), (6, .int v147)]) rfl ?_
            refine go_goto (pc := 165) (tgt := 117) (by decide) dX8_goes_165 ?_
            have z149 : (v147 : Int32).toInt = (l6.toInt + 1) := e148
            exact go_lv rfl (ih.2.2.1 l1 l2 l3 l4 l5 v147 h141 hv141 (by omega) (by omega) (by omega) (by omega) (by omega) (by omega) (by omega) (by omega) (by omega) (by omega) (by omega) (by omega) ph146 ⟨⟨ct_lo _ _, ct_hi _ _⟩, (hv141.2.1 70 47)⟩ (by omega) (by omega) (by omega) fx141 (by rw [show (v147 : Int32).toInt = (l6.toInt + 1) from e148]; exact k145) (by omega))
      ·
        intro l1 l2 l3 l4 s0 hx hvx l1l l1u l2l l2u l3l l3u l4l l4u s0l s0u x0 x1 fxx kL hm
        obtain ⟨u70_47, u70_47w⟩ : ∃ v : Int32, v = hx.2.1 70 47 := ⟨_, rfl⟩
        have u70_47e : (hx.2.1 70 47).toInt = u70_47.toInt := by rw [u70_47w]
        have u70_47l : 0 ≤ u70_47.toInt := by rw [u70_47w]; exact (hvx.2.1 70 47).1
        have u70_47u : u70_47.toInt ≤ 585 := by rw [u70_47w]; exact (hvx.2.1 70 47).2
        rw [f_X8_goes2_] at kL
        replace kL := if_f kL (by decide)
        replace kL := if_f kL (by decide)
        replace kL := if_f kL (by decide)
        have k150 := bd_e kL (congrArg Int32.toInt u70_47w.symm)
        have x0a := x0.1
        have x0b := x0.2.1
        refine gf_if_eq (pc := 184) (tgt := 215) (ti_rfl s0) (by decide) dX8_goes_184 (fun q151 => ?_) (fun q151 => ?_)
        ·
          have k152 := if_t k150 q151
          refine go_goto (pc := 215) (tgt := 0) (by decide) dX8_goes_215 ?_
          exact go_lv rfl (ih.1 l1 l2 hx hvx (by omega) (by omega) (by omega) (by omega) x0 ⟨⟨ct_lo _ _, ct_hi _ _⟩, (hvx.2.1 70 47)⟩ fxx k152 (by omega))
        ·
          have k153 := if_f k150 q151
          refine go_iload_n (pc := 187) rfl dX8_goes_187 ?_
          refine go_sipush (pc := 188) (v := 520) (by decide) dX8_goes_188 ?_
          refine gf_icmp_lt (pc := 191) (tgt := 215) (ti_rfl l3) (ti_c (v := 520) (a := 520) (by decide)) (by decide) dX8_goes_191 (fun q154 => ?_) (fun q154 => ?_)
          ·
            have k155 := if_t k153 q154
            refine go_goto (pc := 215) (tgt := 0) (by decide) dX8_goes_215 ?_
            exact go_lv rfl (ih.1 l1 l2 hx hvx (by omega) (by omega) (by omega) (by omega) x0 ⟨⟨ct_lo _ _, ct_hi _ _⟩, (hvx.2.1 70 47)⟩ fxx k155 (by omega))
          ·
            have k156 := if_f k153 (Int.not_lt.mpr q154)
            refine go_iload (pc := 194) rfl dX8_goes_194 ?_
            refine go_bipush (pc := 196) (v := 7) (by decide) dX8_goes_196 ?_
            refine gf_icmp_ge (pc := 198) (tgt := 215) (ti_rfl l4) (ti_c (v := 7) (a := 7) (by decide)) (by decide) dX8_goes_198 (fun q157 => ?_) (fun q157 => ?_)
            ·
              have k158 := if_t k156 q157
              refine go_goto (pc := 215) (tgt := 0) (by decide) dX8_goes_215 ?_
              exact go_lv rfl (ih.1 l1 l2 hx hvx (by omega) (by omega) (by omega) (by omega) x0 ⟨⟨ct_lo _ _, ct_hi _ _⟩, (hvx.2.1 70 47)⟩ fxx k158 (by omega))
            ·
              have k159 := if_f k156 (Int.not_le.mpr q157)
              refine go_aload_n (pc := 201) rfl dX8_goes_201 ?_
              refine go_iload_n (pc := 202) rfl dX8_goes_202 ?_
              refine go_sipush (pc := 203) (v := 520) (by decide) dX8_goes_203 ?_
              refine gf_isub (pc := 206) (ti_rfl l3) (ti_c (v := 520) (a := 520) (by decide)) (by omega) (by omega) dX8_goes_206 (fun v160 e161 => ?_)
              refine go_bipush (pc := 207) (v := 13) (by decide) dX8_goes_207 ?_
              refine gf_idiv (pc := 209) e161 (ti_c (v := 13) (a := 13) (by decide)) (by omega) (by omega) dX8_goes_209 (fun v162 e163 => ?_)
              refine go_iload (pc := 210) rfl dX8_goes_210 ?_
              refine go_invV (pc := 212) (sl := 0) (s_X8_goesUp2_f l (d + 0) hvx v162 (by rw [show (v162 : Int32).toInt = ((l3.toInt - 520) / 13) from e163]; omega) (by rw [show (v162 : Int32).toInt = ((l3.toInt - 520) / 13) from e163]; omega) l4 (by rw [show (l4 : Int32).toInt = l4.toInt from (ti_rfl l4)]; omega) (by rw [show (l4 : Int32).toInt = l4.toInt from (ti_rfl l4)]; omega) x0.1) mL_X8_353 iM_X8_goesUp sM_X8_goesUp (hvx.sh rfl) rfl rfl rfl (Nat.le_of_ble_eq_true rfl) (show d + 0 + 3 + 1 ≤ d + 4 by omega) (show 8 + (4 + 11) + 40 * (d + 0 + 3) ≤ 40 * (d + 4) by omega) (g_c0 hvx.ln) (Nat.le_of_ble_eq_true rfl) dX8_goes_212 ?_
              intro r h164 hq _
              obtain ⟨rfl, hv164, f165, f166, f167⟩ := hq
              try rw [show (v162 : Int32).toInt = ((l3.toInt - 520) / 13) from e163] at f165
              try rw [show (v162 : Int32).toInt = ((l3.toInt - 520) / 13) from e163] at f166
              try rw [show (v162 : Int32).toInt = ((l3.toInt - 520) / 13) from e163] at f167
              have fx164 : FX KAq h h164 := FX.tr fxx f167
              have k168 := bd_e k159 f166.symm
              have ph169s := f165
              have ph169c := ph169s.2.1
              have ph169 : PH h.2.1 h164.2.1 := x0.trans ph169s
              have ph169a := ph169.1
              have ph169b := ph169.2.1
              refine go_goto (pc := 215) (tgt := 0) (by decide) dX8_goes_215 ?_
              exact go_lv rfl (ih.1 l1 l2 h164 hv164 (by omega) (by omega) (by omega) (by omega) ph169 ⟨⟨ct_lo _ _, ct_hi _ _⟩, (hv164.2.1 70 47)⟩ fx164 k168 (by omega))
  have bgN : 2200001 ≤ BG 2200001 := BG_le _
  have c0 := ct_lo h.2.1 109
  have w0 : WT h.2.1 ≤ 585 := (hv.2.1 70 47).2
  exact go_lv rfl ((key (BG 2200001)).1 a2 a3 h hv (by omega) (by omega) (by omega) (by omega) (PH.rfl hw) ⟨⟨ct_lo _ _, ct_hi _ _⟩, (hv.2.1 70 47)⟩ fx k0 (by omega))
noncomputable def f_X8_goes_ff2_ : Nat → Nat → Int → Int → Int → Int → Int → Int → Int → ST → ST
  | 0, _, _, _, _, _, _, _, _, sx => sx
  | n + 1, lab, l1, l2, l3, l4, l5, l6, s0, sx => if lab = 0 then (bd (sx.1 70 47) fun u70_47 => if u70_47 ≤ 0 then (sx) else (bd (sI sx 70 47 ((u70_47 - 1))) fun s9 => bd (s9.1 110 ((u70_47 - 1)).toNat) fun v12 => f_X8_goes_ff2_ n 30 l1 l2 v12 0 0 0 0 s9)) else if lab = 30 then (bd (sx.1 70 47) fun u70_47 => if 585 ≤ l4 then (if 520 ≤ l3 then (bd (f_X8_isCall_x2 sx l3) fun v29 => if v29 = 0 then (f_X8_goes_ff2_ n 184 l1 l2 l3 (((l3 - 520) % 13)) 0 0 l1 sx) else (if ((l3 - 520) % 13) < 7 then (f_X8_goes_ff2_ n 184 l1 l2 l3 (((l3 - 520) % 13)) 0 0 l1 sx) else (bd (f_X8_item2 sx ((l3 / 13))) fun v44 => bd (sx.1 84 (v44).toNat) fun v46 => f_X8_goes_ff2_ n 117 l1 l2 l3 (((l3 - 520) % 13)) v46 0 0 sx))) else (bd (f_X8_isCall_x2 sx l3) fun v58 => if v58 = 0 then (f_X8_goes_ff2_ n 184 l1 l2 l3 ((l3 % 13)) 0 0 l1 sx) else (if (l3 % 13) < 7 then (f_X8_goes_ff2_ n 184 l1 l2 l3 ((l3 % 13)) 0 0 l1 sx) else (bd (f_X8_item2 sx ((l3 / 13))) fun v73 => bd (sx.1 84 (v73).toNat) fun v75 => f_X8_goes_ff2_ n 117 l1 l2 l3 ((l3 % 13)) v75 0 0 sx)))) else (bd (f_X8_isHung_x2 sx l3 l4) fun v83 => if v83 = 0 then (f_X8_goes_ff2_ n 30 l1 l2 l3 ((l4 + 1)) 0 0 0 sx) else (bd (f_X8_reach2 sx l4) fun s91 => f_X8_goes_ff2_ n 30 l1 l2 l3 ((l4 + 1)) 0 0 0 s91))) else if lab = 117 then (bd (sx.1 70 47) fun u70_47 => if 6 ≤ l6 then (f_X8_goes_ff2_ n 184 l1 l2 l3 l4 0 0 l1 sx) else (bd (sx.1 108 ((((6 * l5) + l4) - 7)).toNat) fun v110 => bd (o_ishr v110 l6) fun v112 => bd (o_iand v112 1) fun v114 => if ¬ v114 = 1 then (f_X8_goes_ff2_ n 117 l1 l2 l3 l4 l5 ((l6 + 1)) 0 sx) else (bd (f_X8_reach2 sx ((((l3 - l4) + 1) + l6))) fun s129 => f_X8_goes_ff2_ n 117 l1 l2 l3 l4 l5 ((l6 + 1)) 0 s129))) else bd (sx.1 70 47) fun u70_47 => f_X8_goes_ff2_ n 0 l1 l2 0 0 0 0 0 sx
noncomputable def f_X8_goes_ff2 (s : ST) (a2 : Int) (a3 : Int) : ST :=
  f_X8_goes_ff2_ (BG 2200001) 0 a2 a3 0 0 0 0 0 s
set_option maxHeartbeats 4000000 in
set_option maxRecDepth 100000 in
theorem s_X8_goes_ff2_f (l : Launch) (d : Nat) {P : PP} {h : HP} (hv : Iv P h) (a2 : Int32) (a2l : 0 ≤ a2.toInt) (a2u : a2.toInt ≤ 0) (a3 : Int32) (a3l : 0 ≤ a3.toInt) (a3u : a3.toInt ≤ 0) (hw : WT h.2.1 ≤ ct h.2.1 109) (ckf : CKF h.2.1) (hq : FC h.2.1 h.2.1 (h.2.1 70 6).toInt (-1) ∧ FR h.2.1) : Mt l yX8_goes cX8_goes 7 none (d + 4) [.ref 70, .int a2, .int a3] h 0 0 (fun r h' => r = none ∧ Iv P h' ∧ (GF h.2.1 h'.2.1 (h.2.1 70 6).toInt) ∧ (st h' = f_X8_goes_ff2 (st h) a2.toInt a3.toInt) ∧ (FX KAq h h')) := by
  refine Mt_iv hv (by decide) (Nat.le_of_ble_eq_true rfl) ?_
  show Go l RX8 cX8_goes 7 (g_rm (d + 4) 0 0) "goes" none 117 0 0 (fun _ _ => True) (fun r h' => r = none ∧ Iv P h' ∧ (GF h.2.1 h'.2.1 (h.2.1 70 6).toInt) ∧ (st h' = f_X8_goes_ff2 (st h) a2.toInt a3.toInt) ∧ (FX KAq h h')) 0 0 [(0, .ref 70), (1, .int a2), (2, .int a3)] [] h
  obtain ⟨S, hS⟩ : ∃ S : Int, S = (h.2.1 70 6).toInt := ⟨_, rfl⟩
  have S0 : 0 ≤ S := by rw [hS]; exact (hv.2.1 70 6).1
  have S1 : S ≤ 1 := by rw [hS]; exact (hv.2.1 70 6).2
  rw [← hS] at hq
  have fx : FX KAq h h := FX.rfl
  obtain ⟨fin, kf⟩ : ∃ z, z = f_X8_goes_ff2 (st h) a2.toInt a3.toInt := ⟨_, _root_.rfl⟩
  have k0 := kf
  unfold f_X8_goes_ff2 at k0
  have key : ∀ n : Nat, (∀ (l1 : Int32) (l2 : Int32) (hx : HP), Iv P hx → 0 ≤ l1.toInt → l1.toInt ≤ 0 → 0 ≤ l2.toInt → l2.toInt ≤ 0 → (GQ h.2.1 hx.2.1 S (-1)) → ((0 ≤ ct hx.2.1 109 ∧ ct hx.2.1 109 ≤ 585) ∧ 0 ≤ WT hx.2.1 ∧ WT hx.2.1 ≤ 585) → FX KAq h hx → fin = f_X8_goes_ff2_ n 0 l1.toInt l2.toInt 0 0 0 0 0 (st hx) → (1200 * (2 * (585 - ct hx.2.1 109) + WT hx.2.1) : Int) < n → Go l RX8 cX8_goes 7 (g_rm (d + 4) 0 0) "goes" none 117 0 0 (fun _ _ => True) (fun r h' => r = none ∧ Iv P h' ∧ (GF h.2.1 h'.2.1 (h.2.1 70 6).toInt) ∧ (st h' = f_X8_goes_ff2 (st h) a2.toInt a3.toInt) ∧ (FX KAq h h')) 0 0 [(0, .ref 70), (1, .int l1), (2, .int l2)] [] hx) ∧ (∀ (l1 : Int32) (l2 : Int32) (l3 : Int32) (l4 : Int32) (hx : HP), Iv P hx → 0 ≤ l1.toInt → l1.toInt ≤ 0 → 0 ≤ l2.toInt → l2.toInt ≤ 0 → 0 ≤ l3.toInt → l3.toInt ≤ 584 → 0 ≤ l4.toInt → l4.toInt ≤ 585 → (GQ h.2.1 hx.2.1 S l3.toInt) → ((0 ≤ ct hx.2.1 109 ∧ ct hx.2.1 109 ≤ 585) ∧ 0 ≤ WT hx.2.1 ∧ WT hx.2.1 ≤ 585) → (sb hx.2.1 109 l3.toInt) → (∀ x : Int, 0 ≤ x → x < l4.toInt → hb h.2.1 l3.toInt x → sb hx.2.1 109 x) → FX KAq h hx → fin = f_X8_goes_ff2_ n 30 l1.toInt l2.toInt l3.toInt l4.toInt 0 0 0 (st hx) → (1200 * (2 * (585 - ct hx.2.1 109) + WT hx.2.1) + 100 + (585 - l4.toInt) : Int) < n → Go l RX8 cX8_goes 7 (g_rm (d + 4) 0 0) "goes" none 117 0 0 (fun _ _ => True) (fun r h' => r = none ∧ Iv P h' ∧ (GF h.2.1 h'.2.1 (h.2.1 70 6).toInt) ∧ (st h' = f_X8_goes_ff2 (st h) a2.toInt a3.toInt) ∧ (FX KAq h h')) 0 30 [(0, .ref 70), (1, .int l1), (2, .int l2), (3, .int l3), (4, .int l4)] [] hx) ∧ (∀ (l1 : Int32) (l2 : Int32) (l3 : Int32) (l4 : Int32) (l5 : Int32) (l6 : Int32) (hx : HP), Iv P hx → 0 ≤ l1.toInt → l1.toInt ≤ 0 → 0 ≤ l2.toInt → l2.toInt ≤ 0 → 0 ≤ l3.toInt → l3.toInt ≤ 584 → 7 ≤ l4.toInt → l4.toInt ≤ 12 → 0 ≤ l5.toInt → l5.toInt ≤ 4 → 0 ≤ l6.toInt → l6.toInt ≤ 6 → (GQ h.2.1 hx.2.1 S l3.toInt) → ((0 ≤ ct hx.2.1 109 ∧ ct hx.2.1 109 ≤ 585) ∧ 0 ≤ WT hx.2.1 ∧ WT hx.2.1 ≤ 585) → (sb hx.2.1 109 l3.toInt) → (∀ x : Int, 0 ≤ x → x < 585 → hb h.2.1 l3.toInt x → sb hx.2.1 109 x) → (l4.toInt = l3.toInt % 13) → (l3.toInt < 520) → (7 ≤ l4.toInt) → (l3.toInt / 13 < V h.2.1 75 S ∧ V h.2.1 77 (V h.2.1 93 (40 * S + l3.toInt / 13)) = 1) → (l5.toInt = V h.2.1 84 (V h.2.1 93 (40 * S + l3.toInt / 13))) → (∀ i : Int, 0 ≤ i → i < l6.toInt → tb h.2.1 (6 * l5.toInt + l4.toInt - 7) i → sb hx.2.1 109 (l3.toInt - l4.toInt + 1 + i)) → FX KAq h hx → fin = f_X8_goes_ff2_ n 117 l1.toInt l2.toInt l3.toInt l4.toInt l5.toInt l6.toInt 0 (st hx) → (1200 * (2 * (585 - ct hx.2.1 109) + WT hx.2.1) + 50 + (6 - l6.toInt) : Int) < n → Go l RX8 cX8_goes 7 (g_rm (d + 4) 0 0) "goes" none 117 0 0 (fun _ _ => True) (fun r h' => r = none ∧ Iv P h' ∧ (GF h.2.1 h'.2.1 (h.2.1 70 6).toInt) ∧ (st h' = f_X8_goes_ff2 (st h) a2.toInt a3.toInt) ∧ (FX KAq h h')) 0 117 [(0, .ref 70), (1, .int l1), (2, .int l2), (3, .int l3), (4, .int l4), (5, .int l5), (6, .int l6)] [] hx) ∧ (∀ (l1 : Int32) (l2 : Int32) (l3 : Int32) (l4 : Int32) (s0 : Int32) (hx : HP), Iv P hx → 0 ≤ l1.toInt → l1.toInt ≤ 0 → 0 ≤ l2.toInt → l2.toInt ≤ 0 → 0 ≤ l3.toInt → l3.toInt ≤ 584 → 0 ≤ l4.toInt → l4.toInt ≤ 12 → 0 ≤ s0.toInt → s0.toInt ≤ 0 → (GQ h.2.1 hx.2.1 S l3.toInt) → ((0 ≤ ct hx.2.1 109 ∧ ct hx.2.1 109 ≤ 585) ∧ 0 ≤ WT hx.2.1 ∧ WT hx.2.1 ≤ 585) → (∀ x : Int, 0 ≤ x → x < 585 → E0 h.2.1 S l3.toInt x → sb hx.2.1 109 x) → FX KAq h hx → fin = f_X8_goes_ff2_ n 184 l1.toInt l2.toInt l3.toInt l4.toInt 0 0 s0.toInt (st hx) → (1200 * (2 * (585 - ct hx.2.1 109) + WT hx.2.1) + 10 : Int) < n → Go l RX8 cX8_goes 7 (g_rm (d + 4) 0 0) "goes" none 117 0 0 (fun _ _ => True) (fun r h' => r = none ∧ Iv P h' ∧ (GF h.2.1 h'.2.1 (h.2.1 70 6).toInt) ∧ (st h' = f_X8_goes_ff2 (st h) a2.toInt a3.toInt) ∧ (FX KAq h h')) 0 184 [(0, .ref 70), (1, .int l1), (2, .int l2), (3, .int l3), (4, .int l4)] [.int s0] hx) := by
    intro n
    induction n with
    | zero => exact ⟨(by intros; omega), (by intros; omega), (by intros; omega), (by intros; omega)⟩
    | succ n ih =>
      refine ⟨?_, ?_, ?_, ?_⟩
      ·
        intro l1 l2 hx hvx l1l l1u l2l l2u x0 x1 fxx kL hm
        obtain ⟨u70_47, u70_47w⟩ : ∃ v : Int32, v = hx.2.1 70 47 := ⟨_, rfl⟩
        have u70_47e : (hx.2.1 70 47).toInt = u70_47.toInt := by rw [u70_47w]
        have u70_47l : 0 ≤ u70_47.toInt := by rw [u70_47w]; exact (hvx.2.1 70 47).1
        have u70_47u : u70_47.toInt ≤ 585 := by rw [u70_47w]; exact (hvx.2.1 70 47).2
        rw [f_X8_goes_ff2_] at kL
        replace kL := if_t kL _root_.rfl
        have k1 := bd_e kL (congrArg Int32.toInt u70_47w.symm)
        have x0a := x0.1.1
        have x0b := x0.1.2.1
        have hwt : (hx.2.1 70 47).toInt = WT hx.2.1 := rfl
        refine go_aload_n (pc := 0) rfl dX8_goes_0 ?_
        refine gi_get (pc := 1) (lo := 0) (hi := 585) hvx fL_X8_344 rfl (Nat.le_of_ble_eq_true rfl) rfl rfl dX8_goes_1 (fun v2 v2l v2u v2w => ?_)
        have v2r : u70_47 = hx.2.1 70 47 := u70_47w
        have v2q : TI v2 u70_47.toInt := by rw [v2w.trans v2r.symm]; exact (ti_rfl u70_47)
        refine gf_if_le (pc := 4) (tgt := 218) v2q (by decide) dX8_goes_4 (fun q3 => ?_) (fun q3 => ?_)
        ·
          have k4 := if_t k1 q3
          exact gi_vret (pc := 218) ⟨rfl, hvx, (by rw [← hS]; exact ⟨x0.2.1, GQ.fin x0 (by omega), x0.1.2.2.1, x0.1.2.2.2⟩), (k4.symm.trans kf), fxx⟩ hvx dX8_goes_218
        ·
          have k5 := if_f k1 (Int.not_le.mpr q3)
          refine go_aload_n (pc := 7) rfl dX8_goes_7 ?_
          refine go_dup (pc := 8) rfl dX8_goes_8 ?_
          refine gi_get (pc := 9) (lo := 0) (hi := 585) hvx fL_X8_344 rfl (Nat.le_of_ble_eq_true rfl) rfl rfl dX8_goes_9 (fun v6 v6l v6u v6w => ?_)
          have v6r : u70_47 = hx.2.1 70 47 := u70_47w
          have v6q : TI v6 u70_47.toInt := by rw [v6w.trans v6r.symm]; exact (ti_rfl u70_47)
          refine go_iconst (pc := 12) (v := 1) (by decide) dX8_goes_12 ?_
          refine gf_isub (pc := 13) v6q (ti_c (v := 1) (a := 1) (by decide)) (by omega) (by omega) dX8_goes_13 (fun v7 e8 => ?_)
          refine gi_put (pc := 14) (lo := 0) (hi := 585) hvx e8 (fP_X8_344 _) rfl (Nat.le_of_ble_eq_true rfl) rfl rfl (by omega) (by omega) rfl rfl (by decide) (by decide) (by decide) (by decide) dX8_goes_14 (fun h9 hv9 hv9e => ?_)
          have fx9 : FX KAq h h9 := FX.pI fxx hv9e (by unfold KAq; omega)
          have k10 := bd_e k5 (st_I hv9e e8)
          have pop := GQ.pop (z := v7) x0 (by rw [show (v7 : Int32).toInt = (u70_47.toInt - 1) from e8]; omega) (by omega)
          have pop0 := PH.pop (F := hx.2.1) (z := v7) x0.1.1 (by rw [show (v7 : Int32).toInt = (u70_47.toInt - 1) from e8]; omega)
          have eh : h9.2.1 = (fun p q => if p = 70 ∧ q = 47 then v7 else hx.2.1 p q) := by rw [hv9e]; rfl
          rw [← eh] at pop pop0
          have pop1 := pop0.2.1
          have pop2 := pop0.2.2
          refine go_aload_n (pc := 17) rfl dX8_goes_17 ?_
          refine gi_getF (pc := 18) (q := 110) hv9 fL_X8_130 rfl (Nat.le_of_ble_eq_true rfl) rfl (hv9.rf (by decide)) dX8_goes_18 ?_
          refine go_aload_n (pc := 21) rfl dX8_goes_21 ?_
          refine gi_get (pc := 22) (lo := 0) (hi := 585) hv9 fL_X8_344 rfl (Nat.le_of_ble_eq_true rfl) rfl rfl dX8_goes_22 (fun v11 v11l v11u v11w => ?_)
          have v11r : v7 = h9.2.1 70 47 := (show v7 = h9.2.1 70 47 from by rw [hv9e]; exact g_iS.symm)
          have v11q : TI v11 ((u70_47.toInt - 1)) := by rw [v11w.trans v11r.symm]; exact e8
          refine gi_iald (pc := 25) (lo := 0) (hi := 584) (len := 585) hv9 v11q rfl (by omega) (by omega) (fun _ => rfl) dX8_goes_25 (fun v12 v12l v12u v12w => ?_)
          have k13 := bd_e k10 (congrArg Int32.toInt v12w.symm)
          have ey : v12.toInt = V hx.2.1 110 (WT hx.2.1 - 1) := by rw [v12w, eh]; show (if 110 = 70 ∧ _ then _ else hx.2.1 110 _).toInt = _; rw [if_neg (by omega), ← u70_47e]; rfl
          rw [← ey] at pop
          refine go_istore_n (pc := 26) (Nat.le_of_ble_eq_true rfl) dX8_goes_26 (go_lv (lv2 := [(0, .ref 70), (1, .int l1), (2, .int l2), (3, .int v12)]) rfl ?_)
          refine go_iconst (pc := 27) (v := 0) (by decide) dX8_goes_27 ?_
          refine go_istore (pc := 28) (Nat.le_of_ble_eq_true rfl) dX8_goes_28 (go_lv (lv2 := [(0, .ref 70), (1, .int l1), (2, .int l2), (3, .int v12), (4, .int 0)]) rfl ?_)
          have z14 : (0 : Int32).toInt = 0 := (ti_c (v := 0) (a := 0) (by decide))
          exact go_lv rfl (ih.2.1 l1 l2 v12 0 h9 hv9 (by omega) (by omega) (by omega) (by omega) (by omega) (by omega) (by omega) (by omega) pop.1 ⟨⟨ct_lo _ _, ct_hi _ _⟩, (hv9.2.1 70 47)⟩ pop.2 (fun x a b => absurd b (by omega)) fx9 (by rw [show (0 : Int32).toInt = 0 from (ti_c (v := 0) (a := 0) (by decide))]; exact k13) (by omega))
      ·
        intro l1 l2 l3 l4 hx hvx l1l l1u l2l l2u l3l l3u l4l l4u x0 x1 x2 x3 fxx kL hm
        obtain ⟨u70_47, u70_47w⟩ : ∃ v : Int32, v = hx.2.1 70 47 := ⟨_, rfl⟩
        have u70_47e : (hx.2.1 70 47).toInt = u70_47.toInt := by rw [u70_47w]
        have u70_47l : 0 ≤ u70_47.toInt := by rw [u70_47w]; exact (hvx.2.1 70 47).1
        have u70_47u : u70_47.toInt ≤ 585 := by rw [u70_47w]; exact (hvx.2.1 70 47).2
        rw [f_X8_goes_ff2_] at kL
        replace kL := if_f kL (by decide)
        replace kL := if_t kL _root_.rfl
        have k15 := bd_e kL (congrArg Int32.toInt u70_47w.symm)
        have x0a := x0.1.1
        have x0b := x0.1.2.1
        refine go_iload (pc := 30) rfl dX8_goes_30 ?_
        refine go_sipush (pc := 32) (v := 585) (by decide) dX8_goes_32 ?_
        refine gf_icmp_ge (pc := 35) (tgt := 60) (ti_rfl l4) (ti_c (v := 585) (a := 585) (by decide)) (by decide) dX8_goes_35 (fun q16 => ?_) (fun q16 => ?_)
        ·
          have k17 := if_t k15 q16
          refine go_iload_n (pc := 60) rfl dX8_goes_60 ?_
          refine go_sipush (pc := 61) (v := 520) (by decide) dX8_goes_61 ?_
          refine gf_icmp_ge (pc := 64) (tgt := 74) (ti_rfl l3) (ti_c (v := 520) (a := 520) (by decide)) (by decide) dX8_goes_64 (fun q18 => ?_) (fun q18 => ?_)
          ·
            have k19 := if_t k17 q18
            refine go_iload_n (pc := 74) rfl dX8_goes_74 ?_
            refine go_sipush (pc := 75) (v := 520) (by decide) dX8_goes_75 ?_
            refine gf_isub (pc := 78) (ti_rfl l3) (ti_c (v := 520) (a := 520) (by decide)) (by omega) (by omega) dX8_goes_78 (fun v20 e21 => ?_)
            refine go_bipush (pc := 79) (v := 13) (by decide) dX8_goes_79 ?_
            refine gf_irem (pc := 81) e21 (ti_c (v := 13) (a := 13) (by decide)) (by omega) (by omega) dX8_goes_81 (fun v22 e23 => ?_)
            have z24 : (v22 : Int32).toInt = ((l3.toInt - 520) % 13) := e23
            refine go_istore (pc := 82) (Nat.le_of_ble_eq_true rfl) dX8_goes_82 (go_lv (lv2 := [(0, .ref 70), (1, .int l1), (2, .int l2), (3, .int l3), (4, .int v22)]) rfl ?_)
            refine go_aload_n (pc := 84) rfl dX8_goes_84 ?_
            refine go_iload_n (pc := 85) rfl dX8_goes_85 ?_
            have sM25 : (hx.2.1 70 6).toInt = S := by rw [hvx.fy (j := 6) (by omega), ← hv.fy (j := 6) (by omega)]; exact hS.symm
            refine go_invV (pc := 86) (sl := 0) (s_X8_isCall_x2_f l (d + 0) hvx l3 (by rw [show (l3 : Int32).toInt = l3.toInt from (ti_rfl l3)]; omega) (by rw [show (l3 : Int32).toInt = l3.toInt from (ti_rfl l3)]; omega)) mL_X8_350 iM_X8_isCall sM_X8_isCall (hvx.sh rfl) rfl rfl rfl (Nat.le_of_ble_eq_true rfl) (show d + 0 + 3 + 1 ≤ d + 4 by omega) (show 8 + (2 + 11) + 40 * (d + 0 + 3) ≤ 40 * (d + 4) by omega) (g_c0 hvx.ln) (Nat.le_of_ble_eq_true rfl) dX8_goes_86 ?_
            intro r h26 hq _
            obtain ⟨v29, rfl, v29l, v29u, rfl, f27, f28⟩ := hq
            rw [sM25] at f27
            replace f28 : PE _ _ := f28
            have k30 := bd_e k19 f28.symm
            have icf := f27
            rw [VE.v (VE.of hv hvx) (c := 75) (by omega) (by omega), VE.v (VE.of hv hvx) (c := 77) (by omega) (by omega), VE.v (VE.of hv hvx) (c := 93) (by omega) (by omega)] at icf
            refine gf_if_eq (pc := 89) (tgt := 183) (ti_rfl v29) (by decide) dX8_goes_89 (fun q31 => ?_) (fun q31 => ?_)
            ·
              have k32 := if_t k30 q31
              refine go_iload_n (pc := 183) rfl dX8_goes_183 ?_
              have z33 : (v22 : Int32).toInt = ((l3.toInt - 520) % 13) := e23
              exact go_lv rfl (ih.2.2.2 l1 l2 l3 v22 l1 hx hvx (by omega) (by omega) (by omega) (by omega) (by omega) (by omega) (by omega) (by omega) (by omega) (by omega) x0 ⟨⟨ct_lo _ _, ct_hi _ _⟩, (hvx.2.1 70 47)⟩ (fun x a b e => by rcases e with e | ⟨e1, e2, e3, e4, _⟩; (exact x3 x a (by omega) e); (exact absurd e4 (by first | omega | exact fun _ => (icf.2 (by omega)) ⟨e1, e2, e3⟩))) fxx (by rw [show (v22 : Int32).toInt = ((l3.toInt - 520) % 13) from e23]; exact k32) (by omega))
            ·
              have k34 := if_f k30 q31
              refine go_iload (pc := 92) rfl dX8_goes_92 ?_
              refine go_bipush (pc := 94) (v := 7) (by decide) dX8_goes_94 ?_
              refine gf_icmp_lt (pc := 96) (tgt := 183) e23 (ti_c (v := 7) (a := 7) (by decide)) (by decide) dX8_goes_96 (fun q35 => ?_) (fun q35 => ?_)
              ·
                have k36 := if_t k34 q35
                refine go_iload_n (pc := 183) rfl dX8_goes_183 ?_
                have z37 : (v22 : Int32).toInt = ((l3.toInt - 520) % 13) := e23
                exact go_lv rfl (ih.2.2.2 l1 l2 l3 v22 l1 hx hvx (by omega) (by omega) (by omega) (by omega) (by omega) (by omega) (by omega) (by omega) (by omega) (by omega) x0 ⟨⟨ct_lo _ _, ct_hi _ _⟩, (hvx.2.1 70 47)⟩ (fun x a b e => by rcases e with e | ⟨e1, e2, e3, e4, _⟩; (exact x3 x a (by omega) e); (exact absurd e4 (by first | omega | exact fun _ => (icf.2 (by omega)) ⟨e1, e2, e3⟩))) fxx (by rw [show (v22 : Int32).toInt = ((l3.toInt - 520) % 13) from e23]; exact k36) (by omega))
              ·
                have k38 := if_f k34 (Int.not_lt.mpr q35)
                refine go_aload_n (pc := 99) rfl dX8_goes_99 ?_
                refine gi_getF (pc := 100) (q := 84) hvx fL_X8_50 rfl (Nat.le_of_ble_eq_true rfl) rfl (hvx.rf (by decide)) dX8_goes_100 ?_
                refine go_aload_n (pc := 103) rfl dX8_goes_103 ?_
                refine go_iload_n (pc := 104) rfl dX8_goes_104 ?_
                refine go_bipush (pc := 105) (v := 13) (by decide) dX8_goes_105 ?_
                refine gf_idiv (pc := 107) (ti_rfl l3) (ti_c (v := 13) (a := 13) (by decide)) (by omega) (by omega) dX8_goes_107 (fun v39 e40 => ?_)
                refine go_invV (pc := 108) (sl := 0) (s_X8_item2_f l (d + 2) hvx v39 (by rw [show (v39 : Int32).toInt = (l3.toInt / 13) from e40]; omega) (by rw [show (v39 : Int32).toInt = (l3.toInt / 13) from e40]; omega)) mL_X8_268 iM_X8_item sM_X8_item (hvx.sh rfl) rfl rfl rfl (Nat.le_of_ble_eq_true rfl) (show d + 2 + 1 + 1 ≤ d + 4 by omega) (show 8 + (2 + 11) + 40 * (d + 2 + 1) ≤ 40 * (d + 4) by omega) (g_c0 hvx.ln) (Nat.le_of_ble_eq_true rfl) dX8_goes_108 ?_
                intro r h41 hq _
                obtain ⟨v44, rfl, v44l, v44u, rfl, f42, f43⟩ := hq
                have v44K : v44.toInt = V h.2.1 93 (40 * S + (l3.toInt / 13)) := by rw [f42]; unfold g_it; rw [show (v39 : Int32).toInt = (l3.toInt / 13) from e40, hvx.fy (j := 6) (by omega), ← hv.fy (j := 6) (by omega), ← hS, hvx.fz (c := 93) (by omega) (by omega), ← hv.fz (c := 93) (by omega) (by omega)]; rfl
                try rw [show (v39 : Int32).toInt = (l3.toInt / 13) from e40] at f42
                try rw [show (v39 : Int32).toInt = (l3.toInt / 13) from e40] at f43
                replace f43 : PE _ _ := f43
                have k45 := bd_e k38 f43.symm
                refine gi_iald (pc := 111) (lo := -2) (hi := 4) (len := 260) hvx (ti_rfl v44) rfl (by omega) (by omega) (fun _ => rfl) dX8_goes_111 (fun v46 v46l v46u v46w => ?_)
                have k47 := bd_e k45 (congrArg Int32.toInt v46w.symm)
                have v46V : v46.toInt = V h.2.1 84 v44.toInt := by rw [v46w, hvx.fz (c := 84) (by omega) (by omega), ← hv.fz (c := 84) (by omega) (by omega)]; rfl
                have ic := icf.1 (by omega)
                have kk : 0 ≤ v46.toInt := by
                  rw [v46w]
                  refine (KS.ckf x0.1.2.2.2 ckf) _ ?_
                  have e : V h.2.1 77 v44.toInt = 1 := by rw [v44K]; exact ic.2.2
                  rw [← x0.1.2.2.2.ve.v (c := 77) (by omega) (by omega)] at e
                  exact e
                refine go_istore (pc := 112) (Nat.le_of_ble_eq_true rfl) dX8_goes_112 (go_lv (lv2 := [(0, .ref 70), (1, .int l1), (2, .int l2), (3, .int l3), (4, .int v22), (5, .int v46)]) rfl ?_)
                refine go_iconst (pc := 114) (v := 0) (by decide) dX8_goes_114 ?_
                refine go_istore (pc := 115) (Nat.le_of_ble_eq_true rfl) dX8_goes_115 (go_lv (lv2 := [(0, .ref 70), (1, .int l1), (2, .int l2), (3, .int l3), (4, .int v22), (5, .int v46), (6, .int 0)]) rfl ?_)
                have z48 : (v22 : Int32).toInt = ((l3.toInt - 520) % 13) := e23
                have z49 : (0 : Int32).toInt = 0 := (ti_c (v := 0) (a := 0) (by decide))
                exact go_lv rfl (ih.2.2.1 l1 l2 l3 v22 v46 0 hx hvx (by omega) (by omega) (by omega) (by omega) (by omega) (by omega) (by omega) (by omega) (by omega) (by omega) (by omega) (by omega) x0 ⟨⟨ct_lo _ _, ct_hi _ _⟩, (hvx.2.1 70 47)⟩ x2 (fun x a b q => x3 x a (by omega) q) (by omega) (by omega) (by omega) ic.2 (by rw [v46V, v44K]) (fun i a b => absurd b (by omega)) fxx (by rw [show (v22 : Int32).toInt = ((l3.toInt - 520) % 13) from e23, show (0 : Int32).toInt = 0 from (ti_c (v := 0) (a := 0) (by decide))]; exact k47) (by omega))
          ·
            have k50 := if_f k17 (Int.not_le.mpr q18)
            refine go_iload_n (pc := 67) rfl dX8_goes_67 ?_
            refine go_bipush (pc := 68) (v := 13) (by decide) dX8_goes_68 ?_
            refine gf_irem (pc := 70) (ti_rfl l3) (ti_c (v := 13) (a := 13) (by decide)) (by omega) (by omega) dX8_goes_70 (fun v51 e52 => ?_)
            refine go_goto (pc := 71) (tgt := 82) (by decide) dX8_goes_71 ?_
            have z53 : (v51 : Int32).toInt = (l3.toInt % 13) := e52
            refine go_istore (pc := 82) (Nat.le_of_ble_eq_true rfl) dX8_goes_82 (go_lv (lv2 := [(0, .ref 70), (1, .int l1), (2, .int l2), (3, .int l3), (4, .int v51)]) rfl ?_)
            refine go_aload_n (pc := 84) rfl dX8_goes_84 ?_
            refine go_iload_n (pc := 85) rfl dX8_goes_85 ?_
            have sM54 : (hx.2.1 70 6).toInt = S := by rw [hvx.fy (j := 6) (by omega), ← hv.fy (j := 6) (by omega)]; exact hS.symm
            refine go_invV (pc := 86) (sl := 0) (s_X8_isCall_x2_f l (d + 0) hvx l3 (by rw [show (l3 : Int32).toInt = l3.toInt from (ti_rfl l3)]; omega) (by rw [show (l3 : Int32).toInt = l3.toInt from (ti_rfl l3)]; omega)) mL_X8_350 iM_X8_isCall sM_X8_isCall (hvx.sh rfl) rfl rfl rfl (Nat.le_of_ble_eq_true rfl) (show d + 0 + 3 + 1 ≤ d + 4 by omega) (show 8 + (2 + 11) + 40 * (d + 0 + 3) ≤ 40 * (d + 4) by omega) (g_c0 hvx.ln) (Nat.le_of_ble_eq_true rfl) dX8_goes_86 ?_
            intro r h55 hq _
            obtain ⟨v58, rfl, v58l, v58u, rfl, f56, f57⟩ := hq
            rw [sM54] at f56
            replace f57 : PE _ _ := f57
            have k59 := bd_e k50 f57.symm
            have icf := f56
            rw [VE.v (VE.of hv hvx) (c := 75) (by omega) (by omega), VE.v (VE.of hv hvx) (c := 77) (by omega) (by omega), VE.v (VE.of hv hvx) (c := 93) (by omega) (by omega)] at icf
            refine gf_if_eq (pc := 89) (tgt := 183) (ti_rfl v58) (by decide) dX8_goes_89 (fun q60 => ?_) (fun q60 => ?_)
            ·
              have k61 := if_t k59 q60
              refine go_iload_n (pc := 183) rfl dX8_goes_183 ?_
              have z62 : (v51 : Int32).toInt = (l3.toInt % 13) := e52
              exact go_lv rfl (ih.2.2.2 l1 l2 l3 v51 l1 hx hvx (by omega) (by omega) (by omega) (by omega) (by omega) (by omega) (by omega) (by omega) (by omega) (by omega) x0 ⟨⟨ct_lo _ _, ct_hi _ _⟩, (hvx.2.1 70 47)⟩ (fun x a b e => by rcases e with e | ⟨e1, e2, e3, e4, _⟩; (exact x3 x a (by omega) e); (exact absurd e4 (by first | omega | exact fun _ => (icf.2 (by omega)) ⟨e1, e2, e3⟩))) fxx (by rw [show (v51 : Int32).toInt = (l3.toInt % 13) from e52]; exact k61) (by omega))
            ·
              have k63 := if_f k59 q60
              refine go_iload (pc := 92) rfl dX8_goes_92 ?_
              refine go_bipush (pc := 94) (v := 7) (by decide) dX8_goes_94 ?_
              refine gf_icmp_lt (pc := 96) (tgt := 183) e52 (ti_c (v := 7) (a := 7) (by decide)) (by decide) dX8_goes_96 (fun q64 => ?_) (fun q64 => ?_)
              ·
                have k65 := if_t k63 q64
                refine go_iload_n (pc := 183) rfl dX8_goes_183 ?_
                have z66 : (v51 : Int32).toInt = (l3.toInt % 13) := e52
                exact go_lv rfl (ih.2.2.2 l1 l2 l3 v51 l1 hx hvx (by omega) (by omega) (by omega) (by omega) (by omega) (by omega) (by omega) (by omega) (by omega) (by omega) x0 ⟨⟨ct_lo _ _, ct_hi _ _⟩, (hvx.2.1 70 47)⟩ (fun x a b e => by rcases e with e | ⟨e1, e2, e3, e4, _⟩; (exact x3 x a (by omega) e); (exact absurd e4 (by first | omega | exact fun _ => (icf.2 (by omega)) ⟨e1, e2, e3⟩))) fxx (by rw [show (v51 : Int32).toInt = (l3.toInt % 13) from e52]; exact k65) (by omega))
              ·
                have k67 := if_f k63 (Int.not_lt.mpr q64)
                refine go_aload_n (pc := 99) rfl dX8_goes_99 ?_
                refine gi_getF (pc := 100) (q := 84) hvx fL_X8_50 rfl (Nat.le_of_ble_eq_true rfl) rfl (hvx.rf (by decide)) dX8_goes_100 ?_
                refine go_aload_n (pc := 103) rfl dX8_goes_103 ?_
                refine go_iload_n (pc := 104) rfl dX8_goes_104 ?_
                refine go_bipush (pc := 105) (v := 13) (by decide) dX8_goes_105 ?_
                refine gf_idiv (pc := 107) (ti_rfl l3) (ti_c (v := 13) (a := 13) (by decide)) (by omega) (by omega) dX8_goes_107 (fun v68 e69 => ?_)
                refine go_invV (pc := 108) (sl := 0) (s_X8_item2_f l (d + 2) hvx v68 (by rw [show (v68 : Int32).toInt = (l3.toInt / 13) from e69]; omega) (by rw [show (v68 : Int32).toInt = (l3.toInt / 13) from e69]; omega)) mL_X8_268 iM_X8_item sM_X8_item (hvx.sh rfl) rfl rfl rfl (Nat.le_of_ble_eq_true rfl) (show d + 2 + 1 + 1 ≤ d + 4 by omega) (show 8 + (2 + 11) + 40 * (d + 2 + 1) ≤ 40 * (d + 4) by omega) (g_c0 hvx.ln) (Nat.le_of_ble_eq_true rfl) dX8_goes_108 ?_
                intro r h70 hq _
                obtain ⟨v73, rfl, v73l, v73u, rfl, f71, f72⟩ := hq
                have v73K : v73.toInt = V h.2.1 93 (40 * S + (l3.toInt / 13)) := by rw [f71]; unfold g_it; rw [show (v68 : Int32).toInt = (l3.toInt / 13) from e69, hvx.fy (j := 6) (by omega), ← hv.fy (j := 6) (by omega), ← hS, hvx.fz (c := 93) (by omega) (by omega), ← hv.fz (c := 93) (by omega) (by omega)]; rfl
                try rw [show (v68 : Int32).toInt = (l3.toInt / 13) from e69] at f71
                try rw [show (v68 : Int32).toInt = (l3.toInt / 13) from e69] at f72
                replace f72 : PE _ _ := f72
                have k74 := bd_e k67 f72.symm
                refine gi_iald (pc := 111) (lo := -2) (hi := 4) (len := 260) hvx (ti_rfl v73) rfl (by omega) (by omega) (fun _ => rfl) dX8_goes_111 (fun v75 v75l v75u v75w => ?_)
                have k76 := bd_e k74 (congrArg Int32.toInt v75w.symm)
                have v75V : v75.toInt = V h.2.1 84 v73.toInt := by rw [v75w, hvx.fz (c := 84) (by omega) (by omega), ← hv.fz (c := 84) (by omega) (by omega)]; rfl
                have ic := icf.1 (by omega)
                have kk : 0 ≤ v75.toInt := by
                  rw [v75w]
                  refine (KS.ckf x0.1.2.2.2 ckf) _ ?_
                  have e : V h.2.1 77 v73.toInt = 1 := by rw [v73K]; exact ic.2.2
                  rw [← x0.1.2.2.2.ve.v (c := 77) (by omega) (by omega)] at e
                  exact e
                refine go_istore (pc := 112) (Nat.le_of_ble_eq_true rfl) dX8_goes_112 (go_lv (lv2 := [(0, .ref 70), (1, .int l1), (2, .int l2), (3, .int l3), (4, .int v51), (5, .int v75)]) rfl ?_)
                refine go_iconst (pc := 114) (v := 0) (by decide) dX8_goes_114 ?_
                refine go_istore (pc := 115) (Nat.le_of_ble_eq_true rfl) dX8_goes_115 (go_lv (lv2 := [(0, .ref 70), (1, .int l1), (2, .int l2), (3, .int l3), (4, .int v51), (5, .int v75), (6, .int 0)]) rfl ?_)
                have z77 : (v51 : Int32).toInt = (l3.toInt % 13) := e52
                have z78 : (0 : Int32).toInt = 0 := (ti_c (v := 0) (a := 0) (by decide))
                exact go_lv rfl (ih.2.2.1 l1 l2 l3 v51 v75 0 hx hvx (by omega) (by omega) (by omega) (by omega) (by omega) (by omega) (by omega) (by omega) (by omega) (by omega) (by omega) (by omega) x0 ⟨⟨ct_lo _ _, ct_hi _ _⟩, (hvx.2.1 70 47)⟩ x2 (fun x a b q => x3 x a (by omega) q) (by omega) (by omega) (by omega) ic.2 (by rw [v75V, v73K]) (fun i a b => absurd b (by omega)) fxx (by rw [show (v51 : Int32).toInt = (l3.toInt % 13) from e52, show (0 : Int32).toInt = 0 from (ti_c (v := 0) (a := 0) (by decide))]; exact k76) (by omega))
        ·
          have k79 := if_f k15 (Int.not_le.mpr q16)
          refine go_aload_n (pc := 38) rfl dX8_goes_38 ?_
          refine go_iload_n (pc := 39) rfl dX8_goes_39 ?_
          refine go_iload (pc := 40) rfl dX8_goes_40 ?_
          refine go_invV (pc := 42) (sl := 0) (s_X8_isHung_x2_f l (d + 2) hvx l3 (by rw [show (l3 : Int32).toInt = l3.toInt from (ti_rfl l3)]; omega) (by rw [show (l3 : Int32).toInt = l3.toInt from (ti_rfl l3)]; omega) l4 (by rw [show (l4 : Int32).toInt = l4.toInt from (ti_rfl l4)]; omega) (by rw [show (l4 : Int32).toInt = l4.toInt from (ti_rfl l4)]; omega)) mL_X8_326 iM_X8_isHung sM_X8_isHung (hvx.sh rfl) rfl rfl rfl (Nat.le_of_ble_eq_true rfl) (show d + 2 + 1 + 1 ≤ d + 4 by omega) (show 8 + (3 + 11) + 40 * (d + 2 + 1) ≤ 40 * (d + 4) by omega) (g_c0 hvx.ln) (Nat.le_of_ble_eq_true rfl) dX8_goes_42 ?_
          intro r h80 hq _
          obtain ⟨v83, rfl, v83l, v83u, rfl, f81, f82⟩ := hq
          replace f82 : PE _ _ := f82
          have k84 := bd_e k79 f82.symm
          refine gf_if_eq (pc := 45) (tgt := 54) (ti_rfl v83) (by decide) dX8_goes_45 (fun q85 => ?_) (fun q85 => ?_)
          ·
            have k86 := if_t k84 q85
            refine gf_iinc (pc := 54) (Nat.le_of_ble_eq_true rfl) rfl (ti_rfl l4) (ti_c (by decide)) (by omega) (by omega) dX8_goes_54 (fun v87 e88 => ?_)
            refine go_lv (lv2 := [(0, .ref 70), (1, .int l1), (2, .int l2), (3, .int l3), (4, .int v87)]) rfl ?_
            refine go_goto (pc := 57) (tgt := 30) (by decide) dX8_goes_57 ?_
            have z89 : (v87 : Int32).toInt = (l4.toInt + 1) := e88
            exact go_lv rfl (ih.2.1 l1 l2 l3 v87 hx hvx (by omega) (by omega) (by omega) (by omega) (by omega) (by omega) (by omega) (by omega) x0 ⟨⟨ct_lo _ _, ct_hi _ _⟩, (hvx.2.1 70 47)⟩ x2 (fun x a b q => by rcases Int.lt_or_eq_of_le (show x ≤ l4.toInt by omega) with z | z; (exact x3 x a z q); (rw [z] at q; exact absurd ((hb_ks x0.1.2.2.2 _ _).mpr q) (f81.2 (by omega)))) fxx (by rw [show (v87 : Int32).toInt = (l4.toInt + 1) from e88]; exact k86) (by omega))
          ·
            have k90 := if_f k84 q85
            refine go_aload_n (pc := 48) rfl dX8_goes_48 ?_
            refine go_iload (pc := 49) rfl dX8_goes_49 ?_
            refine go_invV (pc := 51) (sl := 0) (s_X8_reach2_f l (d + 1) hvx l4 (by rw [show (l4 : Int32).toInt = l4.toInt from (ti_rfl l4)]; omega) (by rw [show (l4 : Int32).toInt = l4.toInt from (ti_rfl l4)]; omega) x0.1.1) mL_X8_347 iM_X8_reach sM_X8_reach (hvx.sh rfl) rfl rfl rfl (Nat.le_of_ble_eq_true rfl) (show d + 1 + 2 + 1 ≤ d + 4 by omega) (show 8 + (2 + 11) + 40 * (d + 1 + 2) ≤ 40 * (d + 4) by omega) (g_c0 hvx.ln) (Nat.le_of_ble_eq_true rfl) dX8_goes_51 ?_
            intro r h91 hq _
            obtain ⟨rfl, hv91, f92, f93, f94⟩ := hq
            have fx91 : FX KAq h h91 := FX.tr fxx f94
            have k95 := bd_e k90 f93.symm
            obtain ⟨gq2, sx, sy2, su⟩ := GQ.reach x0 f92 (by omega) (by omega) (by omega) (by omega) (by omega) x2 (Or.inl ((hb_ks x0.1.2.2.2 _ _).mp (f81.1 (by omega)))) (fun j => ⟨(hvx.2.1 110 j.toNat).1, by have q : V hx.2.1 110 j ≤ 584 := (hvx.2.1 110 j.toNat).2; omega⟩)
            have gqa := gq2.1.1
            have gqb := (RC.ph f92 (by omega) (by omega) x0.1.1).2.1
            refine gf_iinc (pc := 54) (Nat.le_of_ble_eq_true rfl) rfl (ti_rfl l4) (ti_c (by decide)) (by omega) (by omega) dX8_goes_54 (fun v96 e97 => ?_)
            refine go_lv (lv2 := [(0, .ref 70), (1, .int l1), (2, .int l2), (3, .int l3), (4, .int v96)]) rfl ?_
            refine go_goto (pc := 57) (tgt := 30) (by decide) dX8_goes_57 ?_
            have z98 : (v96 : Int32).toInt = (l4.toInt + 1) := e97
            exact go_lv rfl (ih.2.1 l1 l2 l3 v96 h91 hv91 (by omega) (by omega) (by omega) (by omega) (by omega) (by omega) (by omega) (by omega) gq2 ⟨⟨ct_lo _ _, ct_hi _ _⟩, (hv91.2.1 70 47)⟩ sy2 (fun x a b q => by rcases Int.lt_or_eq_of_le (show x ≤ l4.toInt by omega) with z | z; (exact su x a (by omega) (x3 x a z q)); (rw [z]; exact sx)) fx91 (by rw [show (v96 : Int32).toInt = (l4.toInt + 1) from e97]; exact k95) (by omega))
      ·
        intro l1 l2 l3 l4 l5 l6 hx hvx l1l l1u l2l l2u l3l l3u l4l l4u l5l l5u l6l l6u x0 x1 x2 x3 x4 x5 x6 x7 x8 x9 fxx kL hm
        obtain ⟨u70_47, u70_47w⟩ : ∃ v : Int32, v = hx.2.1 70 47 := ⟨_, rfl⟩
        have u70_47e : (hx.2.1 70 47).toInt = u70_47.toInt := by rw [u70_47w]
        have u70_47l : 0 ≤ u70_47.toInt := by rw [u70_47w]; exact (hvx.2.1 70 47).1
        have u70_47u : u70_47.toInt ≤ 585 := by rw [u70_47w]; exact (hvx.2.1 70 47).2
        rw [f_X8_goes_ff2_] at kL
        replace kL := if_f kL (by decide)
        replace kL := if_f kL (by decide)
        replace kL := if_t kL _root_.rfl
        have k99 := bd_e kL (congrArg Int32.toInt u70_47w.symm)
        have x0a := x0.1.1
        have x0b := x0.1.2.1
        refine go_iload (pc := 117) rfl dX8_goes_117 ?_
        refine go_bipush (pc := 119) (v := 6) (by decide) dX8_goes_119 ?_
        refine gf_icmp_ge (pc := 121) (tgt := 168) (ti_rfl l6) (ti_c (v := 6) (a := 6) (by decide)) (by decide) dX8_goes_121 (fun q100 => ?_) (fun q100 => ?_)
        ·
          have k101 := if_t k99 q100
          refine go_iload_n (pc := 168) rfl dX8_goes_168 ?_
          refine gf_if_eq (pc := 169) (tgt := 183) (ti_rfl l2) (by decide) dX8_goes_169 (fun q102 => ?_) (fun q102 => False.elim (by omega))
          refine go_iload_n (pc := 183) rfl dX8_goes_183 ?_
          exact go_lv rfl (ih.2.2.2 l1 l2 l3 l4 l1 hx hvx (by omega) (by omega) (by omega) (by omega) (by omega) (by omega) (by omega) (by omega) (by omega) (by omega) x0 ⟨⟨ct_lo _ _, ct_hi _ _⟩, (hvx.2.1 70 47)⟩ (fun x a b e => by rcases e with e | ⟨e1, e2, e3, e4, i, i0, i1, it, ix⟩; (exact x3 x a b e); (rw [← x8, ← x4] at it; rw [ix, ← x4]; exact x9 i i0 (by omega) it)) fxx k101 (by omega))
        ·
          have k103 := if_f k99 (Int.not_le.mpr q100)
          refine go_aload_n (pc := 124) rfl dX8_goes_124 ?_
          refine gi_getF (pc := 125) (q := 108) hvx fL_X8_124 rfl (Nat.le_of_ble_eq_true rfl) rfl (hvx.rf (by decide)) dX8_goes_125 ?_
          refine go_bipush (pc := 128) (v := 6) (by decide) dX8_goes_128 ?_
          refine go_iload (pc := 130) rfl dX8_goes_130 ?_
          refine gf_imul (pc := 132) (ti_c (v := 6) (a := 6) (by decide)) (ti_rfl l5) (by omega) (by omega) dX8_goes_132 (fun v104 e105 => ?_)
          refine go_iload (pc := 133) rfl dX8_goes_133 ?_
          refine gf_iadd (pc := 135) e105 (ti_rfl l4) (by omega) (by omega) dX8_goes_135 (fun v106 e107 => ?_)
          refine go_bipush (pc := 136) (v := 7) (by decide) dX8_goes_136 ?_
          refine gf_isub (pc := 138) e107 (ti_c (v := 7) (a := 7) (by decide)) (by omega) (by omega) dX8_goes_138 (fun v108 e109 => ?_)
          refine gi_iald (pc := 139) (lo := -2147483648) (hi := 2147483647) (len := 30) hvx e109 rfl (by omega) (by omega) (fun _ => rfl) dX8_goes_139 (fun v110 v110l v110u v110w => ?_)
          have k111 := bd_e k103 (congrArg Int32.toInt v110w.symm)
          refine go_iload (pc := 140) rfl dX8_goes_140 ?_
          refine gx_ishr (pc := 142) dX8_goes_142 (fun v112 v112x => ?_)
          have k113 := bd_e k111 (so_ishr (ti_rfl v110) (ti_rfl l6) v112x)
          refine go_iconst (pc := 143) (v := 1) (by decide) dX8_goes_143 ?_
          refine gx_iand (pc := 144) dX8_goes_144 (fun v114 v114x => ?_)
          have v114l : 0 ≤ v114.toInt := by rw [v114x]; exact (ti_mask (ti_c (v := 1) (a := 1) (by decide)) (by omega)).1
          have v114u : v114.toInt ≤ 1 := by rw [v114x]; exact (ti_mask (ti_c (v := 1) (a := 1) (by decide)) (by omega)).2
          have k115 := bd_e k113 (so_iand (ti_rfl v112) (ti_c (v := 1) (a := 1) (by decide)) v114x)
          refine go_iconst (pc := 145) (v := 1) (by decide) dX8_goes_145 ?_
          refine gf_icmp_ne (pc := 146) (tgt := 162) (ti_rfl v114) (ti_c (v := 1) (a := 1) (by decide)) (by decide) dX8_goes_146 (fun q116 => ?_) (fun q116 => ?_)
          ·
            have k117 := if_t k115 q116
            refine gf_iinc (pc := 162) (Nat.le_of_ble_eq_true rfl) rfl (ti_rfl l6) (ti_c (by decide)) (by omega) (by omega) dX8_goes_162 (fun v118 e119 => ?_)
            refine go_lv (lv2 := [(0, .ref 70), (1, .int l1), (2, .int l2), (3, .int l3), (4, .int l4), (5, .int l5), (6, .int v118)]) rfl ?_
            refine go_goto (pc := 165) (tgt := 117) (by decide) dX8_goes_165 ?_
            have z120 : (v118 : Int32).toInt = (l6.toInt + 1) := e119
            exact go_lv rfl (ih.2.2.1 l1 l2 l3 l4 l5 v118 hx hvx (by omega) (by omega) (by omega) (by omega) (by omega) (by omega) (by omega) (by omega) (by omega) (by omega) (by omega) (by omega) x0 ⟨⟨ct_lo _ _, ct_hi _ _⟩, (hvx.2.1 70 47)⟩ x2 x3 (by omega) (by omega) (by omega) x7 x8 (fun i a b q => by rcases Int.lt_or_eq_of_le (show i ≤ l6.toInt by omega) with z | z; (exact x9 i a z q); (rw [z] at q; exact absurd (show (v114 : Int32).toInt = 1 from by rw [v114x, v112x]; exact (sr_bit (by omega) (by omega)).mpr (by rw [v110w]; exact (tb_ks x0.1.2.2.2 _ _).mpr q)) (by omega))) fxx (by rw [show (v118 : Int32).toInt = (l6.toInt + 1) from e119]; exact k117) (by omega))
          ·
            have k121 := if_f k115 (fun z => z q116)
            refine go_aload_n (pc := 149) rfl dX8_goes_149 ?_
            refine go_iload_n (pc := 150) rfl dX8_goes_150 ?_
            refine go_iload (pc := 151) rfl dX8_goes_151 ?_
            refine gf_isub (pc := 153) (ti_rfl l3) (ti_rfl l4) (by omega) (by omega) dX8_goes_153 (fun v122 e123 => ?_)
            refine go_iconst (pc := 154) (v := 1) (by decide) dX8_goes_154 ?_
            refine gf_iadd (pc := 155) e123 (ti_c (v := 1) (a := 1) (by decide)) (by omega) (by omega) dX8_goes_155 (fun v124 e125 => ?_)
            refine go_iload (pc := 156) rfl dX8_goes_156 ?_
            refine gf_iadd (pc := 158) e125 (ti_rfl l6) (by omega) (by omega) dX8_goes_158 (fun v126 e127 => ?_)
            have z128 : (v126 : Int32).toInt = (((l3.toInt - l4.toInt) + 1) + l6.toInt) := e127
            refine go_invV (pc := 159) (sl := 0) (s_X8_reach2_f l (d + 1) hvx v126 (by rw [show (v126 : Int32).toInt = (((l3.toInt - l4.toInt) + 1) + l6.toInt) from e127]; omega) (by rw [show (v126 : Int32).toInt = (((l3.toInt - l4.toInt) + 1) + l6.toInt) from e127]; omega) x0.1.1) mL_X8_347 iM_X8_reach sM_X8_reach (hvx.sh rfl) rfl rfl rfl (Nat.le_of_ble_eq_true rfl) (show d + 1 + 2 + 1 ≤ d + 4 by omega) (show 8 + (2 + 11) + 40 * (d + 1 + 2) ≤ 40 * (d + 4) by omega) (g_c0 hvx.ln) (Nat.le_of_ble_eq_true rfl) dX8_goes_159 ?_
            intro r h129 hq _
            obtain ⟨rfl, hv129, f130, f131, f132⟩ := hq
            try rw [show (v126 : Int32).toInt = (((l3.toInt - l4.toInt) + 1) + l6.toInt) from e127] at f130
            try rw [show (v126 : Int32).toInt = (((l3.toInt - l4.toInt) + 1) + l6.toInt) from e127] at f131
            try rw [show (v126 : Int32).toInt = (((l3.toInt - l4.toInt) + 1) + l6.toInt) from e127] at f132
            have fx129 : FX KAq h h129 := FX.tr fxx f132
            have k133 := bd_e k121 f131.symm
            have tbh : tb hx.2.1 (6 * l5.toInt + l4.toInt - 7) l6.toInt := by unfold tb; rw [← v110w]; exact (sr_bit (by omega) (by omega)).mp (by rw [← v112x, ← v114x]; omega)
            have tbe := (tb_ks x0.1.2.2.2 _ _).mp tbh
            obtain ⟨gq2, sx, sy2, su⟩ := GQ.reach x0 f130 (by omega) (by omega) (by omega) (by omega) (by omega) x2 (Or.inr ⟨by omega, x7.1, x7.2, by omega, l6.toInt, by omega, by omega, by rw [← x8, ← x4]; exact tbe, by omega⟩) (fun j => ⟨(hvx.2.1 110 j.toNat).1, by have q : V hx.2.1 110 j ≤ 584 := (hvx.2.1 110 j.toNat).2; omega⟩)
            have gqa := gq2.1.1
            have gqb := (RC.ph f130 (by omega) (by omega) x0.1.1).2.1
            refine gf_iinc (pc := 162) (Nat.le_of_ble_eq_true rfl) rfl (ti_rfl l6) (ti_c (by decide)) (by omega) (by omega) dX8_goes_162 (fun v134 e135 => ?_)
            refine go_lv (lv2 := [(0, .ref 70), (1, .int l1), (2, .int l2), (3, .int l3), (4, .int l4), (5, .int l5), (6, .int v134)]) rfl ?_
            refine go_goto (pc := 165) (tgt := 117) (by decide) dX8_goes_165 ?_
            have z136 : (v134 : Int32).toInt = (l6.toInt + 1) := e135
            exact go_lv rfl (ih.2.2.1 l1 l2 l3 l4 l5 v134 h129 hv129 (by omega) (by omega) (by omega) (by omega) (by omega) (by omega) (by omega) (by omega) (by omega) (by omega) (by omega) (by omega) gq2 ⟨⟨ct_lo _ _, ct_hi _ _⟩, (hv129.2.1 70 47)⟩ sy2 (fun x a b q => su x a (by omega) (x3 x a b q)) (by omega) (by omega) (by omega) x7 x8 (fun i a b q => by rcases Int.lt_or_eq_of_le (show i ≤ l6.toInt by omega) with z | z; (exact su _ (by omega) (by omega) (x9 i a z q)); (rw [z]; exact sx)) fx129 (by rw [show (v134 : Int32).toInt = (l6.toInt + 1) from e135]; exact k133) (by omega))
      ·
        intro l1 l2 l3 l4 s0 hx hvx l1l l1u l2l l2u l3l l3u l4l l4u s0l s0u x0 x1 x2 fxx kL hm
        obtain ⟨u70_47, u70_47w⟩ : ∃ v : Int32, v = hx.2.1 70 47 := ⟨_, rfl⟩
        have u70_47e : (hx.2.1 70 47).toInt = u70_47.toInt := by rw [u70_47w]
        have u70_47l : 0 ≤ u70_47.toInt := by rw [u70_47w]; exact (hvx.2.1 70 47).1
        have u70_47u : u70_47.toInt ≤ 585 := by rw [u70_47w]; exact (hvx.2.1 70 47).2
        rw [f_X8_goes_ff2_] at kL
        replace kL := if_f kL (by decide)
        replace kL := if_f kL (by decide)
        replace kL := if_f kL (by decide)
        have k137 := bd_e kL (congrArg Int32.toInt u70_47w.symm)
        have x0a := x0.1.1
        have x0b := x0.1.2.1
        have gdn := GQ.done x0 x2
        refine gf_if_eq (pc := 184) (tgt := 215) (ti_rfl s0) (by decide) dX8_goes_184 (fun q138 => ?_) (fun q138 => False.elim (by omega))
        refine go_goto (pc := 215) (tgt := 0) (by decide) dX8_goes_215 ?_
        exact go_lv rfl (ih.1 l1 l2 hx hvx (by omega) (by omega) (by omega) (by omega) gdn ⟨⟨ct_lo _ _, ct_hi _ _⟩, (hvx.2.1 70 47)⟩ fxx k137 (by omega))
  have bgN : 2200001 ≤ BG 2200001 := BG_le _
  have c0 := ct_lo h.2.1 109
  have w0 : WT h.2.1 ≤ 585 := (hv.2.1 70 47).2
  exact go_lv rfl ((key (BG 2200001)).1 a2 a3 h hv (by omega) (by omega) (by omega) (by omega) (GQ.init hw hq.1 hq.2) ⟨⟨ct_lo _ _, ct_hi _ _⟩, (hv.2.1 70 47)⟩ fx k0 (by omega))
def f_X8_empties_x2_ : Nat → Nat → Int → ST → ST
  | 0, _, _, sx => sx
  | n + 1, _, l1, sx => if 19 ≤ l1 then (bd (sI sx 70 47 0) fun s3 => s3) else (bd (sI sx 109 (l1).toNat 0) fun s6 => f_X8_empties_x2_ n 2 ((l1 + 1)) s6)
def f_X8_empties_x2 (s : ST) : ST :=
  f_X8_empties_x2_ 76 2 0 s
set_option maxHeartbeats 4000000 in
set_option maxRecDepth 100000 in
theorem s_X8_empties_x2_f (l : Launch) (d : Nat) {P : PP} {h : HP} (hv : Iv P h)  : Mt l yX8_empties cX8_empties 2 none (d + 1) [.ref 70] h 0 0 (fun r h' => r = none ∧ Iv P h' ∧ (EM h'.2.1) ∧ (KS h.2.1 h'.2.1) ∧ (st h' = f_X8_empties_x2 (st h)) ∧ (FX KAq h h')) := by
  refine Mt_iv hv (by decide) (Nat.le_of_ble_eq_true rfl) ?_
  show Go l RX8 cX8_empties 2 (g_rm (d + 1) 0 0) "empties" none 117 0 0 (fun _ _ => True) (fun r h' => r = none ∧ Iv P h' ∧ (EM h'.2.1) ∧ (KS h.2.1 h'.2.1) ∧ (st h' = f_X8_empties_x2 (st h)) ∧ (FX KAq h h')) 0 0 [(0, .ref 70)] [] h
  have fx : FX KAq h h := FX.rfl
  obtain ⟨fin, kf⟩ : ∃ z, z = f_X8_empties_x2 (st h) := ⟨_, _root_.rfl⟩
  have k0 := kf
  unfold f_X8_empties_x2 at k0
  have key : ∀ n : Nat, (∀ (l1 : Int32) (hx : HP), Iv P hx → 0 ≤ l1.toInt → l1.toInt ≤ 19 → (KS h.2.1 hx.2.1) → (∀ j : Nat, (j : Int) < l1.toInt → hx.2.1 109 j = 0) → FX KAq h hx → fin = f_X8_empties_x2_ n 2 l1.toInt (st hx) → (3 * (19 - l1.toInt) + 2 : Int) < n → Go l RX8 cX8_empties 2 (g_rm (d + 1) 0 0) "empties" none 117 0 0 (fun _ _ => True) (fun r h' => r = none ∧ Iv P h' ∧ (EM h'.2.1) ∧ (KS h.2.1 h'.2.1) ∧ (st h' = f_X8_empties_x2 (st h)) ∧ (FX KAq h h')) 0 2 [(0, .ref 70), (1, .int l1)] [] hx) := by
    intro n
    induction n with
    | zero => exact (by intros; omega)
    | succ n ih =>
      refine ?_
      ·
        intro l1 hx hvx l1l l1u x0 x1 fxx kL hm
        rw [f_X8_empties_x2_] at kL
        refine go_iload_n (pc := 2) rfl dX8_empties_2 ?_
        refine go_bipush (pc := 3) (v := 19) (by decide) dX8_empties_3 ?_
        refine gf_icmp_ge (pc := 5) (tgt := 21) (ti_rfl l1) (ti_c (v := 19) (a := 19) (by decide)) (by decide) dX8_empties_5 (fun q1 => ?_) (fun q1 => ?_)
        ·
          have k2 := if_t kL q1
          refine go_aload_n (pc := 21) rfl dX8_empties_21 ?_
          refine go_iconst (pc := 22) (v := 0) (by decide) dX8_empties_22 ?_
          refine gi_put (pc := 23) (lo := 0) (hi := 585) hvx (ti_c (v := 0) (a := 0) (by decide)) (fP_X8_344 _) rfl (Nat.le_of_ble_eq_true rfl) rfl rfl (by omega) (by omega) rfl rfl (by decide) (by decide) (by decide) (by decide) dX8_empties_23 (fun h3 hv3 hv3e => ?_)
          have fx3 : FX KAq h h3 := FX.pI fxx hv3e (by unfold KAq; omega)
          have k4 := bd_e k2 (st_I hv3e (ti_c (v := 0) (a := 0) (by decide)))
          exact gi_vret (pc := 26) ⟨rfl, hv3, (EM.mk (fun j q => by rw [hv3e]; show (if 109 = 70 ∧ j = 47 then 0 else hx.2.1 109 j) = 0; rw [if_neg (by omega)]; exact x1 j (by omega)) (by rw [hv3e]; show (if 70 = 70 ∧ 47 = 47 then (0 : Int32) else hx.2.1 70 47).toInt = 0; rw [if_pos ⟨rfl, rfl⟩]; decide)), (x0.trans (fun c j a b e => by rw [hv3e]; show (if c = 70 ∧ j = 47 then _ else hx.2.1 c j) = _; rw [if_neg e])), (k4.symm.trans kf), fx3⟩ hv3 dX8_empties_26
        ·
          have k5 := if_f kL (Int.not_le.mpr q1)
          refine go_aload_n (pc := 8) rfl dX8_empties_8 ?_
          refine gi_getF (pc := 9) (q := 109) hvx fL_X8_127 rfl (Nat.le_of_ble_eq_true rfl) rfl (hvx.rf (by decide)) dX8_empties_9 ?_
          refine go_iload_n (pc := 12) rfl dX8_empties_12 ?_
          refine go_iconst (pc := 13) (v := 0) (by decide) dX8_empties_13 ?_
          refine gi_iast (pc := 14) (lo := -2147483648) (hi := 2147483647) (len := 19) hvx (ti_rfl l1) (ti_c (v := 0) (a := 0) (by decide)) rfl (by omega) (by omega) (fun _ => rfl) (ti_ge (ti_c (v := 0) (a := 0) (by decide))) (ti_le2 (ti_c (v := 0) (a := 0) (by decide))) (by decide) dX8_empties_14 (fun h6 hv6 hv6e => ?_)
          have fx6 : FX KAq h h6 := FX.pI fxx hv6e (by unfold KAq; omega)
          have k7 := bd_e k5 (st_I hv6e (ti_c (v := 0) (a := 0) (by decide)))
          refine gf_iinc (pc := 15) (Nat.le_of_ble_eq_true rfl) rfl (ti_rfl l1) (ti_c (by decide)) (by omega) (by omega) dX8_empties_15 (fun v8 e9 => ?_)
          refine go_lv (lv2 := [(0, .ref 70), (1, .int v8)]) rfl ?_
          refine go_goto (pc := 18) (tgt := 2) (by decide) dX8_empties_18 ?_
          have z10 : (v8 : Int32).toInt = (l1.toInt + 1) := e9
          exact go_lv rfl (ih v8 h6 hv6 (by omega) (by omega) (x0.trans (fun c j a b e => by rw [hv6e]; show (if c = 109 ∧ j = _ then _ else hx.2.1 c j) = _; rw [if_neg (by omega)])) (fun j q => by rw [hv6e]; show (if 109 = 109 ∧ j = (l1.toInt).toNat then 0 else hx.2.1 109 j) = 0; by_cases w : j = (l1.toInt).toNat; (rw [if_pos ⟨rfl, w⟩]); (rw [if_neg (by omega)]; exact x1 j (by omega))) fx6 (by rw [show (v8 : Int32).toInt = (l1.toInt + 1) from e9]; exact k7) (by omega))
  refine go_iconst (pc := 0) (v := 0) (by decide) dX8_empties_0 ?_
  refine go_istore_n (pc := 1) (Nat.le_of_ble_eq_true rfl) dX8_empties_1 (go_lv (lv2 := [(0, .ref 70), (1, .int 0)]) rfl ?_)
  have z11 : (0 : Int32).toInt = 0 := (ti_c (v := 0) (a := 0) (by decide))
  exact go_lv rfl ((key 76) 0 h hv (by omega) (by omega) (KS.rfl _) (fun j q => absurd q (by omega)) fx (by rw [show (0 : Int32).toInt = 0 from (ti_c (v := 0) (a := 0) (by decide))]; exact k0) (by omega))
noncomputable def f_X8_laysThrough2_ : Nat → Nat → Int → Int → Int → Int → ST → ST
  | 0, _, _, _, _, _, sx => sx
  | n + 1, lab, l1, l2, l3, l4, sx => if lab = 2 then (if 30 ≤ l1 then (f_X8_laysThrough2_ n 23 1 0 0 0 sx) else (bd (sI sx 108 (l1).toNat 0) fun s5 => f_X8_laysThrough2_ n 2 ((l1 + 1)) 0 0 0 s5)) else if lab = 23 then (if l1 = 0 then (sx) else (f_X8_laysThrough2_ n 31 0 0 0 0 sx)) else if lab = 31 then (bd (sx.1 70 6) fun v15 => bd (sx.1 76 (v15).toNat) fun v17 => if (6 * v17) ≤ l2 then (f_X8_laysThrough2_ n 23 l1 0 0 0 sx) else (bd (f_X8_empties_x2 sx) fun s24 => bd (f_X8_procedurePlace_x2 s24 ((l2 / 6)) ((7 + (l2 % 6)))) fun v39 => bd (f_X8_reach2 s24 v39) fun s41 => bd (f_X8_goes_ff2 s41 0 0) fun s47 => f_X8_laysThrough2_ n 80 l1 l2 0 0 s47)) else if 6 ≤ l4 then (if ¬ l1 = 0 then (bd (sI sx 108 (l2).toNat l3) fun s58 => f_X8_laysThrough2_ n 31 1 ((l2 + 1)) 0 0 s58) else (bd (sx.1 108 (l2).toNat) fun v65 => if l3 = v65 then (bd (sI sx 108 (l2).toNat l3) fun s69 => f_X8_laysThrough2_ n 31 0 ((l2 + 1)) 0 0 s69) else (bd (sI sx 108 (l2).toNat l3) fun s76 => f_X8_laysThrough2_ n 31 1 ((l2 + 1)) 0 0 s76))) else (bd (f_X8_procedurePlace_x2 sx ((l2 / 6)) ((1 + l4))) fun v90 => bd (f_X8_isInSet_x2 sx v90) fun v95 => if v95 = 0 then (bd (o_ior l3 0) fun v99 => f_X8_laysThrough2_ n 80 l1 l2 v99 ((l4 + 1)) sx) else (bd (o_ishl 1 l4) fun v105 => bd (o_ior l3 v105) fun v107 => f_X8_laysThrough2_ n 80 l1 l2 v107 ((l4 + 1)) sx))
noncomputable def f_X8_laysThrough2 (s : ST) : ST :=
  f_X8_laysThrough2_ (BG 2000001) 2 0 0 0 0 s
set_option maxHeartbeats 4000000 in
set_option maxRecDepth 100000 in
theorem s_X8_laysThrough2_f (l : Launch) (d : Nat) {P : PP} {h : HP} (hv : Iv P h) (ckf : CKF h.2.1) : Mt l yX8_laysThrough cX8_laysThrough 5 none (d + 5) [.ref 70] h 0 0 (fun r h' => r = none ∧ Iv P h' ∧ (KT h.2.1 h'.2.1) ∧ (st h' = f_X8_laysThrough2 (st h)) ∧ (FX KAr h h')) := by
  refine Mt_iv hv (by decide) (Nat.le_of_ble_eq_true rfl) ?_
  show Go l RX8 cX8_laysThrough 5 (g_rm (d + 5) 0 0) "laysThrough" none 117 0 0 (fun _ _ => True) (fun r h' => r = none ∧ Iv P h' ∧ (KT h.2.1 h'.2.1) ∧ (st h' = f_X8_laysThrough2 (st h)) ∧ (FX KAr h h')) 0 0 [(0, .ref 70)] [] h
  obtain ⟨S, hS⟩ : ∃ S : Int, S = (h.2.1 70 6).toInt := ⟨_, rfl⟩
  have S0 : 0 ≤ S := by rw [hS]; exact (hv.2.1 70 6).1
  have S1 : S ≤ 1 := by rw [hS]; exact (hv.2.1 70 6).2
  have fx : FX KAr h h := FX.rfl
  obtain ⟨fin, kf⟩ : ∃ z, z = f_X8_laysThrough2 (st h) := ⟨_, _root_.rfl⟩
  have k0 := kf
  unfold f_X8_laysThrough2 at k0
  have key : ∀ n : Nat, (∀ (l1 : Int32) (hx : HP), Iv P hx → 0 ≤ l1.toInt → l1.toInt ≤ 30 → (KT h.2.1 hx.2.1) → (∀ j : Nat, (j : Int) < l1.toInt → hx.2.1 108 j = 0) → FX KAr h hx → fin = f_X8_laysThrough2_ n 2 l1.toInt 0 0 0 (st hx) → (1000000 + (30 - l1.toInt) : Int) < n → Go l RX8 cX8_laysThrough 5 (g_rm (d + 5) 0 0) "laysThrough" none 117 0 0 (fun _ _ => True) (fun r h' => r = none ∧ Iv P h' ∧ (KT h.2.1 h'.2.1) ∧ (st h' = f_X8_laysThrough2 (st h)) ∧ (FX KAr h h')) 0 2 [(0, .ref 70), (1, .int l1)] [] hx) ∧ (∀ (l1 : Int32) (hx : HP), Iv P hx → 0 ≤ l1.toInt → l1.toInt ≤ 1 → (KT h.2.1 hx.2.1) → (TI1 hx.2.1 S ∧ TN hx.2.1) → (0 ≤ tc hx.2.1 ∧ tc hx.2.1 ≤ 180) → FX KAr h hx → fin = f_X8_laysThrough2_ n 23 l1.toInt 0 0 0 (st hx) → (1000 * (180 - tc hx.2.1) + 1000 * l1.toInt + 500 : Int) < n → Go l RX8 cX8_laysThrough 5 (g_rm (d + 5) 0 0) "laysThrough" none 117 0 0 (fun _ _ => True) (fun r h' => r = none ∧ Iv P h' ∧ (KT h.2.1 h'.2.1) ∧ (st h' = f_X8_laysThrough2 (st h)) ∧ (FX KAr h h')) 0 23 [(0, .ref 70), (1, .int l1)] [] hx) ∧ (∀ (l1 : Int32) (l2 : Int32) (hx : HP), Iv P hx → 0 ≤ l1.toInt → l1.toInt ≤ 1 → 0 ≤ l2.toInt → l2.toInt ≤ 30 → (KT h.2.1 hx.2.1) → (TI1 hx.2.1 S ∧ TN hx.2.1) → (0 ≤ tc hx.2.1 ∧ tc hx.2.1 ≤ 180) → FX KAr h hx → fin = f_X8_laysThrough2_ n 31 l1.toInt l2.toInt 0 0 (st hx) → (1000 * (180 - tc hx.2.1) + 1000 * l1.toInt + 600 + 10 * (30 - l2.toInt) : Int) < n → Go l RX8 cX8_laysThrough 5 (g_rm (d + 5) 0 0) "laysThrough" none 117 0 0 (fun _ _ => True) (fun r h' => r = none ∧ Iv P h' ∧ (KT h.2.1 h'.2.1) ∧ (st h' = f_X8_laysThrough2 (st h)) ∧ (FX KAr h h')) 0 31 [(0, .ref 70), (1, .int l1), (2, .int l2)] [] hx) ∧ (∀ (l1 : Int32) (l2 : Int32) (l3 : Int32) (l4 : Int32) (hx : HP), Iv P hx → 0 ≤ l1.toInt → l1.toInt ≤ 1 → 0 ≤ l2.toInt → l2.toInt ≤ 29 → 0 ≤ l4.toInt → l4.toInt ≤ 6 → (KT h.2.1 hx.2.1) → (TI1 hx.2.1 S ∧ TN hx.2.1) → (0 ≤ tc hx.2.1 ∧ tc hx.2.1 ≤ 180) → (TS hx.2.1 S l2.toInt) → (BI hx.2.1 l2.toInt l4.toInt l3) → FX KAr h hx → fin = f_X8_laysThrough2_ n 80 l1.toInt l2.toInt l3.toInt l4.toInt (st hx) → (1000 * (180 - tc hx.2.1) + 1000 * l1.toInt + 600 + 10 * (30 - l2.toInt) - 9 + (6 - l4.toInt) : Int) < n → Go l RX8 cX8_laysThrough 5 (g_rm (d + 5) 0 0) "laysThrough" none 117 0 0 (fun _ _ => True) (fun r h' => r = none ∧ Iv P h' ∧ (KT h.2.1 h'.2.1) ∧ (st h' = f_X8_laysThrough2 (st h)) ∧ (FX KAr h h')) 0 80 [(0, .ref 70), (1, .int l1), (2, .int l2), (3, .int l3), (4, .int l4)] [] hx) := by
    intro n
    induction n with
    | zero => exact ⟨(by intros; omega), (by intros; omega), (by intros; omega), (by intros; omega)⟩
    | succ n ih =>
      refine ⟨?_, ?_, ?_, ?_⟩
      ·
        intro l1 hx hvx l1l l1u x0 x1 fxx kL hm
        rw [f_X8_laysThrough2_] at kL
        replace kL := if_t kL _root_.rfl
        have tcz := tc_lo hx.2.1
        refine go_iload_n (pc := 2) rfl dX8_laysThrough_2 ?_
        refine go_bipush (pc := 3) (v := 30) (by decide) dX8_laysThrough_3 ?_
        refine gf_icmp_ge (pc := 5) (tgt := 21) (ti_rfl l1) (ti_c (v := 30) (a := 30) (by decide)) (by decide) dX8_laysThrough_5 (fun q1 => ?_) (fun q1 => ?_)
        ·
          have k2 := if_t kL q1
          refine go_iconst (pc := 21) (v := 1) (by decide) dX8_laysThrough_21 ?_
          refine go_istore_n (pc := 22) (Nat.le_of_ble_eq_true rfl) dX8_laysThrough_22 (go_lv (lv2 := [(0, .ref 70), (1, .int 1)]) rfl ?_)
          have z3 : (1 : Int32).toInt = 1 := (ti_c (v := 1) (a := 1) (by decide))
          exact go_lv rfl (ih.2.1 1 hx hvx (by omega) (by omega) x0 (TI1.zero (fun j q => x1 j (by omega))) ⟨tc_lo _, tc_hi _⟩ fxx (by rw [show (1 : Int32).toInt = 1 from (ti_c (v := 1) (a := 1) (by decide))]; exact k2) (by omega))
        ·
          have k4 := if_f kL (Int.not_le.mpr q1)
          refine go_aload_n (pc := 8) rfl dX8_laysThrough_8 ?_
          refine gi_getF (pc := 9) (q := 108) hvx fL_X8_124 rfl (Nat.le_of_ble_eq_true rfl) rfl (hvx.rf (by decide)) dX8_laysThrough_9 ?_
          refine go_iload_n (pc := 12) rfl dX8_laysThrough_12 ?_
          refine go_iconst (pc := 13) (v := 0) (by decide) dX8_laysThrough_13 ?_
          refine gi_iast (pc := 14) (lo := -2147483648) (hi := 2147483647) (len := 30) hvx (ti_rfl l1) (ti_c (v := 0) (a := 0) (by decide)) rfl (by omega) (by omega) (fun _ => rfl) (ti_ge (ti_c (v := 0) (a := 0) (by decide))) (ti_le2 (ti_c (v := 0) (a := 0) (by decide))) (by decide) dX8_laysThrough_14 (fun h5 hv5 hv5e => ?_)
          have fx5 : FX KAr h h5 := FX.pI fxx hv5e (by unfold KAr; omega)
          have k6 := bd_e k4 (st_I hv5e (ti_c (v := 0) (a := 0) (by decide)))
          refine gf_iinc (pc := 15) (Nat.le_of_ble_eq_true rfl) rfl (ti_rfl l1) (ti_c (by decide)) (by omega) (by omega) dX8_laysThrough_15 (fun v7 e8 => ?_)
          refine go_lv (lv2 := [(0, .ref 70), (1, .int v7)]) rfl ?_
          refine go_goto (pc := 18) (tgt := 2) (by decide) dX8_laysThrough_18 ?_
          have z9 : (v7 : Int32).toInt = (l1.toInt + 1) := e8
          exact go_lv rfl (ih.1 v7 h5 hv5 (by omega) (by omega) (x0.trans (fun c j a b d e => by rw [hv5e]; show (if c = 108 ∧ j = _ then _ else hx.2.1 c j) = _; rw [if_neg (by omega)])) (fun j q => by rw [hv5e]; show (if 108 = 108 ∧ j = (l1.toInt).toNat then 0 else hx.2.1 108 j) = 0; by_cases w : j = (l1.toInt).toNat; (rw [if_pos ⟨rfl, w⟩]); (rw [if_neg (by omega)]; exact x1 j (by omega))) fx5 (by rw [show (v7 : Int32).toInt = (l1.toInt + 1) from e8]; exact k6) (by omega))
      ·
        intro l1 hx hvx l1l l1u x0 x1 x2 fxx kL hm
        rw [f_X8_laysThrough2_] at kL
        replace kL := if_f kL (by decide)
        replace kL := if_t kL _root_.rfl
        refine go_iload_n (pc := 23) rfl dX8_laysThrough_23 ?_
        refine gf_if_eq (pc := 24) (tgt := 158) (ti_rfl l1) (by decide) dX8_laysThrough_24 (fun q10 => ?_) (fun q10 => ?_)
        ·
          have k11 := if_t kL q10
          exact gi_vret (pc := 158) ⟨rfl, hvx, x0, (k11.symm.trans kf), fxx⟩ hvx dX8_laysThrough_158
        ·
          have k12 := if_f kL q10
          refine go_iconst (pc := 27) (v := 0) (by decide) dX8_laysThrough_27 ?_
          refine go_istore_n (pc := 28) (Nat.le_of_ble_eq_true rfl) dX8_laysThrough_28 (go_lv (lv2 := [(0, .ref 70), (1, .int 0)]) rfl ?_)
          refine go_iconst (pc := 29) (v := 0) (by decide) dX8_laysThrough_29 ?_
          refine go_istore_n (pc := 30) (Nat.le_of_ble_eq_true rfl) dX8_laysThrough_30 (go_lv (lv2 := [(0, .ref 70), (1, .int 0), (2, .int 0)]) rfl ?_)
          have z13 : (0 : Int32).toInt = 0 := (ti_c (v := 0) (a := 0) (by decide))
          have z14 : (0 : Int32).toInt = 0 := (ti_c (v := 0) (a := 0) (by decide))
          exact go_lv rfl (ih.2.2.1 0 0 hx hvx (by omega) (by omega) (by omega) (by omega) x0 x1 ⟨tc_lo _, tc_hi _⟩ fxx (by rw [show (0 : Int32).toInt = 0 from (ti_c (v := 0) (a := 0) (by decide))]; exact k12) (by omega))
      ·
        intro l1 l2 hx hvx l1l l1u l2l l2u x0 x1 x2 fxx kL hm
        rw [f_X8_laysThrough2_] at kL
        replace kL := if_f kL (by decide)
        replace kL := if_f kL (by decide)
        replace kL := if_t kL _root_.rfl
        refine go_iload_n (pc := 31) rfl dX8_laysThrough_31 ?_
        refine go_bipush (pc := 32) (v := 6) (by decide) dX8_laysThrough_32 ?_
        refine go_aload_n (pc := 34) rfl dX8_laysThrough_34 ?_
        refine gi_getF (pc := 35) (q := 76) hvx fL_X8_26 rfl (Nat.le_of_ble_eq_true rfl) rfl (hvx.rf (by decide)) dX8_laysThrough_35 ?_
        refine go_aload_n (pc := 38) rfl dX8_laysThrough_38 ?_
        refine gi_get (pc := 39) (lo := 0) (hi := 1) hvx fL_X8_187 rfl (Nat.le_of_ble_eq_true rfl) rfl rfl dX8_laysThrough_39 (fun v15 v15l v15u v15w => ?_)
        have k16 := bd_e kL (congrArg Int32.toInt v15w.symm)
        have v15S : v15.toInt = S := by rw [v15w, hvx.fy (j := 6) (by omega), ← hv.fy (j := 6) (by omega)]; exact hS.symm
        refine gi_iald (pc := 42) (lo := 0) (hi := 5) (len := 2) hvx (ti_rfl v15) rfl (by omega) (by omega) (fun _ => rfl) dX8_laysThrough_42 (fun v17 v17l v17u v17w => ?_)
        have k18 := bd_e k16 (congrArg Int32.toInt v17w.symm)
        have v17V : v17.toInt = V h.2.1 76 S := by rw [v17w, v15S, hvx.fz (c := 76) (by omega) (by omega), ← hv.fz (c := 76) (by omega) (by omega)]; rfl
        refine gf_imul (pc := 43) (ti_c (v := 6) (a := 6) (by decide)) (ti_rfl v17) (by omega) (by omega) dX8_laysThrough_43 (fun v19 e20 => ?_)
        refine gf_icmp_ge (pc := 44) (tgt := 155) (ti_rfl l2) e20 (by decide) dX8_laysThrough_44 (fun q21 => ?_) (fun q21 => ?_)
        ·
          have k22 := if_t k18 q21
          refine go_goto (pc := 155) (tgt := 23) (by decide) dX8_laysThrough_155 ?_
          exact go_lv rfl (ih.2.1 l1 hx hvx (by omega) (by omega) x0 x1 ⟨tc_lo _, tc_hi _⟩ fxx k22 (by omega))
        ·
          have k23 := if_f k18 (Int.not_le.mpr q21)
          refine go_aload_n (pc := 47) rfl dX8_laysThrough_47 ?_
          refine go_invV (pc := 48) (sl := 0) (s_X8_empties_x2_f l (d + 3) hvx ) mL_X8_356 iM_X8_empties sM_X8_empties (hvx.sh rfl) rfl rfl rfl (Nat.le_of_ble_eq_true rfl) (show d + 3 + 1 + 1 ≤ d + 5 by omega) (show 8 + (2 + 11) + 40 * (d + 3 + 1) ≤ 40 * (d + 5) by omega) (g_c0 hvx.ln) (Nat.le_of_ble_eq_true rfl) dX8_laysThrough_48 ?_
          intro r h24 hq _
          obtain ⟨rfl, hv24, f25, f26, f27, f28⟩ := hq
          have fx24 : FX KAr h h24 := FX.tr fxx (FX.mono (fun c j z => by unfold KAr at z; unfold KAq; omega) f28)
          have k29 := bd_e k23 f27.symm
          refine go_aload_n (pc := 51) rfl dX8_laysThrough_51 ?_
          refine go_iload_n (pc := 52) rfl dX8_laysThrough_52 ?_
          refine go_bipush (pc := 53) (v := 6) (by decide) dX8_laysThrough_53 ?_
          refine gf_idiv (pc := 55) (ti_rfl l2) (ti_c (v := 6) (a := 6) (by decide)) (by omega) (by omega) dX8_laysThrough_55 (fun v30 e31 => ?_)
          refine go_bipush (pc := 56) (v := 7) (by decide) dX8_laysThrough_56 ?_
          refine go_iload_n (pc := 58) rfl dX8_laysThrough_58 ?_
          refine go_bipush (pc := 59) (v := 6) (by decide) dX8_laysThrough_59 ?_
          refine gf_irem (pc := 61) (ti_rfl l2) (ti_c (v := 6) (a := 6) (by decide)) (by omega) (by omega) dX8_laysThrough_61 (fun v32 e33 => ?_)
          refine gf_iadd (pc := 62) (ti_c (v := 7) (a := 7) (by decide)) e33 (by omega) (by omega) dX8_laysThrough_62 (fun v34 e35 => ?_)
          refine go_invS (pc := 63) (sl := 0) (s_X8_procedurePlace_x2_f l (d + 3) hv24 v30 (by rw [show (v30 : Int32).toInt = (l2.toInt / 6) from e31]; omega) (by rw [show (v30 : Int32).toInt = (l2.toInt / 6) from e31]; omega) v34 (by rw [show (v34 : Int32).toInt = (7 + (l2.toInt % 6)) from e35]; omega) (by rw [show (v34 : Int32).toInt = (7 + (l2.toInt % 6)) from e35]; omega)) mL_X8_300 iM_X8_procedurePlace rfl rfl (Nat.le_of_ble_eq_true rfl) (show d + 3 + 1 + 1 ≤ d + 5 by omega) (show 8 + (2 + 11) + 40 * (d + 3 + 1) ≤ 40 * (d + 5) by omega) (g_c0 hv24.ln) (Nat.le_of_ble_eq_true rfl) dX8_laysThrough_63 ?_
          intro r h36 hq _
          obtain ⟨v39, rfl, v39l, v39u, rfl, f37, f38⟩ := hq
          try rw [show (v30 : Int32).toInt = (l2.toInt / 6) from e31] at f37
          try rw [show (v34 : Int32).toInt = (7 + (l2.toInt % 6)) from e35] at f37
          try rw [show (v30 : Int32).toInt = (l2.toInt / 6) from e31] at f38
          try rw [show (v34 : Int32).toInt = (7 + (l2.toInt % 6)) from e35] at f38
          replace f38 : PE _ _ := f38
          have k40 := bd_e k29 f38.symm
          have eo : v39.toInt = OUTP l2.toInt := by unfold OUTP; omega
          refine go_invV (pc := 66) (sl := 0) (s_X8_reach2_f l (d + 2) hv24 v39 (by rw [show (v39 : Int32).toInt = v39.toInt from (ti_rfl v39)]; omega) (by rw [show (v39 : Int32).toInt = v39.toInt from (ti_rfl v39)]; omega) (EM.hw f25)) mL_X8_347 iM_X8_reach sM_X8_reach (hv24.sh rfl) rfl rfl rfl (Nat.le_of_ble_eq_true rfl) (show d + 2 + 2 + 1 ≤ d + 5 by omega) (show 8 + (2 + 11) + 40 * (d + 2 + 2) ≤ 40 * (d + 5) by omega) (g_c0 hv24.ln) (Nat.le_of_ble_eq_true rfl) dX8_laysThrough_66 ?_
          intro r h41 hq _
          obtain ⟨rfl, hv41, f42, f43, f44⟩ := hq
          have fx41 : FX KAr h h41 := FX.tr fx24 (FX.mono (fun c j z => by unfold KAr at z; unfold KAq; omega) f44)
          have k45 := bd_e k40 f43.symm
          refine go_aload_n (pc := 69) rfl dX8_laysThrough_69 ?_
          refine go_iconst (pc := 70) (v := 0) (by decide) dX8_laysThrough_70 ?_
          refine go_iconst (pc := 71) (v := 0) (by decide) dX8_laysThrough_71 ?_
          have rc0 := f42
          rw [eo] at rc0
          have eb : 0 ≤ OUTP l2.toInt ∧ OUTP l2.toInt < 585 := by unfold OUTP; omega
          have fc := EM.fc (S := S) f25 rc0 eb.1 eb.2
          have ks2 : KS hx.2.1 h41.2.1 := f26.trans rc0.2.2
          have sM46 : (h41.2.1 70 6).toInt = S := by rw [hv41.fy (j := 6) (by omega), ← hv.fy (j := 6) (by omega)]; exact hS.symm
          refine go_invV (pc := 72) (sl := 0) (s_X8_goes_ff2_f l (d + 0) hv41 0 (by rw [show (0 : Int32).toInt = 0 from (ti_c (v := 0) (a := 0) (by decide))]; omega) (by rw [show (0 : Int32).toInt = 0 from (ti_c (v := 0) (a := 0) (by decide))]; omega) 0 (by rw [show (0 : Int32).toInt = 0 from (ti_c (v := 0) (a := 0) (by decide))]; omega) (by rw [show (0 : Int32).toInt = 0 from (ti_c (v := 0) (a := 0) (by decide))]; omega) fc.1 (CKF.ve ((x0.trans (KT.ks ks2)).ve) ckf) (by rw [sM46]; exact fc.2)) mL_X8_359 iM_X8_goes sM_X8_goes (hv41.sh rfl) rfl rfl rfl (Nat.le_of_ble_eq_true rfl) (show d + 0 + 4 + 1 ≤ d + 5 by omega) (show 8 + (7 + 11) + 40 * (d + 0 + 4) ≤ 40 * (d + 5) by omega) (g_c0 hv41.ln) (Nat.le_of_ble_eq_true rfl) dX8_laysThrough_72 ?_
          intro r h47 hq _
          obtain ⟨rfl, hv47, f48, f49, f50⟩ := hq
          rw [sM46] at f48
          try rw [show (0 : Int32).toInt = 0 from (ti_c (v := 0) (a := 0) (by decide))] at f48
          try rw [show (0 : Int32).toInt = 0 from (ti_c (v := 0) (a := 0) (by decide))] at f48
          try rw [show (0 : Int32).toInt = 0 from (ti_c (v := 0) (a := 0) (by decide))] at f49
          try rw [show (0 : Int32).toInt = 0 from (ti_c (v := 0) (a := 0) (by decide))] at f49
          try rw [show (0 : Int32).toInt = 0 from (ti_c (v := 0) (a := 0) (by decide))] at f50
          try rw [show (0 : Int32).toInt = 0 from (ti_c (v := 0) (a := 0) (by decide))] at f50
          have fx47 : FX KAr h h47 := FX.tr fx41 (FX.mono (fun c j z => by unfold KAr at z; unfold KAq; omega) f50)
          have k51 := bd_e k45 f49.symm
          have ks3 : KS hx.2.1 h47.2.1 := ks2.trans f48.2.2.2
          have ts := TS.mk f25 rc0 (by omega) (by omega) f48
          have tcq := tc_ks ks3
          refine go_iconst (pc := 75) (v := 0) (by decide) dX8_laysThrough_75 ?_
          refine go_istore_n (pc := 76) (Nat.le_of_ble_eq_true rfl) dX8_laysThrough_76 (go_lv (lv2 := [(0, .ref 70), (1, .int l1), (2, .int l2), (3, .int 0)]) rfl ?_)
          refine go_iconst (pc := 77) (v := 0) (by decide) dX8_laysThrough_77 ?_
          refine go_istore (pc := 78) (Nat.le_of_ble_eq_true rfl) dX8_laysThrough_78 (go_lv (lv2 := [(0, .ref 70), (1, .int l1), (2, .int l2), (3, .int 0), (4, .int 0)]) rfl ?_)
          have z52 : (0 : Int32).toInt = 0 := (ti_c (v := 0) (a := 0) (by decide))
          have z53 : (0 : Int32).toInt = 0 := (ti_c (v := 0) (a := 0) (by decide))
          exact go_lv rfl (ih.2.2.2 l1 l2 0 0 h47 hv47 (by omega) (by omega) (by omega) (by omega) (by omega) (by omega) (x0.trans (KT.ks ks3)) ⟨TI1.ks ks3 x1.1, TN.ks ks3 x1.2⟩ ⟨tc_lo _, tc_hi _⟩ ts (by have e0 : (0 : Int32).toInt = 0 := (by decide); rw [e0]; exact BI.zero _ _) fx47 (by rw [show (0 : Int32).toInt = 0 from (ti_c (v := 0) (a := 0) (by decide))]; exact k51) (by omega))
      ·
        intro l1 l2 l3 l4 hx hvx l1l l1u l2l l2u l4l l4u x0 x1 x2 x3 x4 fxx kL hm
        rw [f_X8_laysThrough2_] at kL
        replace kL := if_f kL (by decide)
        replace kL := if_f kL (by decide)
        replace kL := if_f kL (by decide)
        refine go_iload (pc := 80) rfl dX8_laysThrough_80 ?_
        refine go_bipush (pc := 82) (v := 6) (by decide) dX8_laysThrough_82 ?_
        refine gf_icmp_ge (pc := 84) (tgt := 122) (ti_rfl l4) (ti_c (v := 6) (a := 6) (by decide)) (by decide) dX8_laysThrough_84 (fun q54 => ?_) (fun q54 => ?_)
        ·
          have k55 := if_t kL q54
          refine go_iload_n (pc := 122) rfl dX8_laysThrough_122 ?_
          refine gf_if_ne (pc := 123) (tgt := 136) (ti_rfl l1) (by decide) dX8_laysThrough_123 (fun q56 => ?_) (fun q56 => ?_)
          ·
            have k57 := if_t k55 q56
            refine go_iconst (pc := 136) (v := 1) (by decide) dX8_laysThrough_136 ?_
            refine go_goto (pc := 137) (tgt := 141) (by decide) dX8_laysThrough_137 ?_
            refine go_istore_n (pc := 141) (Nat.le_of_ble_eq_true rfl) dX8_laysThrough_141 (go_lv (lv2 := [(0, .ref 70), (1, .int 1), (2, .int l2), (3, .int l3), (4, .int l4)]) rfl ?_)
            refine go_aload_n (pc := 142) rfl dX8_laysThrough_142 ?_
            refine gi_getF (pc := 143) (q := 108) hvx fL_X8_124 rfl (Nat.le_of_ble_eq_true rfl) rfl (hvx.rf (by decide)) dX8_laysThrough_143 ?_
            refine go_iload_n (pc := 146) rfl dX8_laysThrough_146 ?_
            refine go_iload_n (pc := 147) rfl dX8_laysThrough_147 ?_
            refine gi_iast (pc := 148) (lo := -2147483648) (hi := 2147483647) (len := 30) hvx (ti_rfl l2) (ti_rfl l3) rfl (by omega) (by omega) (fun _ => rfl) (ti_ge (ti_rfl l3)) (ti_le2 (ti_rfl l3)) (by decide) dX8_laysThrough_148 (fun h58 hv58 hv58e => ?_)
            have fx58 : FX KAr h h58 := FX.pI fxx hv58e (by unfold KAr; omega)
            have k59 := bd_e k57 (st_I hv58e (ti_rfl l3))
            have b6 : BI hx.2.1 l2.toInt 6 l3 := by have z := x4; rw [show l4.toInt = 6 by omega] at z; exact z
            obtain ⟨t1, t2, t3, t4, t5⟩ := TI1.step (by omega) (by omega) x1.1 x1.2 x3 b6
            have eh : h58.2.1 = (fun p q => if p = 108 ∧ q = (l2.toInt).toNat then l3 else hx.2.1 p q) := by rw [hv58e]; rfl
            rw [← eh] at t1 t2 t3 t4 t5
            have smx := tc_hi h58.2.1
            refine gf_iinc (pc := 149) (Nat.le_of_ble_eq_true rfl) rfl (ti_rfl l2) (ti_c (by decide)) (by omega) (by omega) dX8_laysThrough_149 (fun v60 e61 => ?_)
            refine go_lv (lv2 := [(0, .ref 70), (1, .int 1), (2, .int v60), (3, .int l3), (4, .int l4)]) rfl ?_
            refine go_goto (pc := 152) (tgt := 31) (by decide) dX8_laysThrough_152 ?_
            have z62 : (1 : Int32).toInt = 1 := (ti_c (v := 1) (a := 1) (by decide))
            have z63 : (v60 : Int32).toInt = (l2.toInt + 1) := e61
            exact go_lv rfl (ih.2.2.1 1 v60 h58 hv58 (by omega) (by omega) (by omega) (by omega) (x0.trans t5) ⟨t1, t2⟩ ⟨tc_lo _, tc_hi _⟩ fx58 (by rw [show (1 : Int32).toInt = 1 from (ti_c (v := 1) (a := 1) (by decide)), show (v60 : Int32).toInt = (l2.toInt + 1) from e61]; exact k59) (by omega))
          ·
            have k64 := if_f k55 (fun z => z q56)
            refine go_iload_n (pc := 126) rfl dX8_laysThrough_126 ?_
            refine go_aload_n (pc := 127) rfl dX8_laysThrough_127 ?_
            refine gi_getF (pc := 128) (q := 108) hvx fL_X8_124 rfl (Nat.le_of_ble_eq_true rfl) rfl (hvx.rf (by decide)) dX8_laysThrough_128 ?_
            refine go_iload_n (pc := 131) rfl dX8_laysThrough_131 ?_
            refine gi_iald (pc := 132) (lo := -2147483648) (hi := 2147483647) (len := 30) hvx (ti_rfl l2) rfl (by omega) (by omega) (fun _ => rfl) dX8_laysThrough_132 (fun v65 v65l v65u v65w => ?_)
            have k66 := bd_e k64 (congrArg Int32.toInt v65w.symm)
            refine gf_icmp_eq (pc := 133) (tgt := 140) (ti_rfl l3) (ti_rfl v65) (by decide) dX8_laysThrough_133 (fun q67 => ?_) (fun q67 => ?_)
            ·
              have k68 := if_t k66 q67
              refine go_iconst (pc := 140) (v := 0) (by decide) dX8_laysThrough_140 ?_
              refine go_istore_n (pc := 141) (Nat.le_of_ble_eq_true rfl) dX8_laysThrough_141 (go_lv (lv2 := [(0, .ref 70), (1, .int 0), (2, .int l2), (3, .int l3), (4, .int l4)]) rfl ?_)
              refine go_aload_n (pc := 142) rfl dX8_laysThrough_142 ?_
              refine gi_getF (pc := 143) (q := 108) hvx fL_X8_124 rfl (Nat.le_of_ble_eq_true rfl) rfl (hvx.rf (by decide)) dX8_laysThrough_143 ?_
              refine go_iload_n (pc := 146) rfl dX8_laysThrough_146 ?_
              refine go_iload_n (pc := 147) rfl dX8_laysThrough_147 ?_
              refine gi_iast (pc := 148) (lo := -2147483648) (hi := 2147483647) (len := 30) hvx (ti_rfl l2) (ti_rfl l3) rfl (by omega) (by omega) (fun _ => rfl) (ti_ge (ti_rfl l3)) (ti_le2 (ti_rfl l3)) (by decide) dX8_laysThrough_148 (fun h69 hv69 hv69e => ?_)
              have fx69 : FX KAr h h69 := FX.pI fxx hv69e (by unfold KAr; omega)
              have k70 := bd_e k68 (st_I hv69e (ti_rfl l3))
              have b6 : BI hx.2.1 l2.toInt 6 l3 := by have z := x4; rw [show l4.toInt = 6 by omega] at z; exact z
              obtain ⟨t1, t2, t3, t4, t5⟩ := TI1.step (by omega) (by omega) x1.1 x1.2 x3 b6
              have eh : h69.2.1 = (fun p q => if p = 108 ∧ q = (l2.toInt).toNat then l3 else hx.2.1 p q) := by rw [hv69e]; rfl
              rw [← eh] at t1 t2 t3 t4 t5
              have smx := tc_hi h69.2.1
              have t6 : ¬ l3.toInt = v65.toInt → tc hx.2.1 + 1 ≤ tc h69.2.1 := fun q => t4 (fun z => q (by rw [z, v65w]))
              refine gf_iinc (pc := 149) (Nat.le_of_ble_eq_true rfl) rfl (ti_rfl l2) (ti_c (by decide)) (by omega) (by omega) dX8_laysThrough_149 (fun v71 e72 => ?_)
              refine go_lv (lv2 := [(0, .ref 70), (1, .int 0), (2, .int v71), (3, .int l3), (4, .int l4)]) rfl ?_
              refine go_goto (pc := 152) (tgt := 31) (by decide) dX8_laysThrough_152 ?_
              have z73 : (0 : Int32).toInt = 0 := (ti_c (v := 0) (a := 0) (by decide))
              have z74 : (v71 : Int32).toInt = (l2.toInt + 1) := e72
              exact go_lv rfl (ih.2.2.1 0 v71 h69 hv69 (by omega) (by omega) (by omega) (by omega) (x0.trans t5) ⟨t1, t2⟩ ⟨tc_lo _, tc_hi _⟩ fx69 (by rw [show (0 : Int32).toInt = 0 from (ti_c (v := 0) (a := 0) (by decide)), show (v71 : Int32).toInt = (l2.toInt + 1) from e72]; exact k70) (by omega))
            ·
              have k75 := if_f k66 q67
              refine go_iconst (pc := 136) (v := 1) (by decide) dX8_laysThrough_136 ?_
              refine go_goto (pc := 137) (tgt := 141) (by decide) dX8_laysThrough_137 ?_
              refine go_istore_n (pc := 141) (Nat.le_of_ble_eq_true rfl) dX8_laysThrough_141 (go_lv (lv2 := [(0, .ref 70), (1, .int 1), (2, .int l2), (3, .int l3), (4, .int l4)]) rfl ?_)
              refine go_aload_n (pc := 142) rfl dX8_laysThrough_142 ?_
              refine gi_getF (pc := 143) (q := 108) hvx fL_X8_124 rfl (Nat.le_of_ble_eq_true rfl) rfl (hvx.rf (by decide)) dX8_laysThrough_143 ?_
              refine go_iload_n (pc := 146) rfl dX8_laysThrough_146 ?_
              refine go_iload_n (pc := 147) rfl dX8_laysThrough_147 ?_
              refine gi_iast (pc := 148) (lo := -2147483648) (hi := 2147483647) (len := 30) hvx (ti_rfl l2) (ti_rfl l3) rfl (by omega) (by omega) (fun _ => rfl) (ti_ge (ti_rfl l3)) (ti_le2 (ti_rfl l3)) (by decide) dX8_laysThrough_148 (fun h76 hv76 hv76e => ?_)
              have fx76 : FX KAr h h76 := FX.pI fxx hv76e (by unfold KAr; omega)
              have k77 := bd_e k75 (st_I hv76e (ti_rfl l3))
              have b6 : BI hx.2.1 l2.toInt 6 l3 := by have z := x4; rw [show l4.toInt = 6 by omega] at z; exact z
              obtain ⟨t1, t2, t3, t4, t5⟩ := TI1.step (by omega) (by omega) x1.1 x1.2 x3 b6
              have eh : h76.2.1 = (fun p q => if p = 108 ∧ q = (l2.toInt).toNat then l3 else hx.2.1 p q) := by rw [hv76e]; rfl
              rw [← eh] at t1 t2 t3 t4 t5
              have smx := tc_hi h76.2.1
              have t6 : ¬ l3.toInt = v65.toInt → tc hx.2.1 + 1 ≤ tc h76.2.1 := fun q => t4 (fun z => q (by rw [z, v65w]))
              refine gf_iinc (pc := 149) (Nat.le_of_ble_eq_true rfl) rfl (ti_rfl l2) (ti_c (by decide)) (by omega) (by omega) dX8_laysThrough_149 (fun v78 e79 => ?_)
              refine go_lv (lv2 := [(0, .ref 70), (1, .int 1), (2, .int v78), (3, .int l3), (4, .int l4)]) rfl ?_
              refine go_goto (pc := 152) (tgt := 31) (by decide) dX8_laysThrough_152 ?_
              have z80 : (1 : Int32).toInt = 1 := (ti_c (v := 1) (a := 1) (by decide))
              have z81 : (v78 : Int32).toInt = (l2.toInt + 1) := e79
              exact go_lv rfl (ih.2.2.1 1 v78 h76 hv76 (by omega) (by omega) (by omega) (by omega) (x0.trans t5) ⟨t1, t2⟩ ⟨tc_lo _, tc_hi _⟩ fx76 (by rw [show (1 : Int32).toInt = 1 from (ti_c (v := 1) (a := 1) (by decide)), show (v78 : Int32).toInt = (l2.toInt + 1) from e79]; exact k77) (by omega))
        ·
          have k82 := if_f kL (Int.not_le.mpr q54)
          refine go_iload_n (pc := 87) rfl dX8_laysThrough_87 ?_
          refine go_aload_n (pc := 88) rfl dX8_laysThrough_88 ?_
          refine go_iload_n (pc := 89) rfl dX8_laysThrough_89 ?_
          refine go_bipush (pc := 90) (v := 6) (by decide) dX8_laysThrough_90 ?_
          refine gf_idiv (pc := 92) (ti_rfl l2) (ti_c (v := 6) (a := 6) (by decide)) (by omega) (by omega) dX8_laysThrough_92 (fun v83 e84 => ?_)
          refine go_iconst (pc := 93) (v := 1) (by decide) dX8_laysThrough_93 ?_
          refine go_iload (pc := 94) rfl dX8_laysThrough_94 ?_
          refine gf_iadd (pc := 96) (ti_c (v := 1) (a := 1) (by decide)) (ti_rfl l4) (by omega) (by omega) dX8_laysThrough_96 (fun v85 e86 => ?_)
          refine go_invS (pc := 97) (sl := 0) (s_X8_procedurePlace_x2_f l (d + 3) hvx v83 (by rw [show (v83 : Int32).toInt = (l2.toInt / 6) from e84]; omega) (by rw [show (v83 : Int32).toInt = (l2.toInt / 6) from e84]; omega) v85 (by rw [show (v85 : Int32).toInt = (1 + l4.toInt) from e86]; omega) (by rw [show (v85 : Int32).toInt = (1 + l4.toInt) from e86]; omega)) mL_X8_300 iM_X8_procedurePlace rfl rfl (Nat.le_of_ble_eq_true rfl) (show d + 3 + 1 + 1 ≤ d + 5 by omega) (show 8 + (2 + 11) + 40 * (d + 3 + 1) ≤ 40 * (d + 5) by omega) (g_c0 hvx.ln) (Nat.le_of_ble_eq_true rfl) dX8_laysThrough_97 ?_
          intro r h87 hq _
          obtain ⟨v90, rfl, v90l, v90u, rfl, f88, f89⟩ := hq
          try rw [show (v83 : Int32).toInt = (l2.toInt / 6) from e84] at f88
          try rw [show (v85 : Int32).toInt = (1 + l4.toInt) from e86] at f88
          try rw [show (v83 : Int32).toInt = (l2.toInt / 6) from e84] at f89
          try rw [show (v85 : Int32).toInt = (1 + l4.toInt) from e86] at f89
          replace f89 : PE _ _ := f89
          have k91 := bd_e k82 f89.symm
          refine go_invV (pc := 100) (sl := 0) (s_X8_isInSet_x2_f l (d + 3) hvx v90 (by rw [show (v90 : Int32).toInt = v90.toInt from (ti_rfl v90)]; omega) (by rw [show (v90 : Int32).toInt = v90.toInt from (ti_rfl v90)]; omega)) mL_X8_341 iM_X8_isInSet sM_X8_isInSet (hvx.sh rfl) rfl rfl rfl (Nat.le_of_ble_eq_true rfl) (show d + 3 + 1 + 1 ≤ d + 5 by omega) (show 8 + (2 + 11) + 40 * (d + 3 + 1) ≤ 40 * (d + 5) by omega) (g_c0 hvx.ln) (Nat.le_of_ble_eq_true rfl) dX8_laysThrough_100 ?_
          intro r h92 hq _
          obtain ⟨v95, rfl, v95l, v95u, rfl, f93, f94⟩ := hq
          replace f94 : PE _ _ := f94
          have k96 := bd_e k91 f94.symm
          have ei : v90.toInt = INP l2.toInt l4.toInt := by unfold INP; omega
          have isf := f93
          rw [ei] at isf
          refine gf_if_eq (pc := 103) (tgt := 113) (ti_rfl v95) (by decide) dX8_laysThrough_103 (fun q97 => ?_) (fun q97 => ?_)
          ·
            have k98 := if_t k96 q97
            refine go_iconst (pc := 113) (v := 0) (by decide) dX8_laysThrough_113 ?_
            refine gx_ior (pc := 114) dX8_laysThrough_114 (fun v99 v99x => ?_)
            have k100 := bd_e k98 (so_ior (ti_rfl l3) (ti_c (v := 0) (a := 0) (by decide)) v99x)
            refine go_istore_n (pc := 115) (Nat.le_of_ble_eq_true rfl) dX8_laysThrough_115 (go_lv (lv2 := [(0, .ref 70), (1, .int l1), (2, .int l2), (3, .int v99), (4, .int l4)]) rfl ?_)
            refine gf_iinc (pc := 116) (Nat.le_of_ble_eq_true rfl) rfl (ti_rfl l4) (ti_c (by decide)) (by omega) (by omega) dX8_laysThrough_116 (fun v101 e102 => ?_)
            refine go_lv (lv2 := [(0, .ref 70), (1, .int l1), (2, .int l2), (3, .int v99), (4, .int v101)]) rfl ?_
            refine go_goto (pc := 119) (tgt := 80) (by decide) dX8_laysThrough_119 ?_
            have z103 : (v101 : Int32).toInt = (l4.toInt + 1) := e102
            exact go_lv rfl (ih.2.2.2 l1 l2 v99 v101 hx hvx (by omega) (by omega) (by omega) (by omega) (by omega) (by omega) x0 x1 ⟨tc_lo _, tc_hi _⟩ x3 (by rw [show (v101 : Int32).toInt = l4.toInt + 1 from e102, v99x]; exact BI.skip (by omega) x4 (isf.2 (by omega))) fxx (by rw [show (v101 : Int32).toInt = (l4.toInt + 1) from e102]; exact k100) (by omega))
          ·
            have k104 := if_f k96 q97
            refine go_iconst (pc := 106) (v := 1) (by decide) dX8_laysThrough_106 ?_
            refine go_iload (pc := 107) rfl dX8_laysThrough_107 ?_
            refine gx_ishl (pc := 109) dX8_laysThrough_109 (fun v105 v105x => ?_)
            have k106 := bd_e k104 (so_ishl (ti_c (v := 1) (a := 1) (by decide)) (ti_rfl l4) v105x)
            refine go_goto (pc := 110) (tgt := 114) (by decide) dX8_laysThrough_110 ?_
            refine gx_ior (pc := 114) dX8_laysThrough_114 (fun v107 v107x => ?_)
            have k108 := bd_e k106 (so_ior (ti_rfl l3) (ti_rfl v105) v107x)
            refine go_istore_n (pc := 115) (Nat.le_of_ble_eq_true rfl) dX8_laysThrough_115 (go_lv (lv2 := [(0, .ref 70), (1, .int l1), (2, .int l2), (3, .int v107), (4, .int l4)]) rfl ?_)
            refine gf_iinc (pc := 116) (Nat.le_of_ble_eq_true rfl) rfl (ti_rfl l4) (ti_c (by decide)) (by omega) (by omega) dX8_laysThrough_116 (fun v109 e110 => ?_)
            refine go_lv (lv2 := [(0, .ref 70), (1, .int l1), (2, .int l2), (3, .int v107), (4, .int v109)]) rfl ?_
            refine go_goto (pc := 119) (tgt := 80) (by decide) dX8_laysThrough_119 ?_
            have z111 : (v109 : Int32).toInt = (l4.toInt + 1) := e110
            exact go_lv rfl (ih.2.2.2 l1 l2 v107 v109 hx hvx (by omega) (by omega) (by omega) (by omega) (by omega) (by omega) x0 x1 ⟨tc_lo _, tc_hi _⟩ x3 (by rw [show (v109 : Int32).toInt = l4.toInt + 1 from e110, v107x, v105x]; exact BI.add (by omega) (by omega) x4 (isf.1 (by omega))) fxx (by rw [show (v109 : Int32).toInt = (l4.toInt + 1) from e110]; exact k108) (by omega))
  have bgN : 2000001 ≤ BG 2000001 := BG_le _
  refine go_iconst (pc := 0) (v := 0) (by decide) dX8_laysThrough_0 ?_
  refine go_istore_n (pc := 1) (Nat.le_of_ble_eq_true rfl) dX8_laysThrough_1 (go_lv (lv2 := [(0, .ref 70), (1, .int 0)]) rfl ?_)
  have z112 : (0 : Int32).toInt = 0 := (ti_c (v := 0) (a := 0) (by decide))
  exact go_lv rfl ((key (BG 2000001)).1 0 h hv (by omega) (by omega) (KT.rfl _) (fun j q => absurd q (by omega)) fx (by rw [show (0 : Int32).toInt = 0 from (ti_c (v := 0) (a := 0) (by decide))]; exact k0) (by omega))
noncomputable def f_X8_goesBack2_ : Nat → Nat → Int → ST → ST
  | 0, _, _, sx => sx
  | n + 1, _, l1, sx => bd (sx.1 70 47) fun u70_47 => if 585 ≤ l1 then (bd (f_X8_goes2 sx 0 1) fun s4 => s4) else (bd (f_X8_isInSet_x2 sx l1) fun v14 => if ¬ v14 = 0 then (bd (sI sx 110 (u70_47).toNat l1) fun s19 => bd (sI s19 70 47 ((u70_47 + 1))) fun s24 => f_X8_goesBack2_ n 8 ((l1 + 1)) s24) else (f_X8_goesBack2_ n 8 ((l1 + 1)) sx))
noncomputable def f_X8_goesBack2 (s : ST) : ST :=
  bd (f_X8_goes2 s 1 0) fun s33 => f_X8_goesBack2_ 1774 8 0 s33
set_option maxHeartbeats 4000000 in
set_option maxRecDepth 100000 in
theorem s_X8_goesBack2_f (l : Launch) (d : Nat) {P : PP} {h : HP} (hv : Iv P h) (hw : WT h.2.1 ≤ ct h.2.1 109) (ckf : CKF h.2.1) : Mt l yX8_goesBack cX8_goesBack 2 none (d + 5) [.ref 70] h 0 0 (fun r h' => r = none ∧ Iv P h' ∧ (SU 109 h.2.1 h'.2.1) ∧ (KS h.2.1 h'.2.1) ∧ (st h' = f_X8_goesBack2 (st h)) ∧ (FX KAq h h')) := by
  refine Mt_iv hv (by decide) (Nat.le_of_ble_eq_true rfl) ?_
  show Go l RX8 cX8_goesBack 2 (g_rm (d + 5) 0 0) "goesBack" none 117 0 0 (fun _ _ => True) (fun r h' => r = none ∧ Iv P h' ∧ (SU 109 h.2.1 h'.2.1) ∧ (KS h.2.1 h'.2.1) ∧ (st h' = f_X8_goesBack2 (st h)) ∧ (FX KAq h h')) 0 0 [(0, .ref 70)] [] h
  have fx : FX KAq h h := FX.rfl
  obtain ⟨fin, kf⟩ : ∃ z, z = f_X8_goesBack2 (st h) := ⟨_, _root_.rfl⟩
  have k0 := kf
  unfold f_X8_goesBack2 at k0
  have key : ∀ n : Nat, (∀ (l1 : Int32) (hx : HP), Iv P hx → 0 ≤ l1.toInt → l1.toInt ≤ 585 → (SU 109 h.2.1 hx.2.1) → (KS h.2.1 hx.2.1) → (WT hx.2.1 ≤ (cn hx.2.1 109 l1.toInt.toNat : Int)) → FX KAq h hx → fin = f_X8_goesBack2_ n 8 l1.toInt (st hx) → (3 * (585 - l1.toInt) + 2 : Int) < n → Go l RX8 cX8_goesBack 2 (g_rm (d + 5) 0 0) "goesBack" none 117 0 0 (fun _ _ => True) (fun r h' => r = none ∧ Iv P h' ∧ (SU 109 h.2.1 h'.2.1) ∧ (KS h.2.1 h'.2.1) ∧ (st h' = f_X8_goesBack2 (st h)) ∧ (FX KAq h h')) 0 8 [(0, .ref 70), (1, .int l1)] [] hx) := by
    intro n
    induction n with
    | zero => exact (by intros; omega)
    | succ n ih =>
      refine ?_
      ·
        intro l1 hx hvx l1l l1u x0 x1 x2 fxx kL hm
        obtain ⟨u70_47, u70_47w⟩ : ∃ v : Int32, v = hx.2.1 70 47 := ⟨_, rfl⟩
        have u70_47e : (hx.2.1 70 47).toInt = u70_47.toInt := by rw [u70_47w]
        have u70_47l : 0 ≤ u70_47.toInt := by rw [u70_47w]; exact (hvx.2.1 70 47).1
        have u70_47u : u70_47.toInt ≤ 585 := by rw [u70_47w]; exact (hvx.2.1 70 47).2
        rw [f_X8_goesBack2_] at kL
        have k1 := bd_e kL (congrArg Int32.toInt u70_47w.symm)
        have c1 := cn_le hx.2.1 109 l1.toInt.toNat
        have hwt : (hx.2.1 70 47).toInt = WT hx.2.1 := rfl
        refine go_iload_n (pc := 8) rfl dX8_goesBack_8 ?_
        refine go_sipush (pc := 9) (v := 585) (by decide) dX8_goesBack_9 ?_
        refine gf_icmp_ge (pc := 12) (tgt := 52) (ti_rfl l1) (ti_c (v := 585) (a := 585) (by decide)) (by decide) dX8_goesBack_12 (fun q2 => ?_) (fun q2 => ?_)
        ·
          have k3 := if_t k1 q2
          refine go_aload_n (pc := 52) rfl dX8_goesBack_52 ?_
          refine go_iconst (pc := 53) (v := 0) (by decide) dX8_goesBack_53 ?_
          refine go_iconst (pc := 54) (v := 1) (by decide) dX8_goesBack_54 ?_
          refine go_invV (pc := 55) (sl := 0) (s_X8_goes2_f l (d + 0) hvx 0 (by rw [show (0 : Int32).toInt = 0 from (ti_c (v := 0) (a := 0) (by decide))]; omega) (by rw [show (0 : Int32).toInt = 0 from (ti_c (v := 0) (a := 0) (by decide))]; omega) 1 (by rw [show (1 : Int32).toInt = 1 from (ti_c (v := 1) (a := 1) (by decide))]; omega) (by rw [show (1 : Int32).toInt = 1 from (ti_c (v := 1) (a := 1) (by decide))]; omega) (by have c := cn_step hx.2.1 109 l1.toInt.toNat 585 (by omega); show WT hx.2.1 ≤ ((cn hx.2.1 109 585 : Nat) : Int); omega) (KS.ckf x1 ckf)) mL_X8_359 iM_X8_goes sM_X8_goes (hvx.sh rfl) rfl rfl rfl (Nat.le_of_ble_eq_true rfl) (show d + 0 + 4 + 1 ≤ d + 5 by omega) (show 8 + (7 + 11) + 40 * (d + 0 + 4) ≤ 40 * (d + 5) by omega) (g_c0 hvx.ln) (Nat.le_of_ble_eq_true rfl) dX8_goesBack_55 ?_
          intro r h4 hq _
          obtain ⟨rfl, hv4, f5, f6, f7, f8⟩ := hq
          try rw [show (0 : Int32).toInt = 0 from (ti_c (v := 0) (a := 0) (by decide))] at f5
          try rw [show (1 : Int32).toInt = 1 from (ti_c (v := 1) (a := 1) (by decide))] at f5
          try rw [show (0 : Int32).toInt = 0 from (ti_c (v := 0) (a := 0) (by decide))] at f6
          try rw [show (1 : Int32).toInt = 1 from (ti_c (v := 1) (a := 1) (by decide))] at f6
          try rw [show (0 : Int32).toInt = 0 from (ti_c (v := 0) (a := 0) (by decide))] at f7
          try rw [show (1 : Int32).toInt = 1 from (ti_c (v := 1) (a := 1) (by decide))] at f7
          try rw [show (0 : Int32).toInt = 0 from (ti_c (v := 0) (a := 0) (by decide))] at f8
          try rw [show (1 : Int32).toInt = 1 from (ti_c (v := 1) (a := 1) (by decide))] at f8
          have fx4 : FX KAq h h4 := FX.tr fxx f8
          have k9 := bd_e k3 f7.symm
          exact gi_vret (pc := 58) ⟨rfl, hv4, (x0.trans f5.2.2.1), (x1.trans f5.2.2.2), (k9.symm.trans kf), fx4⟩ hv4 dX8_goesBack_58
        ·
          have k10 := if_f k1 (Int.not_le.mpr q2)
          refine go_aload_n (pc := 15) rfl dX8_goesBack_15 ?_
          refine go_iload_n (pc := 16) rfl dX8_goesBack_16 ?_
          refine go_invV (pc := 17) (sl := 0) (s_X8_isInSet_x2_f l (d + 3) hvx l1 (by rw [show (l1 : Int32).toInt = l1.toInt from (ti_rfl l1)]; omega) (by rw [show (l1 : Int32).toInt = l1.toInt from (ti_rfl l1)]; omega)) mL_X8_341 iM_X8_isInSet sM_X8_isInSet (hvx.sh rfl) rfl rfl rfl (Nat.le_of_ble_eq_true rfl) (show d + 3 + 1 + 1 ≤ d + 5 by omega) (show 8 + (2 + 11) + 40 * (d + 3 + 1) ≤ 40 * (d + 5) by omega) (g_c0 hvx.ln) (Nat.le_of_ble_eq_true rfl) dX8_goesBack_17 ?_
          intro r h11 hq _
          obtain ⟨v14, rfl, v14l, v14u, rfl, f12, f13⟩ := hq
          replace f13 : PE _ _ := f13
          have k15 := bd_e k10 f13.symm
          refine gf_if_ne (pc := 20) (tgt := 26) (ti_rfl v14) (by decide) dX8_goesBack_20 (fun q16 => ?_) (fun q16 => ?_)
          ·
            have k17 := if_t k15 q16
            refine go_aload_n (pc := 26) rfl dX8_goesBack_26 ?_
            refine gi_getF (pc := 27) (q := 110) hvx fL_X8_130 rfl (Nat.le_of_ble_eq_true rfl) rfl (hvx.rf (by decide)) dX8_goesBack_27 ?_
            refine go_aload_n (pc := 30) rfl dX8_goesBack_30 ?_
            refine gi_get (pc := 31) (lo := 0) (hi := 585) hvx fL_X8_344 rfl (Nat.le_of_ble_eq_true rfl) rfl rfl dX8_goesBack_31 (fun v18 v18l v18u v18w => ?_)
            have v18r : u70_47 = hx.2.1 70 47 := u70_47w
            have v18q : TI v18 u70_47.toInt := by rw [v18w.trans v18r.symm]; exact (ti_rfl u70_47)
            refine go_iload_n (pc := 34) rfl dX8_goesBack_34 ?_
            refine gi_iast (pc := 35) (lo := 0) (hi := 584) (len := 585) hvx v18q (ti_rfl l1) rfl (by omega) (by omega) (fun _ => rfl) (by omega) (by omega) (by decide) dX8_goesBack_35 (fun h19 hv19 hv19e => ?_)
            have fx19 : FX KAq h h19 := FX.pI fxx hv19e (by unfold KAq; omega)
            have k20 := bd_e k17 (st_I hv19e (ti_rfl l1))
            refine go_aload_n (pc := 36) rfl dX8_goesBack_36 ?_
            refine go_dup (pc := 37) rfl dX8_goesBack_37 ?_
            refine gi_get (pc := 38) (lo := 0) (hi := 585) hv19 fL_X8_344 rfl (Nat.le_of_ble_eq_true rfl) rfl rfl dX8_goesBack_38 (fun v21 v21l v21u v21w => ?_)
            have v21r : u70_47 = h19.2.1 70 47 := (show u70_47 = h19.2.1 70 47 from by rw [hv19e]; exact (g_iI rfl u70_47w.symm).symm)
            have v21q : TI v21 u70_47.toInt := by rw [v21w.trans v21r.symm]; exact (ti_rfl u70_47)
            refine go_iconst (pc := 41) (v := 1) (by decide) dX8_goesBack_41 ?_
            refine gf_iadd (pc := 42) v21q (ti_c (v := 1) (a := 1) (by decide)) (by omega) (by omega) dX8_goesBack_42 (fun v22 e23 => ?_)
            refine gi_put (pc := 43) (lo := 0) (hi := 585) hv19 e23 (fP_X8_344 _) rfl (Nat.le_of_ble_eq_true rfl) rfl rfl (by omega) (by omega) rfl rfl (by decide) (by decide) (by decide) (by decide) dX8_goesBack_43 (fun h24 hv24 hv24e => ?_)
            have fx24 : FX KAq h h24 := FX.pI fx19 hv24e (by unfold KAq; omega)
            have k25 := bd_e k20 (st_I hv24e e23)
            obtain ⟨p1, p2, p3⟩ := push_step (F := hx.2.1) (x := l1.toInt) (v := l1) (z := v22) (by omega) (by omega) rfl (f12.1 (by omega)) x2 (by omega) (by rw [show (v22 : Int32).toInt = (u70_47.toInt + 1) from e23]; omega)
            have eh : h24.2.1 = (fun p q => if p = 70 ∧ q = 47 then v22 else if p = 110 ∧ q = (WT hx.2.1).toNat then l1 else hx.2.1 p q) := by (rw [hv24e, hv19e, show (WT hx.2.1).toNat = (u70_47.toInt).toNat from by rw [← u70_47e]; rfl]; rfl)
            rw [← eh] at p1 p2 p3
            refine gf_iinc (pc := 46) (Nat.le_of_ble_eq_true rfl) rfl (ti_rfl l1) (ti_c (by decide)) (by omega) (by omega) dX8_goesBack_46 (fun v26 e27 => ?_)
            refine go_lv (lv2 := [(0, .ref 70), (1, .int v26)]) rfl ?_
            refine go_goto (pc := 49) (tgt := 8) (by decide) dX8_goesBack_49 ?_
            have z28 : (v26 : Int32).toInt = (l1.toInt + 1) := e27
            exact go_lv rfl (ih v26 h24 hv24 (by omega) (by omega) (x0.trans p1) (x1.trans p2) (by rw [show (v26 : Int32).toInt = l1.toInt + 1 from e27]; exact p3) fx24 (by rw [show (v26 : Int32).toInt = (l1.toInt + 1) from e27]; exact k25) (by omega))
          ·
            have k29 := if_f k15 (fun z => z q16)
            refine go_goto (pc := 23) (tgt := 46) (by decide) dX8_goesBack_23 ?_
            refine gf_iinc (pc := 46) (Nat.le_of_ble_eq_true rfl) rfl (ti_rfl l1) (ti_c (by decide)) (by omega) (by omega) dX8_goesBack_46 (fun v30 e31 => ?_)
            refine go_lv (lv2 := [(0, .ref 70), (1, .int v30)]) rfl ?_
            refine go_goto (pc := 49) (tgt := 8) (by decide) dX8_goesBack_49 ?_
            have z32 : (v30 : Int32).toInt = (l1.toInt + 1) := e31
            exact go_lv rfl (ih v30 hx hvx (by omega) (by omega) x0 x1 (by rw [show (v30 : Int32).toInt = l1.toInt + 1 from e31]; have z := cn_step hx.2.1 109 l1.toInt.toNat (l1.toInt + 1).toNat (by omega); omega) fxx (by rw [show (v30 : Int32).toInt = (l1.toInt + 1) from e31]; exact k29) (by omega))
  refine go_aload_n (pc := 0) rfl dX8_goesBack_0 ?_
  refine go_iconst (pc := 1) (v := 1) (by decide) dX8_goesBack_1 ?_
  refine go_iconst (pc := 2) (v := 0) (by decide) dX8_goesBack_2 ?_
  refine go_invV (pc := 3) (sl := 0) (s_X8_goes2_f l (d + 0) hv 1 (by rw [show (1 : Int32).toInt = 1 from (ti_c (v := 1) (a := 1) (by decide))]; omega) (by rw [show (1 : Int32).toInt = 1 from (ti_c (v := 1) (a := 1) (by decide))]; omega) 0 (by rw [show (0 : Int32).toInt = 0 from (ti_c (v := 0) (a := 0) (by decide))]; omega) (by rw [show (0 : Int32).toInt = 0 from (ti_c (v := 0) (a := 0) (by decide))]; omega) hw ckf) mL_X8_359 iM_X8_goes sM_X8_goes (hv.sh rfl) rfl rfl rfl (Nat.le_of_ble_eq_true rfl) (show d + 0 + 4 + 1 ≤ d + 5 by omega) (show 8 + (7 + 11) + 40 * (d + 0 + 4) ≤ 40 * (d + 5) by omega) (g_c0 hv.ln) (Nat.le_of_ble_eq_true rfl) dX8_goesBack_3 ?_
  intro r h33 hq _
  obtain ⟨rfl, hv33, f34, f35, f36, f37⟩ := hq
  try rw [show (1 : Int32).toInt = 1 from (ti_c (v := 1) (a := 1) (by decide))] at f34
  try rw [show (0 : Int32).toInt = 0 from (ti_c (v := 0) (a := 0) (by decide))] at f34
  try rw [show (1 : Int32).toInt = 1 from (ti_c (v := 1) (a := 1) (by decide))] at f35
  try rw [show (0 : Int32).toInt = 0 from (ti_c (v := 0) (a := 0) (by decide))] at f35
  try rw [show (1 : Int32).toInt = 1 from (ti_c (v := 1) (a := 1) (by decide))] at f36
  try rw [show (0 : Int32).toInt = 0 from (ti_c (v := 0) (a := 0) (by decide))] at f36
  try rw [show (1 : Int32).toInt = 1 from (ti_c (v := 1) (a := 1) (by decide))] at f37
  try rw [show (0 : Int32).toInt = 0 from (ti_c (v := 0) (a := 0) (by decide))] at f37
  have fx33 : FX KAq h h33 := FX.tr fx f37
  have k38 := bd_e k0 f36.symm
  refine go_iconst (pc := 6) (v := 0) (by decide) dX8_goesBack_6 ?_
  refine go_istore_n (pc := 7) (Nat.le_of_ble_eq_true rfl) dX8_goesBack_7 (go_lv (lv2 := [(0, .ref 70), (1, .int 0)]) rfl ?_)
  have z39 : (0 : Int32).toInt = 0 := (ti_c (v := 0) (a := 0) (by decide))
  exact go_lv rfl ((key 1774) 0 h33 hv33 (by omega) (by omega) f34.2.2.1 f34.2.2.2 (by have z := f35; omega) fx33 (by rw [show (0 : Int32).toInt = 0 from (ti_c (v := 0) (a := 0) (by decide))]; exact k38) (by omega))
def f_X8_inSet2_ : Nat → Nat → Int64 → Int → Int → ST → Int64
  | 0, _, _, _, _, _ => 0
  | n + 1, lab, l1, l3, l4, s => if lab = 4 then (bd (s.1 70 6) fun v1 => bd (s.1 75 (v1).toNat) fun v3 => if v3 ≤ l3 then (l1) else (f_X8_inSet2_ n 20 l1 l3 0 s)) else if 13 ≤ l4 then (f_X8_inSet2_ n 4 l1 ((l3 + 1)) 0 s) else (bd (f_X8_statementPlace2 s l3 l4) fun v17 => bd (f_X8_isInSet2 s v17) fun v21 => if v21 = 0 then (f_X8_inSet2_ n 20 l1 l3 ((l4 + 1)) s) else (bd (o_lshl (1 : Int64) l3) fun v29 => bd (o_lor l1 v29) fun v31 => f_X8_inSet2_ n 20 v31 l3 ((l4 + 1)) s))
def f_X8_inSet2 (s : ST) : Int64 :=
  f_X8_inSet2_ 2029 4 (0 : Int64) 0 0 s
set_option maxHeartbeats 4000000 in
set_option maxRecDepth 100000 in
theorem s_X8_inSet2_f (l : Launch) (d : Nat) {P : PP} {h : HP} (hv : Iv P h)  : Mt l yX8_inSet cX8_inSet 5 (some .long) (d + 2) [.ref 70] h 0 0 (fun r h' => ∃ v : Int64, r = some (.long v) ∧ h = h' ∧ (v = f_X8_inSet2 (st h))) := by
  refine Mt_iv hv (by decide) (Nat.le_of_ble_eq_true rfl) ?_
  show Go l RX8 cX8_inSet 5 (g_rm (d + 2) 0 0) "inSet" (some .long) 117 0 0 (fun _ _ => True) (fun r h' => ∃ v : Int64, r = some (.long v) ∧ h = h' ∧ (v = f_X8_inSet2 (st h))) 0 0 [(0, .ref 70)] [] h
  obtain ⟨fin, kf⟩ : ∃ z, z = f_X8_inSet2 (st h) := ⟨_, _root_.rfl⟩
  have k0 := kf
  unfold f_X8_inSet2 at k0
  have key : ∀ n : Nat, (∀ (l1 : Int64) (l3 : Int32), 0 ≤ l3.toInt → l3.toInt ≤ 40 → fin = f_X8_inSet2_ n 4 l1 l3.toInt 0 (st h) → (48 * (40 - l3.toInt) + 47 : Int) < n → Go l RX8 cX8_inSet 5 (g_rm (d + 2) 0 0) "inSet" (some .long) 117 0 0 (fun _ _ => True) (fun r h' => ∃ v : Int64, r = some (.long v) ∧ h = h' ∧ (v = f_X8_inSet2 (st h))) 0 4 [(0, .ref 70), (1, .long l1), (3, .int l3)] [] h) ∧ (∀ (l1 : Int64) (l3 : Int32) (l4 : Int32), 0 ≤ l3.toInt → l3.toInt ≤ 39 → 0 ≤ l4.toInt → l4.toInt ≤ 13 → fin = f_X8_inSet2_ n 20 l1 l3.toInt l4.toInt (st h) → (3 * (13 - l4.toInt) + 48 * (40 - l3.toInt) + 3 : Int) < n → Go l RX8 cX8_inSet 5 (g_rm (d + 2) 0 0) "inSet" (some .long) 117 0 0 (fun _ _ => True) (fun r h' => ∃ v : Int64, r = some (.long v) ∧ h = h' ∧ (v = f_X8_inSet2 (st h))) 0 20 [(0, .ref 70), (1, .long l1), (3, .int l3), (4, .int l4)] [] h) := by
    intro n
    induction n with
    | zero => exact ⟨(by intros; omega), (by intros; omega)⟩
    | succ n ih =>
      refine ⟨?_, ?_⟩
      ·
        intro l1 l3 l3l l3u kL hm
        rw [f_X8_inSet2_] at kL
        replace kL := if_t kL _root_.rfl
        refine go_iload_n (pc := 4) rfl dX8_inSet_4 ?_
        refine go_aload_n (pc := 5) rfl dX8_inSet_5 ?_
        refine gi_getF (pc := 6) (q := 75) hv fL_X8_23 rfl (Nat.le_of_ble_eq_true rfl) rfl (hv.rf (by decide)) dX8_inSet_6 ?_
        refine go_aload_n (pc := 9) rfl dX8_inSet_9 ?_
        refine gi_get (pc := 10) (lo := 0) (hi := 1) hv fL_X8_187 rfl (Nat.le_of_ble_eq_true rfl) rfl rfl dX8_inSet_10 (fun v1 v1l v1u v1w => ?_)
        have k2 := bd_e kL (congrArg Int32.toInt v1w.symm)
        refine gi_iald (pc := 13) (lo := 0) (hi := 40) (len := 2) hv (ti_rfl v1) rfl (by omega) (by omega) (fun _ => rfl) dX8_inSet_13 (fun v3 v3l v3u v3w => ?_)
        have k4 := bd_e k2 (congrArg Int32.toInt v3w.symm)
        refine gf_icmp_ge (pc := 14) (tgt := 58) (ti_rfl l3) (ti_rfl v3) (by decide) dX8_inSet_14 (fun q5 => ?_) (fun q5 => ?_)
        ·
          have k6 := if_t k4 q5
          refine go_lload_n (pc := 58) rfl dX8_inSet_58 ?_
          exact gi_lret (pc := 59) ⟨_, rfl, rfl, (k6.symm.trans kf)⟩ hv dX8_inSet_59
        ·
          have k7 := if_f k4 (Int.not_le.mpr q5)
          refine go_iconst (pc := 17) (v := 0) (by decide) dX8_inSet_17 ?_
          refine go_istore (pc := 18) (Nat.le_of_ble_eq_true rfl) dX8_inSet_18 (go_lv (lv2 := [(0, .ref 70), (1, .long l1), (3, .int l3), (4, .int 0)]) rfl ?_)
          have z8 : (0 : Int32).toInt = 0 := (ti_c (v := 0) (a := 0) (by decide))
          exact go_lv rfl (ih.2 l1 l3 0  (by omega) (by omega) (by omega) (by omega) (by rw [show (0 : Int32).toInt = 0 from (ti_c (v := 0) (a := 0) (by decide))]; exact k7) (by omega))
      ·
        intro l1 l3 l4 l3l l3u l4l l4u kL hm
        rw [f_X8_inSet2_] at kL
        replace kL := if_f kL (by decide)
        refine go_iload (pc := 20) rfl dX8_inSet_20 ?_
        refine go_bipush (pc := 22) (v := 13) (by decide) dX8_inSet_22 ?_
        refine gf_icmp_ge (pc := 24) (tgt := 52) (ti_rfl l4) (ti_c (v := 13) (a := 13) (by decide)) (by decide) dX8_inSet_24 (fun q9 => ?_) (fun q9 => ?_)
        ·
          have k10 := if_t kL q9
          refine gf_iinc (pc := 52) (Nat.le_of_ble_eq_true rfl) rfl (ti_rfl l3) (ti_c (by decide)) (by omega) (by omega) dX8_inSet_52 (fun v11 e12 => ?_)
          refine go_lv (lv2 := [(0, .ref 70), (1, .long l1), (3, .int v11), (4, .int l4)]) rfl ?_
          refine go_goto (pc := 55) (tgt := 4) (by decide) dX8_inSet_55 ?_
          have z13 : (v11 : Int32).toInt = (l3.toInt + 1) := e12
          exact go_lv rfl (ih.1 l1 v11  (by omega) (by omega) (by rw [show (v11 : Int32).toInt = (l3.toInt + 1) from e12]; exact k10) (by omega))
        ·
          have k14 := if_f kL (Int.not_le.mpr q9)
          refine go_aload_n (pc := 27) rfl dX8_inSet_27 ?_
          refine go_iload_n (pc := 28) rfl dX8_inSet_28 ?_
          refine go_iload (pc := 29) rfl dX8_inSet_29 ?_
          refine go_invS (pc := 31) (sl := 0) (s_X8_statementPlace2_f l (d + 0) hv l3 (by rw [show (l3 : Int32).toInt = l3.toInt from (ti_rfl l3)]; omega) (by rw [show (l3 : Int32).toInt = l3.toInt from (ti_rfl l3)]; omega) l4 (by rw [show (l4 : Int32).toInt = l4.toInt from (ti_rfl l4)]; omega) (by rw [show (l4 : Int32).toInt = l4.toInt from (ti_rfl l4)]; omega)) mL_X8_291 iM_X8_statementPlace rfl rfl (Nat.le_of_ble_eq_true rfl) (show d + 0 + 1 + 1 ≤ d + 2 by omega) (show 8 + (2 + 11) + 40 * (d + 0 + 1) ≤ 40 * (d + 2) by omega) (g_c0 hv.ln) (Nat.le_of_ble_eq_true rfl) dX8_inSet_31 ?_
          intro r h15 hq _
          obtain ⟨v17, rfl, v17l, v17u, rfl, f16⟩ := hq
          replace f16 : PE _ _ := f16
          have k18 := bd_e k14 f16.symm
          refine go_invV (pc := 34) (sl := 0) (s_X8_isInSet2_f l (d + 0) hv v17 (by rw [show (v17 : Int32).toInt = v17.toInt from (ti_rfl v17)]; omega) (by rw [show (v17 : Int32).toInt = v17.toInt from (ti_rfl v17)]; omega)) mL_X8_341 iM_X8_isInSet sM_X8_isInSet (hv.sh rfl) rfl rfl rfl (Nat.le_of_ble_eq_true rfl) (show d + 0 + 1 + 1 ≤ d + 2 by omega) (show 8 + (2 + 11) + 40 * (d + 0 + 1) ≤ 40 * (d + 2) by omega) (g_c0 hv.ln) (Nat.le_of_ble_eq_true rfl) dX8_inSet_34 ?_
          intro r h19 hq _
          obtain ⟨v21, rfl, v21l, v21u, rfl, f20⟩ := hq
          replace f20 : PE _ _ := f20
          have k22 := bd_e k18 f20.symm
          refine gf_if_eq (pc := 37) (tgt := 46) (ti_rfl v21) (by decide) dX8_inSet_37 (fun q23 => ?_) (fun q23 => ?_)
          ·
            have k24 := if_t k22 q23
            refine gf_iinc (pc := 46) (Nat.le_of_ble_eq_true rfl) rfl (ti_rfl l4) (ti_c (by decide)) (by omega) (by omega) dX8_inSet_46 (fun v25 e26 => ?_)
            refine go_lv (lv2 := [(0, .ref 70), (1, .long l1), (3, .int l3), (4, .int v25)]) rfl ?_
            refine go_goto (pc := 49) (tgt := 20) (by decide) dX8_inSet_49 ?_
            have z27 : (v25 : Int32).toInt = (l4.toInt + 1) := e26
            exact go_lv rfl (ih.2 l1 l3 v25  (by omega) (by omega) (by omega) (by omega) (by rw [show (v25 : Int32).toInt = (l4.toInt + 1) from e26]; exact k24) (by omega))
          ·
            have k28 := if_f k22 q23
            refine go_lload_n (pc := 40) rfl dX8_inSet_40 ?_
            refine go_lconst (pc := 41) (v := 1) (by decide) dX8_inSet_41 ?_
            refine go_iload_n (pc := 42) rfl dX8_inSet_42 ?_
            refine gx_lshl (pc := 43) dX8_inSet_43 (fun v29 v29x => ?_)
            have k30 := bd_e k28 (so_lshl (ti_rfl l3) v29x)
            refine gx_lor (pc := 44) dX8_inSet_44 (fun v31 v31x => ?_)
            have k32 := bd_e k30 (so_lor v31x)
            refine go_lstore_n (pc := 45) (Nat.le_of_ble_eq_true rfl) dX8_inSet_45 (go_lv (lv2 := [(0, .ref 70), (1, .long v31), (3, .int l3), (4, .int l4)]) rfl ?_)
            refine gf_iinc (pc := 46) (Nat.le_of_ble_eq_true rfl) rfl (ti_rfl l4) (ti_c (by decide)) (by omega) (by omega) dX8_inSet_46 (fun v33 e34 => ?_)
            refine go_lv (lv2 := [(0, .ref 70), (1, .long v31), (3, .int l3), (4, .int v33)]) rfl ?_
            refine go_goto (pc := 49) (tgt := 20) (by decide) dX8_inSet_49 ?_
            have z35 : (v33 : Int32).toInt = (l4.toInt + 1) := e34
            exact go_lv rfl (ih.2 v31 l3 v33  (by omega) (by omega) (by omega) (by omega) (by rw [show (v33 : Int32).toInt = (l4.toInt + 1) from e34]; exact k32) (by omega))
  refine go_lconst (pc := 0) (v := 0) (by decide) dX8_inSet_0 ?_
  refine go_lstore_n (pc := 1) (Nat.le_of_ble_eq_true rfl) dX8_inSet_1 (go_lv (lv2 := [(0, .ref 70), (1, .long 0)]) rfl ?_)
  refine go_iconst (pc := 2) (v := 0) (by decide) dX8_inSet_2 ?_
  refine go_istore_n (pc := 3) (Nat.le_of_ble_eq_true rfl) dX8_inSet_3 (go_lv (lv2 := [(0, .ref 70), (1, .long 0), (3, .int 0)]) rfl ?_)
  have z36 : (0 : Int32).toInt = 0 := (ti_c (v := 0) (a := 0) (by decide))
  exact go_lv rfl ((key 2029).1 0 0  (by omega) (by omega) (by rw [show (0 : Int32).toInt = 0 from (ti_c (v := 0) (a := 0) (by decide))]; exact k0) (by omega))
def f_X8_reachAll2_ : Nat → Nat → Int → Int → ST → ST
  | 0, _, _, _, sx => sx
  | n + 1, _, l1, l2, sx => bd (f_X8_kindAt2 sx l1) fun v4 => if ¬ v4 = 1 then (if 1 ≤ l2 then (sx) else (bd (f_X8_statementPlace2 sx l1 l2) fun v13 => bd (f_X8_reach2 sx v13) fun s15 => f_X8_reachAll2_ n 2 l1 ((l2 + 1)) s15)) else (if 13 ≤ l2 then (sx) else (bd (f_X8_statementPlace2 sx l1 l2) fun v30 => bd (f_X8_reach2 sx v30) fun s32 => f_X8_reachAll2_ n 2 l1 ((l2 + 1)) s32))
def f_X8_reachAll2 (s : ST) (a2 : Int) : ST :=
  f_X8_reachAll2_ 58 2 a2 0 s
set_option maxHeartbeats 4000000 in
set_option maxRecDepth 100000 in
theorem s_X8_reachAll2_f (l : Launch) (d : Nat) {P : PP} {h : HP} (hv : Iv P h) (a2 : Int32) (a2l : 0 ≤ a2.toInt) (a2u : a2.toInt ≤ 39) (hw : WT h.2.1 ≤ ct h.2.1 109) : Mt l yX8_reachAll cX8_reachAll 3 none (d + 3) [.ref 70, .int a2] h 0 0 (fun r h' => r = none ∧ Iv P h' ∧ (PH h.2.1 h'.2.1) ∧ (st h' = f_X8_reachAll2 (st h) a2.toInt) ∧ (FX KAq h h')) := by
  refine Mt_iv hv (by decide) (Nat.le_of_ble_eq_true rfl) ?_
  show Go l RX8 cX8_reachAll 3 (g_rm (d + 3) 0 0) "reachAll" none 117 0 0 (fun _ _ => True) (fun r h' => r = none ∧ Iv P h' ∧ (PH h.2.1 h'.2.1) ∧ (st h' = f_X8_reachAll2 (st h) a2.toInt) ∧ (FX KAq h h')) 0 0 [(0, .ref 70), (1, .int a2)] [] h
  have fx : FX KAq h h := FX.rfl
  obtain ⟨fin, kf⟩ : ∃ z, z = f_X8_reachAll2 (st h) a2.toInt := ⟨_, _root_.rfl⟩
  have k0 := kf
  unfold f_X8_reachAll2 at k0
  have key : ∀ n : Nat, (∀ (l1 : Int32) (l2 : Int32) (hx : HP), Iv P hx → 0 ≤ l1.toInt → l1.toInt ≤ 39 → 0 ≤ l2.toInt → l2.toInt ≤ 13 → (PH h.2.1 hx.2.1) → FX KAq h hx → fin = f_X8_reachAll2_ n 2 l1.toInt l2.toInt (st hx) → (3 * (13 - l2.toInt) + 2 : Int) < n → Go l RX8 cX8_reachAll 3 (g_rm (d + 3) 0 0) "reachAll" none 117 0 0 (fun _ _ => True) (fun r h' => r = none ∧ Iv P h' ∧ (PH h.2.1 h'.2.1) ∧ (st h' = f_X8_reachAll2 (st h) a2.toInt) ∧ (FX KAq h h')) 0 2 [(0, .ref 70), (1, .int l1), (2, .int l2)] [] hx) := by
    intro n
    induction n with
    | zero => exact (by intros; omega)
    | succ n ih =>
      refine ?_
      ·
        intro l1 l2 hx hvx l1l l1u l2l l2u x0 fxx kL hm
        rw [f_X8_reachAll2_] at kL
        refine go_iload_n (pc := 2) rfl dX8_reachAll_2 ?_
        refine go_aload_n (pc := 3) rfl dX8_reachAll_3 ?_
        refine go_iload_n (pc := 4) rfl dX8_reachAll_4 ?_
        refine go_invV (pc := 5) (sl := 0) (s_X8_kindAt2_f l (d + 0) hvx l1 (by rw [show (l1 : Int32).toInt = l1.toInt from (ti_rfl l1)]; omega) (by rw [show (l1 : Int32).toInt = l1.toInt from (ti_rfl l1)]; omega)) mL_X8_271 iM_X8_kindAt sM_X8_kindAt (hvx.sh rfl) rfl rfl rfl (Nat.le_of_ble_eq_true rfl) (show d + 0 + 2 + 1 ≤ d + 3 by omega) (show 8 + (2 + 11) + 40 * (d + 0 + 2) ≤ 40 * (d + 3) by omega) (g_c0 hvx.ln) (Nat.le_of_ble_eq_true rfl) dX8_reachAll_5 ?_
        intro r h1 hq _
        obtain ⟨v4, rfl, v4l, v4u, rfl, f2, f3⟩ := hq
        replace f3 : PE _ _ := f3
        have k5 := bd_e kL f3.symm
        refine go_iconst (pc := 8) (v := 1) (by decide) dX8_reachAll_8 ?_
        refine gf_icmp_ne (pc := 9) (tgt := 17) (ti_rfl v4) (ti_c (v := 1) (a := 1) (by decide)) (by decide) dX8_reachAll_9 (fun q6 => ?_) (fun q6 => ?_)
        ·
          have k7 := if_t k5 q6
          refine go_iconst (pc := 17) (v := 1) (by decide) dX8_reachAll_17 ?_
          refine gf_icmp_ge (pc := 18) (tgt := 36) (ti_rfl l2) (ti_c (v := 1) (a := 1) (by decide)) (by decide) dX8_reachAll_18 (fun q8 => ?_) (fun q8 => ?_)
          ·
            have k9 := if_t k7 q8
            exact gi_vret (pc := 36) ⟨rfl, hvx, x0, (k9.symm.trans kf), fxx⟩ hvx dX8_reachAll_36
          ·
            have k10 := if_f k7 (Int.not_le.mpr q8)
            refine go_aload_n (pc := 21) rfl dX8_reachAll_21 ?_
            refine go_iload_n (pc := 22) rfl dX8_reachAll_22 ?_
            refine go_iload_n (pc := 23) rfl dX8_reachAll_23 ?_
            refine go_invS (pc := 24) (sl := 0) (s_X8_statementPlace2_f l (d + 1) hvx l1 (by rw [show (l1 : Int32).toInt = l1.toInt from (ti_rfl l1)]; omega) (by rw [show (l1 : Int32).toInt = l1.toInt from (ti_rfl l1)]; omega) l2 (by rw [show (l2 : Int32).toInt = l2.toInt from (ti_rfl l2)]; omega) (by rw [show (l2 : Int32).toInt = l2.toInt from (ti_rfl l2)]; omega)) mL_X8_291 iM_X8_statementPlace rfl rfl (Nat.le_of_ble_eq_true rfl) (show d + 1 + 1 + 1 ≤ d + 3 by omega) (show 8 + (2 + 11) + 40 * (d + 1 + 1) ≤ 40 * (d + 3) by omega) (g_c0 hvx.ln) (Nat.le_of_ble_eq_true rfl) dX8_reachAll_24 ?_
            intro r h11 hq _
            obtain ⟨v13, rfl, v13l, v13u, rfl, f12⟩ := hq
            replace f12 : PE _ _ := f12
            have k14 := bd_e k10 f12.symm
            refine go_invV (pc := 27) (sl := 0) (s_X8_reach2_f l (d + 0) hvx v13 (by rw [show (v13 : Int32).toInt = v13.toInt from (ti_rfl v13)]; omega) (by rw [show (v13 : Int32).toInt = v13.toInt from (ti_rfl v13)]; omega) x0.1) mL_X8_347 iM_X8_reach sM_X8_reach (hvx.sh rfl) rfl rfl rfl (Nat.le_of_ble_eq_true rfl) (show d + 0 + 2 + 1 ≤ d + 3 by omega) (show 8 + (2 + 11) + 40 * (d + 0 + 2) ≤ 40 * (d + 3) by omega) (g_c0 hvx.ln) (Nat.le_of_ble_eq_true rfl) dX8_reachAll_27 ?_
            intro r h15 hq _
            obtain ⟨rfl, hv15, f16, f17, f18⟩ := hq
            have fx15 : FX KAq h h15 := FX.tr fxx f18
            have k19 := bd_e k14 f17.symm
            have ph20s := (RC.ph f16 (by omega) (by omega) x0.1)
            have ph20c := ph20s.2.1
            have ph20 : PH h.2.1 h15.2.1 := x0.trans ph20s
            have ph20a := ph20.1
            have ph20b := ph20.2.1
            refine gf_iinc (pc := 30) (Nat.le_of_ble_eq_true rfl) rfl (ti_rfl l2) (ti_c (by decide)) (by omega) (by omega) dX8_reachAll_30 (fun v21 e22 => ?_)
            refine go_lv (lv2 := [(0, .ref 70), (1, .int l1), (2, .int v21)]) rfl ?_
            refine go_goto (pc := 33) (tgt := 2) (by decide) dX8_reachAll_33 ?_
            have z23 : (v21 : Int32).toInt = (l2.toInt + 1) := e22
            exact go_lv rfl (ih l1 v21 h15 hv15 (by omega) (by omega) (by omega) (by omega) ph20 fx15 (by rw [show (v21 : Int32).toInt = (l2.toInt + 1) from e22]; exact k19) (by omega))
        ·
          have k24 := if_f k5 (fun z => z q6)
          refine go_bipush (pc := 12) (v := 13) (by decide) dX8_reachAll_12 ?_
          refine go_goto (pc := 14) (tgt := 18) (by decide) dX8_reachAll_14 ?_
          refine gf_icmp_ge (pc := 18) (tgt := 36) (ti_rfl l2) (ti_c (v := 13) (a := 13) (by decide)) (by decide) dX8_reachAll_18 (fun q25 => ?_) (fun q25 => ?_)
          ·
            have k26 := if_t k24 q25
            exact gi_vret (pc := 36) ⟨rfl, hvx, x0, (k26.symm.trans kf), fxx⟩ hvx dX8_reachAll_36
          ·
            have k27 := if_f k24 (Int.not_le.mpr q25)
            refine go_aload_n (pc := 21) rfl dX8_reachAll_21 ?_
            refine go_iload_n (pc := 22) rfl dX8_reachAll_22 ?_
            refine go_iload_n (pc := 23) rfl dX8_reachAll_23 ?_
            refine go_invS (pc := 24) (sl := 0) (s_X8_statementPlace2_f l (d + 1) hvx l1 (by rw [show (l1 : Int32).toInt = l1.toInt from (ti_rfl l1)]; omega) (by rw [show (l1 : Int32).toInt = l1.toInt from (ti_rfl l1)]; omega) l2 (by rw [show (l2 : Int32).toInt = l2.toInt from (ti_rfl l2)]; omega) (by rw [show (l2 : Int32).toInt = l2.toInt from (ti_rfl l2)]; omega)) mL_X8_291 iM_X8_statementPlace rfl rfl (Nat.le_of_ble_eq_true rfl) (show d + 1 + 1 + 1 ≤ d + 3 by omega) (show 8 + (2 + 11) + 40 * (d + 1 + 1) ≤ 40 * (d + 3) by omega) (g_c0 hvx.ln) (Nat.le_of_ble_eq_true rfl) dX8_reachAll_24 ?_
            intro r h28 hq _
            obtain ⟨v30, rfl, v30l, v30u, rfl, f29⟩ := hq
            replace f29 : PE _ _ := f29
            have k31 := bd_e k27 f29.symm
            refine go_invV (pc := 27) (sl := 0) (s_X8_reach2_f l (d + 0) hvx v30 (by rw [show (v30 : Int32).toInt = v30.toInt from (ti_rfl v30)]; omega) (by rw [show (v30 : Int32).toInt = v30.toInt from (ti_rfl v30)]; omega) x0.1) mL_X8_347 iM_X8_reach sM_X8_reach (hvx.sh rfl) rfl rfl rfl (Nat.le_of_ble_eq_true rfl) (show d + 0 + 2 + 1 ≤ d + 3 by omega) (show 8 + (2 + 11) + 40 * (d + 0 + 2) ≤ 40 * (d + 3) by omega) (g_c0 hvx.ln) (Nat.le_of_ble_eq_true rfl) dX8_reachAll_27 ?_
            intro r h32 hq _
            obtain ⟨rfl, hv32, f33, f34, f35⟩ := hq
            have fx32 : FX KAq h h32 := FX.tr fxx f35
            have k36 := bd_e k31 f34.symm
            have ph37s := (RC.ph f33 (by omega) (by omega) x0.1)
            have ph37c := ph37s.2.1
            have ph37 : PH h.2.1 h32.2.1 := x0.trans ph37s
            have ph37a := ph37.1
            have ph37b := ph37.2.1
            refine gf_iinc (pc := 30) (Nat.le_of_ble_eq_true rfl) rfl (ti_rfl l2) (ti_c (by decide)) (by omega) (by omega) dX8_reachAll_30 (fun v38 e39 => ?_)
            refine go_lv (lv2 := [(0, .ref 70), (1, .int l1), (2, .int v38)]) rfl ?_
            refine go_goto (pc := 33) (tgt := 2) (by decide) dX8_reachAll_33 ?_
            have z40 : (v38 : Int32).toInt = (l2.toInt + 1) := e39
            exact go_lv rfl (ih l1 v38 h32 hv32 (by omega) (by omega) (by omega) (by omega) ph37 fx32 (by rw [show (v38 : Int32).toInt = (l2.toInt + 1) from e39]; exact k36) (by omega))
  have ph0 : PH h.2.1 h.2.1 := PH.rfl hw
  refine go_iconst (pc := 0) (v := 0) (by decide) dX8_reachAll_0 ?_
  refine go_istore_n (pc := 1) (Nat.le_of_ble_eq_true rfl) dX8_reachAll_1 (go_lv (lv2 := [(0, .ref 70), (1, .int a2), (2, .int 0)]) rfl ?_)
  have z41 : (0 : Int32).toInt = 0 := (ti_c (v := 0) (a := 0) (by decide))
  exact go_lv rfl ((key 58) a2 0 h hv (by omega) (by omega) (by omega) (by omega) ph0 fx (by rw [show (0 : Int32).toInt = 0 from (ti_c (v := 0) (a := 0) (by decide))]; exact k0) (by omega))
noncomputable def f_X8_laysAll2_ : Nat → Nat → Int → ST → ST
  | 0, _, _, sx => sx
  | n + 1, lab, l1, sx => if lab = 2 then (if 11115 ≤ l1 then (bd (f_X8_laysValues2 sx) fun s4 => bd (f_X8_laysWay2 s4) fun s9 => bd (f_X8_laysThrough2 s9) fun s13 => f_X8_laysAll2_ n 36 0 s13) else (bd (sI sx 103 (l1).toNat 0) fun s20 => f_X8_laysAll2_ n 2 ((l1 + 1)) s20)) else bd (sx.1 70 6) fun v25 => bd (sx.1 75 (v25).toNat) fun v27 => if v27 ≤ l1 then (sx) else (bd (f_X8_empties_x2 sx) fun s32 => bd (f_X8_reachAll2 s32 l1) fun s38 => bd (f_X8_goesBack2 s38) fun s43 => bd (f_X8_inSet2 s43) fun v51 => bd (sL s43 111 (l1).toNat v51) fun s53 => f_X8_laysAll2_ n 36 ((l1 + 1)) s53)
noncomputable def f_X8_laysAll2 (s : ST) : ST :=
  f_X8_laysAll2_ (BG 33490) 2 0 s
set_option maxHeartbeats 4000000 in
set_option maxRecDepth 100000 in
theorem s_X8_laysAll2_f (l : Launch) (d : Nat) {P : PP} {h : HP} (hv : Iv P h) (ckf : CKF h.2.1) (ht : TR h.2.1 (h.2.1 70 6).toInt) (hwi : WI h.2.1 (h.2.1 70 6).toInt) : Mt l yX8_laysAll cX8_laysAll 2 none (d + 8) [.ref 70] h 0 0 (fun r h' => r = none ∧ Iv P h' ∧ (st h' = f_X8_laysAll2 (st h)) ∧ (FX KAr h h')) := by
  refine Mt_iv hv (by decide) (Nat.le_of_ble_eq_true rfl) ?_
  show Go l RX8 cX8_laysAll 2 (g_rm (d + 8) 0 0) "laysAll" none 117 0 0 (fun _ _ => True) (fun r h' => r = none ∧ Iv P h' ∧ (st h' = f_X8_laysAll2 (st h)) ∧ (FX KAr h h')) 0 0 [(0, .ref 70)] [] h
  obtain ⟨S, hS⟩ : ∃ S : Int, S = (h.2.1 70 6).toInt := ⟨_, rfl⟩
  have S0 : 0 ≤ S := by rw [hS]; exact (hv.2.1 70 6).1
  have S1 : S ≤ 1 := by rw [hS]; exact (hv.2.1 70 6).2
  rw [← hS] at ht
  rw [← hS] at hwi
  have fx : FX KAr h h := FX.rfl
  obtain ⟨fin, kf⟩ : ∃ z, z = f_X8_laysAll2 (st h) := ⟨_, _root_.rfl⟩
  have k0 := kf
  unfold f_X8_laysAll2 at k0
  have key : ∀ n : Nat, (∀ (l1 : Int32) (hx : HP), Iv P hx → 0 ≤ l1.toInt → l1.toInt ≤ 11115 → FX KAr h hx → fin = f_X8_laysAll2_ n 2 l1.toInt (st hx) → (3 * (11115 - l1.toInt) + 128 : Int) < n → Go l RX8 cX8_laysAll 2 (g_rm (d + 8) 0 0) "laysAll" none 117 0 0 (fun _ _ => True) (fun r h' => r = none ∧ Iv P h' ∧ (st h' = f_X8_laysAll2 (st h)) ∧ (FX KAr h h')) 0 2 [(0, .ref 70), (1, .int l1)] [] hx) ∧ (∀ (l1 : Int32) (hx : HP), Iv P hx → 0 ≤ l1.toInt → l1.toInt ≤ 40 → FX KAr h hx → fin = f_X8_laysAll2_ n 36 l1.toInt (st hx) → (3 * (40 - l1.toInt) + 2 : Int) < n → Go l RX8 cX8_laysAll 2 (g_rm (d + 8) 0 0) "laysAll" none 117 0 0 (fun _ _ => True) (fun r h' => r = none ∧ Iv P h' ∧ (st h' = f_X8_laysAll2 (st h)) ∧ (FX KAr h h')) 0 36 [(0, .ref 70), (1, .int l1)] [] hx) := by
    intro n
    induction n with
    | zero => exact ⟨(by intros; omega), (by intros; omega)⟩
    | succ n ih =>
      refine ⟨?_, ?_⟩
      ·
        intro l1 hx hvx l1l l1u fxx kL hm
        rw [f_X8_laysAll2_] at kL
        replace kL := if_t kL _root_.rfl
        refine go_iload_n (pc := 2) rfl dX8_laysAll_2 ?_
        refine go_sipush (pc := 3) (v := 11115) (by decide) dX8_laysAll_3 ?_
        refine gf_icmp_ge (pc := 6) (tgt := 22) (ti_rfl l1) (ti_c (v := 11115) (a := 11115) (by decide)) (by decide) dX8_laysAll_6 (fun q1 => ?_) (fun q1 => ?_)
        ·
          have k2 := if_t kL q1
          refine go_aload_n (pc := 22) rfl dX8_laysAll_22 ?_
          have sM3 : (hx.2.1 70 6).toInt = S := by rw [hvx.fy (j := 6) (by omega), ← hv.fy (j := 6) (by omega)]; exact hS.symm
          refine go_invV (pc := 23) (sl := 0) (s_X8_laysValues2_f l (d + 0) hvx (CKF.ve (VE.of hv hvx) ckf) (by rw [sM3]; exact (TR.ve (VE.of hv hvx) ht))) mL_X8_363 iM_X8_laysValues sM_X8_laysValues (hvx.sh rfl) rfl rfl rfl (Nat.le_of_ble_eq_true rfl) (show d + 0 + 7 + 1 ≤ d + 8 by omega) (show 8 + (4 + 11) + 40 * (d + 0 + 7) ≤ 40 * (d + 8) by omega) (g_c0 hvx.ln) (Nat.le_of_ble_eq_true rfl) dX8_laysAll_23 ?_
          intro r h4 hq _
          obtain ⟨rfl, hv4, f5, f6⟩ := hq
          have fx4 : FX KAr h h4 := FX.tr fxx f6
          have k7 := bd_e k2 f5.symm
          refine go_aload_n (pc := 26) rfl dX8_laysAll_26 ?_
          have sM8 : (h4.2.1 70 6).toInt = S := by rw [hv4.fy (j := 6) (by omega), ← hv.fy (j := 6) (by omega)]; exact hS.symm
          refine go_invV (pc := 27) (sl := 0) (s_X8_laysWay2_f l (d + 1) hv4 (CKF.ve (VE.of hv hv4) ckf) (by rw [sM8]; exact (WI.ve (VE.of hv hv4) hwi))) mL_X8_366 iM_X8_laysWay sM_X8_laysWay (hv4.sh rfl) rfl rfl rfl (Nat.le_of_ble_eq_true rfl) (show d + 1 + 6 + 1 ≤ d + 8 by omega) (show 8 + (6 + 11) + 40 * (d + 1 + 6) ≤ 40 * (d + 8) by omega) (g_c0 hv4.ln) (Nat.le_of_ble_eq_true rfl) dX8_laysAll_27 ?_
          intro r h9 hq _
          obtain ⟨rfl, hv9, f10, f11⟩ := hq
          have fx9 : FX KAr h h9 := FX.tr fx4 f11
          have k12 := bd_e k7 f10.symm
          refine go_aload_n (pc := 30) rfl dX8_laysAll_30 ?_
          refine go_invV (pc := 31) (sl := 0) (s_X8_laysThrough2_f l (d + 2) hv9 (CKF.ve (VE.of hv hv9) ckf)) mL_X8_369 iM_X8_laysThrough sM_X8_laysThrough (hv9.sh rfl) rfl rfl rfl (Nat.le_of_ble_eq_true rfl) (show d + 2 + 5 + 1 ≤ d + 8 by omega) (show 8 + (5 + 11) + 40 * (d + 2 + 5) ≤ 40 * (d + 8) by omega) (g_c0 hv9.ln) (Nat.le_of_ble_eq_true rfl) dX8_laysAll_31 ?_
          intro r h13 hq _
          obtain ⟨rfl, hv13, f14, f15, f16⟩ := hq
          have fx13 : FX KAr h h13 := FX.tr fx9 f16
          have k17 := bd_e k12 f15.symm
          refine go_iconst (pc := 34) (v := 0) (by decide) dX8_laysAll_34 ?_
          refine go_istore_n (pc := 35) (Nat.le_of_ble_eq_true rfl) dX8_laysAll_35 (go_lv (lv2 := [(0, .ref 70), (1, .int 0)]) rfl ?_)
          have z18 : (0 : Int32).toInt = 0 := (ti_c (v := 0) (a := 0) (by decide))
          exact go_lv rfl (ih.2 0 h13 hv13 (by omega) (by omega) fx13 (by rw [show (0 : Int32).toInt = 0 from (ti_c (v := 0) (a := 0) (by decide))]; exact k17) (by omega))
        ·
          have k19 := if_f kL (Int.not_le.mpr q1)
          refine go_aload_n (pc := 9) rfl dX8_laysAll_9 ?_
          refine gi_getF (pc := 10) (q := 103) hvx fL_X8_108 rfl (Nat.le_of_ble_eq_true rfl) rfl (hvx.rf (by decide)) dX8_laysAll_10 ?_
          refine go_iload_n (pc := 13) rfl dX8_laysAll_13 ?_
          refine go_iconst (pc := 14) (v := 0) (by decide) dX8_laysAll_14 ?_
          refine gi_iast (pc := 15) (lo := -2147483648) (hi := 2147483647) (len := 11115) hvx (ti_rfl l1) (ti_c (v := 0) (a := 0) (by decide)) rfl (by omega) (by omega) (fun _ => rfl) (ti_ge (ti_c (v := 0) (a := 0) (by decide))) (ti_le2 (ti_c (v := 0) (a := 0) (by decide))) (by decide) dX8_laysAll_15 (fun h20 hv20 hv20e => ?_)
          have fx20 : FX KAr h h20 := FX.pI fxx hv20e (by unfold KAr; omega)
          have k21 := bd_e k19 (st_I hv20e (ti_c (v := 0) (a := 0) (by decide)))
          refine gf_iinc (pc := 16) (Nat.le_of_ble_eq_true rfl) rfl (ti_rfl l1) (ti_c (by decide)) (by omega) (by omega) dX8_laysAll_16 (fun v22 e23 => ?_)
          refine go_lv (lv2 := [(0, .ref 70), (1, .int v22)]) rfl ?_
          refine go_goto (pc := 19) (tgt := 2) (by decide) dX8_laysAll_19 ?_
          have z24 : (v22 : Int32).toInt = (l1.toInt + 1) := e23
          exact go_lv rfl (ih.1 v22 h20 hv20 (by omega) (by omega) fx20 (by rw [show (v22 : Int32).toInt = (l1.toInt + 1) from e23]; exact k21) (by omega))
      ·
        intro l1 hx hvx l1l l1u fxx kL hm
        rw [f_X8_laysAll2_] at kL
        replace kL := if_f kL (by decide)
        refine go_iload_n (pc := 36) rfl dX8_laysAll_36 ?_
        refine go_aload_n (pc := 37) rfl dX8_laysAll_37 ?_
        refine gi_getF (pc := 38) (q := 75) hvx fL_X8_23 rfl (Nat.le_of_ble_eq_true rfl) rfl (hvx.rf (by decide)) dX8_laysAll_38 ?_
        refine go_aload_n (pc := 41) rfl dX8_laysAll_41 ?_
        refine gi_get (pc := 42) (lo := 0) (hi := 1) hvx fL_X8_187 rfl (Nat.le_of_ble_eq_true rfl) rfl rfl dX8_laysAll_42 (fun v25 v25l v25u v25w => ?_)
        have k26 := bd_e kL (congrArg Int32.toInt v25w.symm)
        have v25S : v25.toInt = S := by rw [v25w, hvx.fy (j := 6) (by omega), ← hv.fy (j := 6) (by omega)]; exact hS.symm
        refine gi_iald (pc := 45) (lo := 0) (hi := 40) (len := 2) hvx (ti_rfl v25) rfl (by omega) (by omega) (fun _ => rfl) dX8_laysAll_45 (fun v27 v27l v27u v27w => ?_)
        have k28 := bd_e k26 (congrArg Int32.toInt v27w.symm)
        have v27V : v27.toInt = V h.2.1 75 S := by rw [v27w, v25S, hvx.fz (c := 75) (by omega) (by omega), ← hv.fz (c := 75) (by omega) (by omega)]; rfl
        refine gf_icmp_ge (pc := 46) (tgt := 78) (ti_rfl l1) (ti_rfl v27) (by decide) dX8_laysAll_46 (fun q29 => ?_) (fun q29 => ?_)
        ·
          have k30 := if_t k28 q29
          exact gi_vret (pc := 78) ⟨rfl, hvx, (k30.symm.trans kf), fxx⟩ hvx dX8_laysAll_78
        ·
          have k31 := if_f k28 (Int.not_le.mpr q29)
          refine go_aload_n (pc := 49) rfl dX8_laysAll_49 ?_
          refine go_invV (pc := 50) (sl := 0) (s_X8_empties_x2_f l (d + 6) hvx ) mL_X8_356 iM_X8_empties sM_X8_empties (hvx.sh rfl) rfl rfl rfl (Nat.le_of_ble_eq_true rfl) (show d + 6 + 1 + 1 ≤ d + 8 by omega) (show 8 + (2 + 11) + 40 * (d + 6 + 1) ≤ 40 * (d + 8) by omega) (g_c0 hvx.ln) (Nat.le_of_ble_eq_true rfl) dX8_laysAll_50 ?_
          intro r h32 hq _
          obtain ⟨rfl, hv32, f33, f34, f35, f36⟩ := hq
          have fx32 : FX KAr h h32 := FX.tr fxx (FX.mono (fun c j z => by unfold KAr at z; unfold KAq; omega) f36)
          have k37 := bd_e k31 f35.symm
          refine go_aload_n (pc := 53) rfl dX8_laysAll_53 ?_
          refine go_iload_n (pc := 54) rfl dX8_laysAll_54 ?_
          refine go_invV (pc := 55) (sl := 0) (s_X8_reachAll2_f l (d + 4) hv32 l1 (by rw [show (l1 : Int32).toInt = l1.toInt from (ti_rfl l1)]; omega) (by rw [show (l1 : Int32).toInt = l1.toInt from (ti_rfl l1)]; omega) (EM.hw f33)) mL_X8_372 iM_X8_reachAll sM_X8_reachAll (hv32.sh rfl) rfl rfl rfl (Nat.le_of_ble_eq_true rfl) (show d + 4 + 3 + 1 ≤ d + 8 by omega) (show 8 + (3 + 11) + 40 * (d + 4 + 3) ≤ 40 * (d + 8) by omega) (g_c0 hv32.ln) (Nat.le_of_ble_eq_true rfl) dX8_laysAll_55 ?_
          intro r h38 hq _
          obtain ⟨rfl, hv38, f39, f40, f41⟩ := hq
          have fx38 : FX KAr h h38 := FX.tr fx32 (FX.mono (fun c j z => by unfold KAr at z; unfold KAq; omega) f41)
          have k42 := bd_e k37 f40.symm
          refine go_aload_n (pc := 58) rfl dX8_laysAll_58 ?_
          refine go_invV (pc := 59) (sl := 0) (s_X8_goesBack2_f l (d + 2) hv38 f39.1 (CKF.ve (VE.of hv hv38) ckf)) mL_X8_375 iM_X8_goesBack sM_X8_goesBack (hv38.sh rfl) rfl rfl rfl (Nat.le_of_ble_eq_true rfl) (show d + 2 + 5 + 1 ≤ d + 8 by omega) (show 8 + (2 + 11) + 40 * (d + 2 + 5) ≤ 40 * (d + 8) by omega) (g_c0 hv38.ln) (Nat.le_of_ble_eq_true rfl) dX8_laysAll_59 ?_
          intro r h43 hq _
          obtain ⟨rfl, hv43, f44, f45, f46, f47⟩ := hq
          have fx43 : FX KAr h h43 := FX.tr fx38 (FX.mono (fun c j z => by unfold KAr at z; unfold KAq; omega) f47)
          have k48 := bd_e k42 f46.symm
          refine go_aload_n (pc := 62) rfl dX8_laysAll_62 ?_
          refine gi_getF (pc := 63) (q := 111) hv43 fL_X8_133 rfl (Nat.le_of_ble_eq_true rfl) rfl (hv43.rf (by decide)) dX8_laysAll_63 ?_
          refine go_iload_n (pc := 66) rfl dX8_laysAll_66 ?_
          refine go_aload_n (pc := 67) rfl dX8_laysAll_67 ?_
          refine go_invV (pc := 68) (sl := 0) (s_X8_inSet2_f l (d + 5) hv43 ) mL_X8_378 iM_X8_inSet sM_X8_inSet (hv43.sh rfl) rfl rfl rfl (Nat.le_of_ble_eq_true rfl) (show d + 5 + 2 + 1 ≤ d + 8 by omega) (show 8 + (5 + 11) + 40 * (d + 5 + 2) ≤ 40 * (d + 8) by omega) (g_c0 hv43.ln) (Nat.le_of_ble_eq_true rfl) dX8_laysAll_68 ?_
          intro r h49 hq _
          obtain ⟨v51, rfl, rfl, f50⟩ := hq
          have k52 := bd_e k48 f50.symm
          refine gi_last (pc := 71) (len := 40) hv43 (ti_rfl l1) rfl (by omega) (by omega) dX8_laysAll_71 (fun h53 hv53 hv53e => ?_)
          have fx53 : FX KAr h h53 := FX.pL fx43 hv53e (by unfold KAr; omega)
          have k54 := bd_e k52 (st_L hv53e)
          refine gf_iinc (pc := 72) (Nat.le_of_ble_eq_true rfl) rfl (ti_rfl l1) (ti_c (by decide)) (by omega) (by omega) dX8_laysAll_72 (fun v55 e56 => ?_)
          refine go_lv (lv2 := [(0, .ref 70), (1, .int v55)]) rfl ?_
          refine go_goto (pc := 75) (tgt := 36) (by decide) dX8_laysAll_75 ?_
          have z57 : (v55 : Int32).toInt = (l1.toInt + 1) := e56
          exact go_lv rfl (ih.2 v55 h53 hv53 (by omega) (by omega) fx53 (by rw [show (v55 : Int32).toInt = (l1.toInt + 1) from e56]; exact k54) (by omega))
  have bgN : 33490 ≤ BG 33490 := BG_le _
  refine go_iconst (pc := 0) (v := 0) (by decide) dX8_laysAll_0 ?_
  refine go_istore_n (pc := 1) (Nat.le_of_ble_eq_true rfl) dX8_laysAll_1 (go_lv (lv2 := [(0, .ref 70), (1, .int 0)]) rfl ?_)
  have z58 : (0 : Int32).toInt = 0 := (ti_c (v := 0) (a := 0) (by decide))
  exact go_lv rfl ((key (BG 33490)).1 0 h hv (by omega) (by omega) fx (by rw [show (0 : Int32).toInt = 0 from (ti_c (v := 0) (a := 0) (by decide))]; exact k0) (by omega))

