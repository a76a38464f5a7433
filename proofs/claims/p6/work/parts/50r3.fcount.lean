def f_J13_bitCount_95d88 (s : ST) (a1 : Int64) : Int :=
  bd (o_lushr a1 1) fun v1 => bd (o_land v1 (6148914691236517205 : Int64)) fun v3 => bd (o_lsub a1 v3) fun v5 => bd (o_land v5 (3689348814741910323 : Int64)) fun v7 => bd (o_lushr v5 2) fun v9 => bd (o_land v9 (3689348814741910323 : Int64)) fun v11 => bd (o_ladd v7 v11) fun v13 => bd (o_lushr v13 4) fun v15 => bd (o_ladd v13 v15) fun v17 => bd (o_land v17 (1085102592571150095 : Int64)) fun v19 => bd (o_lushr v19 8) fun v21 => bd (o_ladd v19 v21) fun v23 => bd (o_lushr v23 16) fun v25 => bd (o_ladd v23 v25) fun v27 => bd (o_lushr v27 32) fun v29 => bd (o_ladd v27 v29) fun v31 => bd (o_l2i v31) fun v33 => bd (o_iand v33 127) fun v35 => v35
set_option maxHeartbeats 4000000 in
set_option maxRecDepth 100000 in
theorem s_J13_bitCount_95d88_f (l : Launch) (d : Nat) {P : PP} {h : HP} (hv : Iv P h) (a1 : Int64) : Mt l yJ13_bitCount_95d88 cJ13_bitCount_95d88 2 (some .int) (d + 1) [.long a1] h 0 0 (fun r h' => ∃ v : Int32, r = some (.int v) ∧ -2147483648 ≤ v.toInt ∧ v.toInt ≤ 2147483647 ∧ h = h' ∧ (v.toInt = f_J13_bitCount_95d88 (st h) a1)) := by
  refine Mt_iv hv (by decide) (Nat.le_of_ble_eq_true rfl) ?_
  show Go l RJ13 cJ13_bitCount_95d88 2 (g_rm (d + 1) 0 0) "bitCount" (some .int) 117 0 0 (fun _ _ => True) (fun r h' => ∃ v : Int32, r = some (.int v) ∧ -2147483648 ≤ v.toInt ∧ v.toInt ≤ 2147483647 ∧ h = h' ∧ (v.toInt = f_J13_bitCount_95d88 (st h) a1)) 0 0 [(0, .long a1)] [] h
  obtain ⟨fin, kf⟩ : ∃ z, z = f_J13_bitCount_95d88 (st h) a1 := ⟨_, _root_.rfl⟩
  have k0 := kf
  unfold f_J13_bitCount_95d88 at k0
  refine go_lload_n (pc := 0) rfl dJ13_bitCount_95d88_0 ?_
  refine go_lload_n (pc := 1) rfl dJ13_bitCount_95d88_1 ?_
  refine go_iconst (pc := 2) (v := 1) (by decide) dJ13_bitCount_95d88_2 ?_
  refine gx_lushr (pc := 3) dJ13_bitCount_95d88_3 (fun v1 v1x => ?_)
  have k2 := bd_e k0 (so_lushr (ti_c (v := 1) (a := 1) (by decide)) v1x)
  refine go_ldc2 (pc := 4) kL_J13_314 dJ13_bitCount_95d88_4 ?_
  refine gx_land (pc := 7) dJ13_bitCount_95d88_7 (fun v3 v3x => ?_)
  have k4 := bd_e k2 (so_land v3x)
  refine gx_lsub (pc := 8) dJ13_bitCount_95d88_8 (fun v5 v5x => ?_)
  have k6 := bd_e k4 (so_lsub v5x)
  refine go_lstore_n (pc := 9) (Nat.le_of_ble_eq_true rfl) dJ13_bitCount_95d88_9 (go_lv (lv2 := [(0, .long v5)]) rfl ?_)
  refine go_lload_n (pc := 10) rfl dJ13_bitCount_95d88_10 ?_
  refine go_ldc2 (pc := 11) kL_J13_316 dJ13_bitCount_95d88_11 ?_
  refine gx_land (pc := 14) dJ13_bitCount_95d88_14 (fun v7 v7x => ?_)
  have k8 := bd_e k6 (so_land v7x)
  refine go_lload_n (pc := 15) rfl dJ13_bitCount_95d88_15 ?_
  refine go_iconst (pc := 16) (v := 2) (by decide) dJ13_bitCount_95d88_16 ?_
  refine gx_lushr (pc := 17) dJ13_bitCount_95d88_17 (fun v9 v9x => ?_)
  have k10 := bd_e k8 (so_lushr (ti_c (v := 2) (a := 2) (by decide)) v9x)
  refine go_ldc2 (pc := 18) kL_J13_316 dJ13_bitCount_95d88_18 ?_
  refine gx_land (pc := 21) dJ13_bitCount_95d88_21 (fun v11 v11x => ?_)
  have k12 := bd_e k10 (so_land v11x)
  refine gx_ladd (pc := 22) dJ13_bitCount_95d88_22 (fun v13 v13x => ?_)
  have k14 := bd_e k12 (so_ladd v13x)
  refine go_lstore_n (pc := 23) (Nat.le_of_ble_eq_true rfl) dJ13_bitCount_95d88_23 (go_lv (lv2 := [(0, .long v13)]) rfl ?_)
  refine go_lload_n (pc := 24) rfl dJ13_bitCount_95d88_24 ?_
  refine go_lload_n (pc := 25) rfl dJ13_bitCount_95d88_25 ?_
  refine go_iconst (pc := 26) (v := 4) (by decide) dJ13_bitCount_95d88_26 ?_
  refine gx_lushr (pc := 27) dJ13_bitCount_95d88_27 (fun v15 v15x => ?_)
  have k16 := bd_e k14 (so_lushr (ti_c (v := 4) (a := 4) (by decide)) v15x)
  refine gx_ladd (pc := 28) dJ13_bitCount_95d88_28 (fun v17 v17x => ?_)
  have k18 := bd_e k16 (so_ladd v17x)
  refine go_ldc2 (pc := 29) kL_J13_318 dJ13_bitCount_95d88_29 ?_
  refine gx_land (pc := 32) dJ13_bitCount_95d88_32 (fun v19 v19x => ?_)
  have k20 := bd_e k18 (so_land v19x)
  refine go_lstore_n (pc := 33) (Nat.le_of_ble_eq_true rfl) dJ13_bitCount_95d88_33 (go_lv (lv2 := [(0, .long v19)]) rfl ?_)
  refine go_lload_n (pc := 34) rfl dJ13_bitCount_95d88_34 ?_
  refine go_lload_n (pc := 35) rfl dJ13_bitCount_95d88_35 ?_
  refine go_bipush (pc := 36) (v := 8) (by decide) dJ13_bitCount_95d88_36 ?_
  refine gx_lushr (pc := 38) dJ13_bitCount_95d88_38 (fun v21 v21x => ?_)
  have k22 := bd_e k20 (so_lushr (ti_c (v := 8) (a := 8) (by decide)) v21x)
  refine gx_ladd (pc := 39) dJ13_bitCount_95d88_39 (fun v23 v23x => ?_)
  have k24 := bd_e k22 (so_ladd v23x)
  refine go_lstore_n (pc := 40) (Nat.le_of_ble_eq_true rfl) dJ13_bitCount_95d88_40 (go_lv (lv2 := [(0, .long v23)]) rfl ?_)
  refine go_lload_n (pc := 41) rfl dJ13_bitCount_95d88_41 ?_
  refine go_lload_n (pc := 42) rfl dJ13_bitCount_95d88_42 ?_
  refine go_bipush (pc := 43) (v := 16) (by decide) dJ13_bitCount_95d88_43 ?_
  refine gx_lushr (pc := 45) dJ13_bitCount_95d88_45 (fun v25 v25x => ?_)
  have k26 := bd_e k24 (so_lushr (ti_c (v := 16) (a := 16) (by decide)) v25x)
  refine gx_ladd (pc := 46) dJ13_bitCount_95d88_46 (fun v27 v27x => ?_)
  have k28 := bd_e k26 (so_ladd v27x)
  refine go_lstore_n (pc := 47) (Nat.le_of_ble_eq_true rfl) dJ13_bitCount_95d88_47 (go_lv (lv2 := [(0, .long v27)]) rfl ?_)
  refine go_lload_n (pc := 48) rfl dJ13_bitCount_95d88_48 ?_
  refine go_lload_n (pc := 49) rfl dJ13_bitCount_95d88_49 ?_
  refine go_bipush (pc := 50) (v := 32) (by decide) dJ13_bitCount_95d88_50 ?_
  refine gx_lushr (pc := 52) dJ13_bitCount_95d88_52 (fun v29 v29x => ?_)
  have k30 := bd_e k28 (so_lushr (ti_c (v := 32) (a := 32) (by decide)) v29x)
  refine gx_ladd (pc := 53) dJ13_bitCount_95d88_53 (fun v31 v31x => ?_)
  have k32 := bd_e k30 (so_ladd v31x)
  refine go_lstore_n (pc := 54) (Nat.le_of_ble_eq_true rfl) dJ13_bitCount_95d88_54 (go_lv (lv2 := [(0, .long v31)]) rfl ?_)
  refine go_lload_n (pc := 55) rfl dJ13_bitCount_95d88_55 ?_
  refine gx_l2i (pc := 56) dJ13_bitCount_95d88_56 (fun v33 v33x => ?_)
  have k34 := bd_e k32 (so_l2i v33x)
  refine go_bipush (pc := 57) (v := 127) (by decide) dJ13_bitCount_95d88_57 ?_
  refine gx_iand (pc := 59) dJ13_bitCount_95d88_59 (fun v35 v35x => ?_)
  have v35l : 0 ≤ v35.toInt := by rw [v35x]; exact (ti_mask (ti_c (v := 127) (a := 127) (by decide)) (by omega)).1
  have v35u : v35.toInt ≤ 127 := by rw [v35x]; exact (ti_mask (ti_c (v := 127) (a := 127) (by decide)) (by omega)).2
  have k36 := bd_e k34 (so_iand (ti_rfl v33) (ti_c (v := 127) (a := 127) (by decide)) v35x)
  exact gi_iret (pc := 60) (ti_rfl v35) ⟨_, rfl, (ti_lo _), (ti_hi _), rfl, (k36.symm.trans kf)⟩ hv dJ13_bitCount_95d88_60
def f_X7_count (s : ST) (a2 : Int) : Int :=
  if a2 = 0 then (bd (s.2.2 0 3) fun c3 => bd (s.1 c3 0) fun v5 => v5) else if a2 = 1 then (bd (s.2.2 0 3) fun c10 => bd (s.1 c10 1) fun v12 => v12) else if a2 = 2 then (bd (s.2.2 0 3) fun c17 => bd (s.2.1 c17 2) fun v19 => bd (f_J13_bitCount_95d88 s v19) fun v23 => v23) else if a2 = 3 then (bd (s.2.2 0 3) fun c28 => bd (s.1 c28 4) fun v30 => v30) else if a2 = 4 then (bd (s.2.2 0 3) fun c35 => bd (s.1 c35 3) fun v37 => v37) else if a2 = 5 then (bd (s.1 0 1) fun v42 => v42) else (-1)
set_option maxHeartbeats 4000000 in
set_option maxRecDepth 100000 in
theorem s_X7_count_f (l : Launch) (d : Nat) {P : PP} {h : HP} (hv : Iv P h) (a2 : Int32) : Mt l yX7_count cX7_count 2 (some .int) (d + 2) [.ref 0, .int a2] h 0 0 (fun r h' => ∃ v : Int32, r = some (.int v) ∧ -2147483648 ≤ v.toInt ∧ v.toInt ≤ 2147483647 ∧ h = h' ∧ (v.toInt = f_X7_count (st h) a2.toInt)) := by
  refine Mt_iv hv (by decide) (Nat.le_of_ble_eq_true rfl) ?_
  show Go l RX7 cX7_count 2 (g_rm (d + 2) 0 0) "count" (some .int) 117 0 0 (fun _ _ => True) (fun r h' => ∃ v : Int32, r = some (.int v) ∧ -2147483648 ≤ v.toInt ∧ v.toInt ≤ 2147483647 ∧ h = h' ∧ (v.toInt = f_X7_count (st h) a2.toInt)) 0 0 [(0, .ref 0), (1, .int a2)] [] h
  obtain ⟨fin, kf⟩ : ∃ z, z = f_X7_count (st h) a2.toInt := ⟨_, _root_.rfl⟩
  have k0 := kf
  unfold f_X7_count at k0
  refine go_iload_n (pc := 0) rfl dX7_count_0 ?_
  by_cases q1 : a2.toInt = 0
  ·
    refine go_tableIn (pc := 1) (tgt := 40) (off := 39) (by rw [show (a2 : Int32).toInt = a2.toInt from (ti_rfl a2)]; omega) (by rw [show (a2 : Int32).toInt = a2.toInt from (ti_rfl a2)]; omega) (by rw [show (a2 : Int32).toInt = a2.toInt from (ti_rfl a2), q1]; rfl) (by decide) dX7_count_1 ?_
    have k2 := if_t k0 q1
    refine go_aload_n (pc := 40) rfl dX7_count_40 ?_
    refine gi_getC (pc := 41) hv fL_X7_23 rfl (Nat.le_of_ble_eq_true rfl) rfl (by decide) dX7_count_41 (fun c3 hc3 fc3 => ?_)
    have k4 := bd_e k2 (st_c fc3)
    refine gi_get (pc := 44) (lo := 0) (hi := 40) hv fL_X7_65 (by rcases hc3 with rfl | rfl <;> rfl) (Nat.le_of_ble_eq_true rfl) rfl (by rcases hc3 with rfl | rfl <;> rfl) dX7_count_44 (fun v5 v5l v5u v5w => ?_)
    have k6 := bd_e k4 (congrArg Int32.toInt v5w.symm)
    exact gi_iret (pc := 47) (ti_rfl v5) ⟨_, rfl, (ti_lo _), (ti_hi _), rfl, (k6.symm.trans kf)⟩ hv dX7_count_47
  have k7 := if_f k0 q1
  by_cases q8 : a2.toInt = 1
  ·
    refine go_tableIn (pc := 1) (tgt := 48) (off := 47) (by rw [show (a2 : Int32).toInt = a2.toInt from (ti_rfl a2)]; omega) (by rw [show (a2 : Int32).toInt = a2.toInt from (ti_rfl a2)]; omega) (by rw [show (a2 : Int32).toInt = a2.toInt from (ti_rfl a2), q8]; rfl) (by decide) dX7_count_1 ?_
    have k9 := if_t k7 q8
    refine go_aload_n (pc := 48) rfl dX7_count_48 ?_
    refine gi_getC (pc := 49) hv fL_X7_23 rfl (Nat.le_of_ble_eq_true rfl) rfl (by decide) dX7_count_49 (fun c10 hc10 fc10 => ?_)
    have k11 := bd_e k9 (st_c fc10)
    refine gi_get (pc := 52) (lo := 0) (hi := 5) hv fL_X7_68 (by rcases hc10 with rfl | rfl <;> rfl) (Nat.le_of_ble_eq_true rfl) rfl (by rcases hc10 with rfl | rfl <;> rfl) dX7_count_52 (fun v12 v12l v12u v12w => ?_)
    have k13 := bd_e k11 (congrArg Int32.toInt v12w.symm)
    exact gi_iret (pc := 55) (ti_rfl v12) ⟨_, rfl, (ti_lo _), (ti_hi _), rfl, (k13.symm.trans kf)⟩ hv dX7_count_55
  have k14 := if_f k7 q8
  by_cases q15 : a2.toInt = 2
  ·
    refine go_tableIn (pc := 1) (tgt := 56) (off := 55) (by rw [show (a2 : Int32).toInt = a2.toInt from (ti_rfl a2)]; omega) (by rw [show (a2 : Int32).toInt = a2.toInt from (ti_rfl a2)]; omega) (by rw [show (a2 : Int32).toInt = a2.toInt from (ti_rfl a2), q15]; rfl) (by decide) dX7_count_1 ?_
    have k16 := if_t k14 q15
    refine go_aload_n (pc := 56) rfl dX7_count_56 ?_
    refine gi_getC (pc := 57) hv fL_X7_23 rfl (Nat.le_of_ble_eq_true rfl) rfl (by decide) dX7_count_57 (fun c17 hc17 fc17 => ?_)
    have k18 := bd_e k16 (st_c fc17)
    refine gx_getL (pc := 60) hv fL_X7_71 (by rcases hc17 with rfl | rfl <;> rfl) (Nat.le_of_ble_eq_true rfl) rfl dX7_count_60 (fun v19 v19w => ?_)
    have k20 := bd_e k18 v19w.symm
    refine go_invS (pc := 63) (sl := 0) (s_J13_bitCount_95d88_f l (d + 0) hv v19) mL_X7_75 iM_J13_bitCount_95d88 rfl rfl (Nat.le_of_ble_eq_true rfl) (show d + 0 + 1 + 1 ≤ d + 2 by omega) (show 8 + (2 + 11) + 40 * (d + 0 + 1) ≤ 40 * (d + 2) by omega) (g_c0 hv.ln) (Nat.le_of_ble_eq_true rfl) dX7_count_63 ?_
    intro r h21 hq _
    obtain ⟨v23, rfl, v23l, v23u, rfl, f22⟩ := hq
    have k24 := bd_e k20 f22.symm
    exact gi_iret (pc := 66) (ti_rfl v23) ⟨_, rfl, (ti_lo _), (ti_hi _), rfl, (k24.symm.trans kf)⟩ hv dX7_count_66
  have k25 := if_f k14 q15
  by_cases q26 : a2.toInt = 3
  ·
    refine go_tableIn (pc := 1) (tgt := 67) (off := 66) (by rw [show (a2 : Int32).toInt = a2.toInt from (ti_rfl a2)]; omega) (by rw [show (a2 : Int32).toInt = a2.toInt from (ti_rfl a2)]; omega) (by rw [show (a2 : Int32).toInt = a2.toInt from (ti_rfl a2), q26]; rfl) (by decide) dX7_count_1 ?_
    have k27 := if_t k25 q26
    refine go_aload_n (pc := 67) rfl dX7_count_67 ?_
    refine gi_getC (pc := 68) hv fL_X7_23 rfl (Nat.le_of_ble_eq_true rfl) rfl (by decide) dX7_count_68 (fun c28 hc28 fc28 => ?_)
    have k29 := bd_e k27 (st_c fc28)
    refine gi_get (pc := 71) (lo := -2147483648) (hi := 2147483647) hv fL_X7_81 (by rcases hc28 with rfl | rfl <;> rfl) (Nat.le_of_ble_eq_true rfl) rfl (by rcases hc28 with rfl | rfl <;> rfl) dX7_count_71 (fun v30 v30l v30u v30w => ?_)
    have k31 := bd_e k29 (congrArg Int32.toInt v30w.symm)
    exact gi_iret (pc := 74) (ti_rfl v30) ⟨_, rfl, (ti_lo _), (ti_hi _), rfl, (k31.symm.trans kf)⟩ hv dX7_count_74
  have k32 := if_f k25 q26
  by_cases q33 : a2.toInt = 4
  ·
    refine go_tableIn (pc := 1) (tgt := 75) (off := 74) (by rw [show (a2 : Int32).toInt = a2.toInt from (ti_rfl a2)]; omega) (by rw [show (a2 : Int32).toInt = a2.toInt from (ti_rfl a2)]; omega) (by rw [show (a2 : Int32).toInt = a2.toInt from (ti_rfl a2), q33]; rfl) (by decide) dX7_count_1 ?_
    have k34 := if_t k32 q33
    refine go_aload_n (pc := 75) rfl dX7_count_75 ?_
    refine gi_getC (pc := 76) hv fL_X7_23 rfl (Nat.le_of_ble_eq_true rfl) rfl (by decide) dX7_count_76 (fun c35 hc35 fc35 => ?_)
    have k36 := bd_e k34 (st_c fc35)
    refine gi_get (pc := 79) (lo := -2147483648) (hi := 2147483647) hv fL_X7_84 (by rcases hc35 with rfl | rfl <;> rfl) (Nat.le_of_ble_eq_true rfl) rfl (by rcases hc35 with rfl | rfl <;> rfl) dX7_count_79 (fun v37 v37l v37u v37w => ?_)
    have k38 := bd_e k36 (congrArg Int32.toInt v37w.symm)
    exact gi_iret (pc := 82) (ti_rfl v37) ⟨_, rfl, (ti_lo _), (ti_hi _), rfl, (k38.symm.trans kf)⟩ hv dX7_count_82
  have k39 := if_f k32 q33
  by_cases q40 : a2.toInt = 5
  ·
    refine go_tableIn (pc := 1) (tgt := 83) (off := 82) (by rw [show (a2 : Int32).toInt = a2.toInt from (ti_rfl a2)]; omega) (by rw [show (a2 : Int32).toInt = a2.toInt from (ti_rfl a2)]; omega) (by rw [show (a2 : Int32).toInt = a2.toInt from (ti_rfl a2), q40]; rfl) (by decide) dX7_count_1 ?_
    have k41 := if_t k39 q40
    refine go_aload_n (pc := 83) rfl dX7_count_83 ?_
    refine gi_get (pc := 84) (lo := 0) (hi := 500) hv fL_X7_13 rfl (Nat.le_of_ble_eq_true rfl) rfl rfl dX7_count_84 (fun v42 v42l v42u v42w => ?_)
    have v42p : v42.toInt = P.1.toInt := by rw [v42w]; exact congrArg Int32.toInt hv.t0
    have k43 := bd_e k41 (congrArg Int32.toInt v42w.symm)
    exact gi_iret (pc := 87) (ti_rfl v42) ⟨_, rfl, (ti_lo _), (ti_hi _), rfl, (k43.symm.trans kf)⟩ hv dX7_count_87
  have k44 := if_f k39 q40
  refine go_tableOut (pc := 1) (tgt := 88) (by rw [show (a2 : Int32).toInt = a2.toInt from (ti_rfl a2)]; omega) (by decide) dX7_count_1 ?_
  refine go_iconst (pc := 88) (v := (-1)) (by decide) dX7_count_88 ?_
  exact gi_iret (pc := 89) (ti_c (v := (-1)) (a := (-1)) (by decide)) ⟨_, rfl, (ti_lo _), (ti_hi _), rfl, (by rw [show ((-1) : Int32).toInt = (-1) from (ti_c (v := (-1)) (a := (-1)) (by decide))]; exact k44.symm.trans kf)⟩ hv dX7_count_89
def f_X8_calls_ : Nat → Nat → Int → Int → ST → Int
  | 0, _, _, _, _ => 0
  | n + 1, _, l1, l2, s => bd (s.1 70 29) fun v1 => bd (s.1 75 (v1).toNat) fun v3 => if v3 ≤ l2 then (l1) else (bd (f_X8_kindAt s l2) fun v11 => if ¬ v11 = 1 then (f_X8_calls_ n 4 ((l1 + 0)) ((l2 + 1)) s) else (bd (o_iadd l1 1) fun v24 => f_X8_calls_ n 4 v24 ((l2 + 1)) s))
def f_X8_calls (s : ST) : Int :=
  f_X8_calls_ 139 4 0 0 s
set_option maxHeartbeats 4000000 in
set_option maxRecDepth 100000 in
theorem s_X8_calls_f (l : Launch) (d : Nat) {P : PP} {h : HP} (hv : Iv P h)  : Mt l yX8_calls cX8_calls 3 (some .int) (d + 3) [.ref 70] h 0 0 (fun r h' => ∃ v : Int32, r = some (.int v) ∧ -2147483648 ≤ v.toInt ∧ v.toInt ≤ 2147483647 ∧ h = h' ∧ (v.toInt = f_X8_calls (st h))) := by
  refine Mt_iv hv (by decide) (Nat.le_of_ble_eq_true rfl) ?_
  show Go l RX8 cX8_calls 3 (g_rm (d + 3) 0 0) "calls" (some .int) 117 0 0 (fun _ _ => True) (fun r h' => ∃ v : Int32, r = some (.int v) ∧ -2147483648 ≤ v.toInt ∧ v.toInt ≤ 2147483647 ∧ h = h' ∧ (v.toInt = f_X8_calls (st h))) 0 0 [(0, .ref 70)] [] h
  obtain ⟨fin, kf⟩ : ∃ z, z = f_X8_calls (st h) := ⟨_, _root_.rfl⟩
  have k0 := kf
  unfold f_X8_calls at k0
  have key : ∀ n : Nat, (∀ (l1 : Int32) (l2 : Int32), 0 ≤ l2.toInt → l2.toInt ≤ 40 → fin = f_X8_calls_ n 4 l1.toInt l2.toInt (st h) → (3 * (40 - l2.toInt) + 2 : Int) < n → Go l RX8 cX8_calls 3 (g_rm (d + 3) 0 0) "calls" (some .int) 117 0 0 (fun _ _ => True) (fun r h' => ∃ v : Int32, r = some (.int v) ∧ -2147483648 ≤ v.toInt ∧ v.toInt ≤ 2147483647 ∧ h = h' ∧ (v.toInt = f_X8_calls (st h))) 0 4 [(0, .ref 70), (1, .int l1), (2, .int l2)] [] h) := by
    intro n
    induction n with
    | zero => exact (by intros; omega)
    | succ n ih =>
      refine ?_
      ·
        intro l1 l2 l2l l2u kL hm
        rw [f_X8_calls_] at kL
        refine go_iload_n (pc := 4) rfl dX8_calls_4 ?_
        refine go_aload_n (pc := 5) rfl dX8_calls_5 ?_
        refine gi_getF (pc := 6) (q := 75) hv fL_X8_23 rfl (Nat.le_of_ble_eq_true rfl) rfl (hv.rf (by decide)) dX8_calls_6 ?_
        refine go_aload_n (pc := 9) rfl dX8_calls_9 ?_
        refine gi_get (pc := 10) (lo := 0) (hi := 1) hv fL_X8_228 rfl (Nat.le_of_ble_eq_true rfl) rfl rfl dX8_calls_10 (fun v1 v1l v1u v1w => ?_)
        have k2 := bd_e kL (congrArg Int32.toInt v1w.symm)
        refine gi_iald (pc := 13) (lo := 0) (hi := 40) (len := 2) hv (ti_rfl v1) rfl (by omega) (by omega) (fun _ => rfl) dX8_calls_13 (fun v3 v3l v3u v3w => ?_)
        have k4 := bd_e k2 (congrArg Int32.toInt v3w.symm)
        refine gf_icmp_ge (pc := 14) (tgt := 40) (ti_rfl l2) (ti_rfl v3) (by decide) dX8_calls_14 (fun q5 => ?_) (fun q5 => ?_)
        ·
          have k6 := if_t k4 q5
          refine go_iload_n (pc := 40) rfl dX8_calls_40 ?_
          exact gi_iret (pc := 41) (ti_rfl l1) ⟨_, rfl, (ti_lo _), (ti_hi _), rfl, (k6.symm.trans kf)⟩ hv dX8_calls_41
        ·
          have k7 := if_f k4 (Int.not_le.mpr q5)
          refine go_iload_n (pc := 17) rfl dX8_calls_17 ?_
          refine go_aload_n (pc := 18) rfl dX8_calls_18 ?_
          refine go_iload_n (pc := 19) rfl dX8_calls_19 ?_
          refine go_invV (pc := 20) (sl := 0) (s_X8_kindAt_f l (d + 0) hv l2 (by rw [show (l2 : Int32).toInt = l2.toInt from (ti_rfl l2)]; omega) (by rw [show (l2 : Int32).toInt = l2.toInt from (ti_rfl l2)]; omega)) mL_X8_271 iM_X8_kindAt sM_X8_kindAt (hv.sh rfl) rfl rfl rfl (Nat.le_of_ble_eq_true rfl) (show d + 0 + 2 + 1 ≤ d + 3 by omega) (show 8 + (2 + 11) + 40 * (d + 0 + 2) ≤ 40 * (d + 3) by omega) (g_c0 hv.ln) (Nat.le_of_ble_eq_true rfl) dX8_calls_20 ?_
          intro r h8 hq _
          obtain ⟨v11, rfl, v11l, v11u, rfl, f9, f10⟩ := hq
          have k12 := bd_e k7 f10.symm
          refine go_iconst (pc := 23) (v := 1) (by decide) dX8_calls_23 ?_
          refine gf_icmp_ne (pc := 24) (tgt := 31) (ti_rfl v11) (ti_c (v := 1) (a := 1) (by decide)) (by decide) dX8_calls_24 (fun q13 => ?_) (fun q13 => ?_)
          ·
            have k14 := if_t k12 q13
            refine go_iconst (pc := 31) (v := 0) (by decide) dX8_calls_31 ?_
            have b16 := ti_le2 (ti_rfl l1)
            have b17 := ti_ge (ti_rfl l1)
            refine gf_iadd (pc := 32) (ti_rfl l1) (ti_c (v := 0) (a := 0) (by decide)) (by omega) (by omega) dX8_calls_32 (fun v15 e18 => ?_)
            refine go_istore_n (pc := 33) (Nat.le_of_ble_eq_true rfl) dX8_calls_33 (go_lv (lv2 := [(0, .ref 70), (1, .int v15), (2, .int l2)]) rfl ?_)
            refine gf_iinc (pc := 34) (Nat.le_of_ble_eq_true rfl) rfl (ti_rfl l2) (ti_c (by decide)) (by omega) (by omega) dX8_calls_34 (fun v19 e20 => ?_)
            refine go_lv (lv2 := [(0, .ref 70), (1, .int v15), (2, .int v19)]) rfl ?_
            refine go_goto (pc := 37) (tgt := 4) (by decide) dX8_calls_37 ?_
            have z21 : (v15 : Int32).toInt = (l1.toInt + 0) := e18
            have z22 : (v19 : Int32).toInt = (l2.toInt + 1) := e20
            exact go_lv rfl (ih v15 v19  (by omega) (by omega) (by rw [show (v15 : Int32).toInt = (l1.toInt + 0) from e18, show (v19 : Int32).toInt = (l2.toInt + 1) from e20]; exact k14) (by omega))
          ·
            have k23 := if_f k12 (fun z => z q13)
            refine go_iconst (pc := 27) (v := 1) (by decide) dX8_calls_27 ?_
            refine go_goto (pc := 28) (tgt := 32) (by decide) dX8_calls_28 ?_
            refine gx_iadd (pc := 32) dX8_calls_32 (fun v24 v24x => ?_)
            have k25 := bd_e k23 (so_iadd (ti_rfl l1) (ti_c (v := 1) (a := 1) (by decide)) v24x)
            refine go_istore_n (pc := 33) (Nat.le_of_ble_eq_true rfl) dX8_calls_33 (go_lv (lv2 := [(0, .ref 70), (1, .int v24), (2, .int l2)]) rfl ?_)
            refine gf_iinc (pc := 34) (Nat.le_of_ble_eq_true rfl) rfl (ti_rfl l2) (ti_c (by decide)) (by omega) (by omega) dX8_calls_34 (fun v26 e27 => ?_)
            refine go_lv (lv2 := [(0, .ref 70), (1, .int v24), (2, .int v26)]) rfl ?_
            refine go_goto (pc := 37) (tgt := 4) (by decide) dX8_calls_37 ?_
            have z28 : (v26 : Int32).toInt = (l2.toInt + 1) := e27
            exact go_lv rfl (ih v24 v26  (by omega) (by omega) (by rw [show (v26 : Int32).toInt = (l2.toInt + 1) from e27]; exact k25) (by omega))
  refine go_iconst (pc := 0) (v := 0) (by decide) dX8_calls_0 ?_
  refine go_istore_n (pc := 1) (Nat.le_of_ble_eq_true rfl) dX8_calls_1 (go_lv (lv2 := [(0, .ref 70), (1, .int 0)]) rfl ?_)
  refine go_iconst (pc := 2) (v := 0) (by decide) dX8_calls_2 ?_
  refine go_istore_n (pc := 3) (Nat.le_of_ble_eq_true rfl) dX8_calls_3 (go_lv (lv2 := [(0, .ref 70), (1, .int 0), (2, .int 0)]) rfl ?_)
  have z29 : (0 : Int32).toInt = 0 := (ti_c (v := 0) (a := 0) (by decide))
  have z30 : (0 : Int32).toInt = 0 := (ti_c (v := 0) (a := 0) (by decide))
  exact go_lv rfl ((key 139) 0 0  (by omega) (by omega) (by rw [show (0 : Int32).toInt = 0 from (ti_c (v := 0) (a := 0) (by decide))]; exact k0) (by omega))
def f_X8_may_ : Nat → Nat → Nat → Int → Int → ST → Int
  | 0, _, _, _, _, _ => 0
  | n + 1, _, l1, l2, l3, s => bd (s.1 70 29) fun v1 => bd (s.1 76 (v1).toNat) fun v3 => if v3 ≤ l3 then (l2) else (bd (s.1 l1 (((5 * v1) + l3)).toNat) fun v13 => if v13 = 0 then (bd (o_ior l2 0) fun v17 => f_X8_may_ n 4 l1 v17 ((l3 + 1)) s) else (bd (o_ishl 1 l3) fun v23 => bd (o_ior l2 v23) fun v25 => f_X8_may_ n 4 l1 v25 ((l3 + 1)) s))
def f_X8_may (s : ST) (c2 : Nat) : Int :=
  f_X8_may_ 34 4 c2 0 0 s
set_option maxHeartbeats 4000000 in
set_option maxRecDepth 100000 in
theorem s_X8_may_f (l : Launch) (d : Nat) {P : PP} {h : HP} (hv : Iv P h) (c2 : Nat) (hc2 : c2 = 101 ∨ c2 = 102) : Mt l yX8_may cX8_may 4 (some .int) (d + 1) [.ref 70, .ref c2] h 0 0 (fun r h' => ∃ v : Int32, r = some (.int v) ∧ -2147483648 ≤ v.toInt ∧ v.toInt ≤ 2147483647 ∧ h = h' ∧ (v.toInt = f_X8_may (st h) c2)) := by
  refine Mt_iv hv (by decide) (Nat.le_of_ble_eq_true rfl) ?_
  show Go l RX8 cX8_may 4 (g_rm (d + 1) 0 0) "may" (some .int) 117 0 0 (fun _ _ => True) (fun r h' => ∃ v : Int32, r = some (.int v) ∧ -2147483648 ≤ v.toInt ∧ v.toInt ≤ 2147483647 ∧ h = h' ∧ (v.toInt = f_X8_may (st h) c2)) 0 0 [(0, .ref 70), (1, .ref c2)] [] h
  obtain ⟨fin, kf⟩ : ∃ z, z = f_X8_may (st h) c2 := ⟨_, _root_.rfl⟩
  have k0 := kf
  unfold f_X8_may at k0
  have key : ∀ n : Nat, (∀ (l1 : Nat) (l2 : Int32) (l3 : Int32), (l1 = 101 ∨ l1 = 102) → 0 ≤ l3.toInt → l3.toInt ≤ 5 → fin = f_X8_may_ n 4 l1 l2.toInt l3.toInt (st h) → (3 * (5 - l3.toInt) + 2 : Int) < n → Go l RX8 cX8_may 4 (g_rm (d + 1) 0 0) "may" (some .int) 117 0 0 (fun _ _ => True) (fun r h' => ∃ v : Int32, r = some (.int v) ∧ -2147483648 ≤ v.toInt ∧ v.toInt ≤ 2147483647 ∧ h = h' ∧ (v.toInt = f_X8_may (st h) c2)) 0 4 [(0, .ref 70), (1, .ref l1), (2, .int l2), (3, .int l3)] [] h) := by
    intro n
    induction n with
    | zero => exact (by intros; omega)
    | succ n ih =>
      refine ?_
      ·
        intro l1 l2 l3 hl1 l3l l3u kL hm
        rw [f_X8_may_] at kL
        refine go_iload_n (pc := 4) rfl dX8_may_4 ?_
        refine go_aload_n (pc := 5) rfl dX8_may_5 ?_
        refine gi_getF (pc := 6) (q := 76) hv fL_X8_26 rfl (Nat.le_of_ble_eq_true rfl) rfl (hv.rf (by decide)) dX8_may_6 ?_
        refine go_aload_n (pc := 9) rfl dX8_may_9 ?_
        refine gi_get (pc := 10) (lo := 0) (hi := 1) hv fL_X8_228 rfl (Nat.le_of_ble_eq_true rfl) rfl rfl dX8_may_10 (fun v1 v1l v1u v1w => ?_)
        have k2 := bd_e kL (congrArg Int32.toInt v1w.symm)
        refine gi_iald (pc := 13) (lo := 0) (hi := 5) (len := 2) hv (ti_rfl v1) rfl (by omega) (by omega) (fun _ => rfl) dX8_may_13 (fun v3 v3l v3u v3w => ?_)
        have k4 := bd_e k2 (congrArg Int32.toInt v3w.symm)
        refine gf_icmp_ge (pc := 14) (tgt := 46) (ti_rfl l3) (ti_rfl v3) (by decide) dX8_may_14 (fun q5 => ?_) (fun q5 => ?_)
        ·
          have k6 := if_t k4 q5
          refine go_iload_n (pc := 46) rfl dX8_may_46 ?_
          exact gi_iret (pc := 47) (ti_rfl l2) ⟨_, rfl, (ti_lo _), (ti_hi _), rfl, (k6.symm.trans kf)⟩ hv dX8_may_47
        ·
          have k7 := if_f k4 (Int.not_le.mpr q5)
          refine go_iload_n (pc := 17) rfl dX8_may_17 ?_
          refine go_aload_n (pc := 18) rfl dX8_may_18 ?_
          refine go_iconst (pc := 19) (v := 5) (by decide) dX8_may_19 ?_
          refine go_aload_n (pc := 20) rfl dX8_may_20 ?_
          refine gi_get (pc := 21) (lo := 0) (hi := 1) hv fL_X8_228 rfl (Nat.le_of_ble_eq_true rfl) rfl rfl dX8_may_21 (fun v8 v8l v8u v8w => ?_)
          have v8r : v1 = h.2.1 70 29 := v1w
          have v8q : TI v8 v1.toInt := by rw [v8w.trans v8r.symm]; exact (ti_rfl v1)
          refine gf_imul (pc := 24) (ti_c (v := 5) (a := 5) (by decide)) v8q (by omega) (by omega) dX8_may_24 (fun v9 e10 => ?_)
          refine go_iload_n (pc := 25) rfl dX8_may_25 ?_
          refine gf_iadd (pc := 26) e10 (ti_rfl l3) (by omega) (by omega) dX8_may_26 (fun v11 e12 => ?_)
          refine gi_zald (pc := 27) (lo := 0) (hi := 1) (len := 10) hv e12 (by rcases hl1 with rfl | rfl <;> rfl) (by omega) (by omega) (fun _ => by rcases hl1 with rfl | rfl <;> rfl) dX8_may_27 (fun v13 v13l v13u v13w => ?_)
          have k14 := bd_e k7 (congrArg Int32.toInt v13w.symm)
          refine gf_if_eq (pc := 28) (tgt := 37) (ti_rfl v13) (by decide) dX8_may_28 (fun q15 => ?_) (fun q15 => ?_)
          ·
            have k16 := if_t k14 q15
            refine go_iconst (pc := 37) (v := 0) (by decide) dX8_may_37 ?_
            refine gx_ior (pc := 38) dX8_may_38 (fun v17 v17x => ?_)
            have k18 := bd_e k16 (so_ior (ti_rfl l2) (ti_c (v := 0) (a := 0) (by decide)) v17x)
            refine go_istore_n (pc := 39) (Nat.le_of_ble_eq_true rfl) dX8_may_39 (go_lv (lv2 := [(0, .ref 70), (1, .ref l1), (2, .int v17), (3, .int l3)]) rfl ?_)
            refine gf_iinc (pc := 40) (Nat.le_of_ble_eq_true rfl) rfl (ti_rfl l3) (ti_c (by decide)) (by omega) (by omega) dX8_may_40 (fun v19 e20 => ?_)
            refine go_lv (lv2 := [(0, .ref 70), (1, .ref l1), (2, .int v17), (3, .int v19)]) rfl ?_
            refine go_goto (pc := 43) (tgt := 4) (by decide) dX8_may_43 ?_
            have z21 : (v19 : Int32).toInt = (l3.toInt + 1) := e20
            exact go_lv rfl (ih l1 v17 v19  hl1 (by omega) (by omega) (by rw [show (v19 : Int32).toInt = (l3.toInt + 1) from e20]; exact k18) (by omega))
          ·
            have k22 := if_f k14 q15
            refine go_iconst (pc := 31) (v := 1) (by decide) dX8_may_31 ?_
            refine go_iload_n (pc := 32) rfl dX8_may_32 ?_
            refine gx_ishl (pc := 33) dX8_may_33 (fun v23 v23x => ?_)
            have k24 := bd_e k22 (so_ishl (ti_c (v := 1) (a := 1) (by decide)) (ti_rfl l3) v23x)
            refine go_goto (pc := 34) (tgt := 38) (by decide) dX8_may_34 ?_
            refine gx_ior (pc := 38) dX8_may_38 (fun v25 v25x => ?_)
            have k26 := bd_e k24 (so_ior (ti_rfl l2) (ti_rfl v23) v25x)
            refine go_istore_n (pc := 39) (Nat.le_of_ble_eq_true rfl) dX8_may_39 (go_lv (lv2 := [(0, .ref 70), (1, .ref l1), (2, .int v25), (3, .int l3)]) rfl ?_)
            refine gf_iinc (pc := 40) (Nat.le_of_ble_eq_true rfl) rfl (ti_rfl l3) (ti_c (by decide)) (by omega) (by omega) dX8_may_40 (fun v27 e28 => ?_)
            refine go_lv (lv2 := [(0, .ref 70), (1, .ref l1), (2, .int v25), (3, .int v27)]) rfl ?_
            refine go_goto (pc := 43) (tgt := 4) (by decide) dX8_may_43 ?_
            have z29 : (v27 : Int32).toInt = (l3.toInt + 1) := e28
            exact go_lv rfl (ih l1 v25 v27  hl1 (by omega) (by omega) (by rw [show (v27 : Int32).toInt = (l3.toInt + 1) from e28]; exact k26) (by omega))
  refine go_iconst (pc := 0) (v := 0) (by decide) dX8_may_0 ?_
  refine go_istore_n (pc := 1) (Nat.le_of_ble_eq_true rfl) dX8_may_1 (go_lv (lv2 := [(0, .ref 70), (1, .ref c2), (2, .int 0)]) rfl ?_)
  refine go_iconst (pc := 2) (v := 0) (by decide) dX8_may_2 ?_
  refine go_istore_n (pc := 3) (Nat.le_of_ble_eq_true rfl) dX8_may_3 (go_lv (lv2 := [(0, .ref 70), (1, .ref c2), (2, .int 0), (3, .int 0)]) rfl ?_)
  have z30 : (0 : Int32).toInt = 0 := (ti_c (v := 0) (a := 0) (by decide))
  have z31 : (0 : Int32).toInt = 0 := (ti_c (v := 0) (a := 0) (by decide))
  exact go_lv rfl ((key 34) c2 0 0  hc2 (by omega) (by omega) (by rw [show (0 : Int32).toInt = 0 from (ti_c (v := 0) (a := 0) (by decide))]; exact k0) (by omega))
def f_X8_count2 (s : ST) (a2 : Int) : ST × Int :=
  bd (s.1 70 29) fun v1 => bd (sI s 70 6 v1) fun s3 => if a2 = 0 then (bd (s3.1 70 30) fun v7 => if v7 = 0 then ((s3, 0)) else (bd (s3.1 70 29) fun v12 => bd (s3.1 75 (v12).toNat) fun v14 => (s3, v14))) else if a2 = 1 then (bd (s3.1 70 30) fun v19 => if v19 = 0 then ((s3, 0)) else (bd (s3.1 70 29) fun v24 => bd (s3.1 76 (v24).toNat) fun v26 => (s3, v26))) else if a2 = 2 then (bd (s3.1 70 30) fun v31 => if v31 = 0 then ((s3, 0)) else (bd (f_X8_calls s3) fun v38 => (s3, v38))) else if a2 = 3 then (bd (s3.1 70 30) fun v43 => if v43 = 0 then ((s3, 0)) else (bd (f_X8_may s3 102) fun v50 => (s3, v50))) else if a2 = 4 then (bd (s3.1 70 30) fun v55 => if v55 = 0 then ((s3, 0)) else (bd (f_X8_may s3 101) fun v62 => (s3, v62))) else if a2 = 5 then (bd (s3.1 70 2) fun v67 => (s3, v67)) else (s3, (-1))
set_option maxHeartbeats 4000000 in
set_option maxRecDepth 100000 in
theorem s_X8_count2_f (l : Launch) (d : Nat) {P : PP} {h : HP} (hv : Iv P h) (a2 : Int32) : Mt l yX8_count cX8_count 2 (some .int) (d + 4) [.ref 70, .int a2] h 0 0 (fun r h' => ∃ v : Int32, r = some (.int v) ∧ -2147483648 ≤ v.toInt ∧ v.toInt ≤ 2147483647 ∧ Iv (gs P) h' ∧ ((st h', v.toInt) = f_X8_count2 (st h) a2.toInt) ∧ (FX KAr h h')) := by
  refine Mt_iv hv (by decide) (Nat.le_of_ble_eq_true rfl) ?_
  show Go l RX8 cX8_count 2 (g_rm (d + 4) 0 0) "count" (some .int) 117 0 0 (fun _ _ => True) (fun r h' => ∃ v : Int32, r = some (.int v) ∧ -2147483648 ≤ v.toInt ∧ v.toInt ≤ 2147483647 ∧ Iv (gs P) h' ∧ ((st h', v.toInt) = f_X8_count2 (st h) a2.toInt) ∧ (FX KAr h h')) 0 0 [(0, .ref 70), (1, .int a2)] [] h
  have fx : FX KAr h h := FX.rfl
  obtain ⟨fin, kf⟩ : ∃ z, z = f_X8_count2 (st h) a2.toInt := ⟨_, _root_.rfl⟩
  have k0 := kf
  unfold f_X8_count2 at k0
  refine go_aload_n (pc := 0) rfl dX8_count_0 ?_
  refine go_aload_n (pc := 1) rfl dX8_count_1 ?_
  refine gi_get (pc := 2) (lo := 0) (hi := 1) hv fL_X8_228 rfl (Nat.le_of_ble_eq_true rfl) rfl rfl dX8_count_2 (fun v1 v1l v1u v1w => ?_)
  have k2 := bd_e k0 (congrArg Int32.toInt v1w.symm)
  refine gi_putS (pc := 5) hv v1w (fP_X8_187 _) dX8_count_5 (fun h3 hv3 hv3e => ?_)
  have fx3 : FX KAr h h3 := FX.pI fx hv3e (by unfold KAr; omega)
  have k4 := bd_e k2 (st_I hv3e (ti_rfl v1))
  refine go_iload_n (pc := 8) rfl dX8_count_8 ?_
  by_cases q5 : a2.toInt = 0
  ·
    refine go_tableIn (pc := 9) (tgt := 48) (off := 39) (by rw [show (a2 : Int32).toInt = a2.toInt from (ti_rfl a2)]; omega) (by rw [show (a2 : Int32).toInt = a2.toInt from (ti_rfl a2)]; omega) (by rw [show (a2 : Int32).toInt = a2.toInt from (ti_rfl a2), q5]; rfl) (by decide) dX8_count_9 ?_
    have k6 := if_t k4 q5
    refine go_aload_n (pc := 48) rfl dX8_count_48 ?_
    refine gi_get (pc := 49) (lo := 0) (hi := 1) hv3 fL_X8_243 rfl (Nat.le_of_ble_eq_true rfl) rfl rfl dX8_count_49 (fun v7 v7l v7u v7w => ?_)
    have k8 := bd_e k6 (congrArg Int32.toInt v7w.symm)
    refine gf_if_eq (pc := 52) (tgt := 67) (ti_rfl v7) (by decide) dX8_count_52 (fun q9 => ?_) (fun q9 => ?_)
    ·
      have k10 := if_t k8 q9
      refine go_iconst (pc := 67) (v := 0) (by decide) dX8_count_67 ?_
      exact gi_iret (pc := 68) (ti_c (v := 0) (a := 0) (by decide)) ⟨_, rfl, (ti_lo _), (ti_hi _), hv3, (by rw [show (0 : Int32).toInt = 0 from (ti_c (v := 0) (a := 0) (by decide))]; exact k10.symm.trans kf), fx3⟩ hv3 dX8_count_68
    ·
      have k11 := if_f k8 q9
      refine go_aload_n (pc := 55) rfl dX8_count_55 ?_
      refine gi_getF (pc := 56) (q := 75) hv3 fL_X8_23 rfl (Nat.le_of_ble_eq_true rfl) rfl (hv3.rf (by decide)) dX8_count_56 ?_
      refine go_aload_n (pc := 59) rfl dX8_count_59 ?_
      refine gi_get (pc := 60) (lo := 0) (hi := 1) hv3 fL_X8_228 rfl (Nat.le_of_ble_eq_true rfl) rfl rfl dX8_count_60 (fun v12 v12l v12u v12w => ?_)
      have k13 := bd_e k11 (congrArg Int32.toInt v12w.symm)
      refine gi_iald (pc := 63) (lo := 0) (hi := 40) (len := 2) hv3 (ti_rfl v12) rfl (by omega) (by omega) (fun _ => rfl) dX8_count_63 (fun v14 v14l v14u v14w => ?_)
      have k15 := bd_e k13 (congrArg Int32.toInt v14w.symm)
      refine go_goto (pc := 64) (tgt := 68) (by decide) dX8_count_64 ?_
      exact gi_iret (pc := 68) (ti_rfl v14) ⟨_, rfl, (ti_lo _), (ti_hi _), hv3, (k15.symm.trans kf), fx3⟩ hv3 dX8_count_68
  have k16 := if_f k4 q5
  by_cases q17 : a2.toInt = 1
  ·
    refine go_tableIn (pc := 9) (tgt := 69) (off := 60) (by rw [show (a2 : Int32).toInt = a2.toInt from (ti_rfl a2)]; omega) (by rw [show (a2 : Int32).toInt = a2.toInt from (ti_rfl a2)]; omega) (by rw [show (a2 : Int32).toInt = a2.toInt from (ti_rfl a2), q17]; rfl) (by decide) dX8_count_9 ?_
    have k18 := if_t k16 q17
    refine go_aload_n (pc := 69) rfl dX8_count_69 ?_
    refine gi_get (pc := 70) (lo := 0) (hi := 1) hv3 fL_X8_243 rfl (Nat.le_of_ble_eq_true rfl) rfl rfl dX8_count_70 (fun v19 v19l v19u v19w => ?_)
    have k20 := bd_e k18 (congrArg Int32.toInt v19w.symm)
    refine gf_if_eq (pc := 73) (tgt := 88) (ti_rfl v19) (by decide) dX8_count_73 (fun q21 => ?_) (fun q21 => ?_)
    ·
      have k22 := if_t k20 q21
      refine go_iconst (pc := 88) (v := 0) (by decide) dX8_count_88 ?_
      exact gi_iret (pc := 89) (ti_c (v := 0) (a := 0) (by decide)) ⟨_, rfl, (ti_lo _), (ti_hi _), hv3, (by rw [show (0 : Int32).toInt = 0 from (ti_c (v := 0) (a := 0) (by decide))]; exact k22.symm.trans kf), fx3⟩ hv3 dX8_count_89
    ·
      have k23 := if_f k20 q21
      refine go_aload_n (pc := 76) rfl dX8_count_76 ?_
      refine gi_getF (pc := 77) (q := 76) hv3 fL_X8_26 rfl (Nat.le_of_ble_eq_true rfl) rfl (hv3.rf (by decide)) dX8_count_77 ?_
      refine go_aload_n (pc := 80) rfl dX8_count_80 ?_
      refine gi_get (pc := 81) (lo := 0) (hi := 1) hv3 fL_X8_228 rfl (Nat.le_of_ble_eq_true rfl) rfl rfl dX8_count_81 (fun v24 v24l v24u v24w => ?_)
      have k25 := bd_e k23 (congrArg Int32.toInt v24w.symm)
      refine gi_iald (pc := 84) (lo := 0) (hi := 5) (len := 2) hv3 (ti_rfl v24) rfl (by omega) (by omega) (fun _ => rfl) dX8_count_84 (fun v26 v26l v26u v26w => ?_)
      have k27 := bd_e k25 (congrArg Int32.toInt v26w.symm)
      refine go_goto (pc := 85) (tgt := 89) (by decide) dX8_count_85 ?_
      exact gi_iret (pc := 89) (ti_rfl v26) ⟨_, rfl, (ti_lo _), (ti_hi _), hv3, (k27.symm.trans kf), fx3⟩ hv3 dX8_count_89
  have k28 := if_f k16 q17
  by_cases q29 : a2.toInt = 2
  ·
    refine go_tableIn (pc := 9) (tgt := 90) (off := 81) (by rw [show (a2 : Int32).toInt = a2.toInt from (ti_rfl a2)]; omega) (by rw [show (a2 : Int32).toInt = a2.toInt from (ti_rfl a2)]; omega) (by rw [show (a2 : Int32).toInt = a2.toInt from (ti_rfl a2), q29]; rfl) (by decide) dX8_count_9 ?_
    have k30 := if_t k28 q29
    refine go_aload_n (pc := 90) rfl dX8_count_90 ?_
    refine gi_get (pc := 91) (lo := 0) (hi := 1) hv3 fL_X8_243 rfl (Nat.le_of_ble_eq_true rfl) rfl rfl dX8_count_91 (fun v31 v31l v31u v31w => ?_)
    have k32 := bd_e k30 (congrArg Int32.toInt v31w.symm)
    refine gf_if_eq (pc := 94) (tgt := 104) (ti_rfl v31) (by decide) dX8_count_94 (fun q33 => ?_) (fun q33 => ?_)
    ·
      have k34 := if_t k32 q33
      refine go_iconst (pc := 104) (v := 0) (by decide) dX8_count_104 ?_
      exact gi_iret (pc := 105) (ti_c (v := 0) (a := 0) (by decide)) ⟨_, rfl, (ti_lo _), (ti_hi _), hv3, (by rw [show (0 : Int32).toInt = 0 from (ti_c (v := 0) (a := 0) (by decide))]; exact k34.symm.trans kf), fx3⟩ hv3 dX8_count_105
    ·
      have k35 := if_f k32 q33
      refine go_aload_n (pc := 97) rfl dX8_count_97 ?_
      refine go_invV (pc := 98) (sl := 0) (s_X8_calls_f l (d + 0) hv3 ) mL_X8_382 iM_X8_calls sM_X8_calls (hv3.sh rfl) rfl rfl rfl (Nat.le_of_ble_eq_true rfl) (show d + 0 + 3 + 1 ≤ d + 4 by omega) (show 8 + (3 + 11) + 40 * (d + 0 + 3) ≤ 40 * (d + 4) by omega) (g_c0 hv3.ln) (Nat.le_of_ble_eq_true rfl) dX8_count_98 ?_
      intro r h36 hq _
      obtain ⟨v38, rfl, v38l, v38u, rfl, f37⟩ := hq
      have k39 := bd_e k35 f37.symm
      refine go_goto (pc := 101) (tgt := 105) (by decide) dX8_count_101 ?_
      exact gi_iret (pc := 105) (ti_rfl v38) ⟨_, rfl, (ti_lo _), (ti_hi _), hv3, (k39.symm.trans kf), fx3⟩ hv3 dX8_count_105
  have k40 := if_f k28 q29
  by_cases q41 : a2.toInt = 3
  ·
    refine go_tableIn (pc := 9) (tgt := 106) (off := 97) (by rw [show (a2 : Int32).toInt = a2.toInt from (ti_rfl a2)]; omega) (by rw [show (a2 : Int32).toInt = a2.toInt from (ti_rfl a2)]; omega) (by rw [show (a2 : Int32).toInt = a2.toInt from (ti_rfl a2), q41]; rfl) (by decide) dX8_count_9 ?_
    have k42 := if_t k40 q41
    refine go_aload_n (pc := 106) rfl dX8_count_106 ?_
    refine gi_get (pc := 107) (lo := 0) (hi := 1) hv3 fL_X8_243 rfl (Nat.le_of_ble_eq_true rfl) rfl rfl dX8_count_107 (fun v43 v43l v43u v43w => ?_)
    have k44 := bd_e k42 (congrArg Int32.toInt v43w.symm)
    refine gf_if_eq (pc := 110) (tgt := 124) (ti_rfl v43) (by decide) dX8_count_110 (fun q45 => ?_) (fun q45 => ?_)
    ·
      have k46 := if_t k44 q45
      refine go_iconst (pc := 124) (v := 0) (by decide) dX8_count_124 ?_
      exact gi_iret (pc := 125) (ti_c (v := 0) (a := 0) (by decide)) ⟨_, rfl, (ti_lo _), (ti_hi _), hv3, (by rw [show (0 : Int32).toInt = 0 from (ti_c (v := 0) (a := 0) (by decide))]; exact k46.symm.trans kf), fx3⟩ hv3 dX8_count_125
    ·
      have k47 := if_f k44 q45
      refine go_aload_n (pc := 113) rfl dX8_count_113 ?_
      refine go_aload_n (pc := 114) rfl dX8_count_114 ?_
      refine gi_getF (pc := 115) (q := 102) hv3 fL_X8_105 rfl (Nat.le_of_ble_eq_true rfl) rfl (hv3.rf (by decide)) dX8_count_115 ?_
      refine go_invV (pc := 118) (sl := 0) (s_X8_may_f l (d + 2) hv3 102 (by decide)) mL_X8_385 iM_X8_may sM_X8_may (hv3.sh rfl) rfl rfl rfl (Nat.le_of_ble_eq_true rfl) (show d + 2 + 1 + 1 ≤ d + 4 by omega) (show 8 + (4 + 11) + 40 * (d + 2 + 1) ≤ 40 * (d + 4) by omega) (g_c0 hv3.ln) (Nat.le_of_ble_eq_true rfl) dX8_count_118 ?_
      intro r h48 hq _
      obtain ⟨v50, rfl, v50l, v50u, rfl, f49⟩ := hq
      have k51 := bd_e k47 f49.symm
      refine go_goto (pc := 121) (tgt := 125) (by decide) dX8_count_121 ?_
      exact gi_iret (pc := 125) (ti_rfl v50) ⟨_, rfl, (ti_lo _), (ti_hi _), hv3, (k51.symm.trans kf), fx3⟩ hv3 dX8_count_125
  have k52 := if_f k40 q41
  by_cases q53 : a2.toInt = 4
  ·
    refine go_tableIn (pc := 9) (tgt := 126) (off := 117) (by rw [show (a2 : Int32).toInt = a2.toInt from (ti_rfl a2)]; omega) (by rw [show (a2 : Int32).toInt = a2.toInt from (ti_rfl a2)]; omega) (by rw [show (a2 : Int32).toInt = a2.toInt from (ti_rfl a2), q53]; rfl) (by decide) dX8_count_9 ?_
    have k54 := if_t k52 q53
    refine go_aload_n (pc := 126) rfl dX8_count_126 ?_
    refine gi_get (pc := 127) (lo := 0) (hi := 1) hv3 fL_X8_243 rfl (Nat.le_of_ble_eq_true rfl) rfl rfl dX8_count_127 (fun v55 v55l v55u v55w => ?_)
    have k56 := bd_e k54 (congrArg Int32.toInt v55w.symm)
    refine gf_if_eq (pc := 130) (tgt := 144) (ti_rfl v55) (by decide) dX8_count_130 (fun q57 => ?_) (fun q57 => ?_)
    ·
      have k58 := if_t k56 q57
      refine go_iconst (pc := 144) (v := 0) (by decide) dX8_count_144 ?_
      exact gi_iret (pc := 145) (ti_c (v := 0) (a := 0) (by decide)) ⟨_, rfl, (ti_lo _), (ti_hi _), hv3, (by rw [show (0 : Int32).toInt = 0 from (ti_c (v := 0) (a := 0) (by decide))]; exact k58.symm.trans kf), fx3⟩ hv3 dX8_count_145
    ·
      have k59 := if_f k56 q57
      refine go_aload_n (pc := 133) rfl dX8_count_133 ?_
      refine go_aload_n (pc := 134) rfl dX8_count_134 ?_
      refine gi_getF (pc := 135) (q := 101) hv3 fL_X8_101 rfl (Nat.le_of_ble_eq_true rfl) rfl (hv3.rf (by decide)) dX8_count_135 ?_
      refine go_invV (pc := 138) (sl := 0) (s_X8_may_f l (d + 2) hv3 101 (by decide)) mL_X8_385 iM_X8_may sM_X8_may (hv3.sh rfl) rfl rfl rfl (Nat.le_of_ble_eq_true rfl) (show d + 2 + 1 + 1 ≤ d + 4 by omega) (show 8 + (4 + 11) + 40 * (d + 2 + 1) ≤ 40 * (d + 4) by omega) (g_c0 hv3.ln) (Nat.le_of_ble_eq_true rfl) dX8_count_138 ?_
      intro r h60 hq _
      obtain ⟨v62, rfl, v62l, v62u, rfl, f61⟩ := hq
      have k63 := bd_e k59 f61.symm
      refine go_goto (pc := 141) (tgt := 145) (by decide) dX8_count_141 ?_
      exact gi_iret (pc := 145) (ti_rfl v62) ⟨_, rfl, (ti_lo _), (ti_hi _), hv3, (k63.symm.trans kf), fx3⟩ hv3 dX8_count_145
  have k64 := if_f k52 q53
  by_cases q65 : a2.toInt = 5
  ·
    refine go_tableIn (pc := 9) (tgt := 146) (off := 137) (by rw [show (a2 : Int32).toInt = a2.toInt from (ti_rfl a2)]; omega) (by rw [show (a2 : Int32).toInt = a2.toInt from (ti_rfl a2)]; omega) (by rw [show (a2 : Int32).toInt = a2.toInt from (ti_rfl a2), q65]; rfl) (by decide) dX8_count_9 ?_
    have k66 := if_t k64 q65
    refine go_aload_n (pc := 146) rfl dX8_count_146 ?_
    refine gi_get (pc := 147) (lo := 0) (hi := 500) hv3 fL_X8_151 rfl (Nat.le_of_ble_eq_true rfl) rfl rfl dX8_count_147 (fun v67 v67l v67u v67w => ?_)
    have v67p : v67.toInt = P.2.1.toInt := by rw [v67w]; exact congrArg Int32.toInt hv3.t1
    have k68 := bd_e k66 (congrArg Int32.toInt v67w.symm)
    exact gi_iret (pc := 150) (ti_rfl v67) ⟨_, rfl, (ti_lo _), (ti_hi _), hv3, (k68.symm.trans kf), fx3⟩ hv3 dX8_count_150
  have k69 := if_f k64 q65
  refine go_tableOut (pc := 9) (tgt := 151) (by rw [show (a2 : Int32).toInt = a2.toInt from (ti_rfl a2)]; omega) (by decide) dX8_count_9 ?_
  refine go_iconst (pc := 151) (v := (-1)) (by decide) dX8_count_151 ?_
  exact gi_iret (pc := 152) (ti_c (v := (-1)) (a := (-1)) (by decide)) ⟨_, rfl, (ti_lo _), (ti_hi _), hv3, (by rw [show ((-1) : Int32).toInt = (-1) from (ti_c (v := (-1)) (a := (-1)) (by decide))]; exact k69.symm.trans kf), fx3⟩ hv3 dX8_count_152
