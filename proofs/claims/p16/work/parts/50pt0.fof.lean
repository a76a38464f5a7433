def f_X7_isStatement (s : ST) (a2 : Int) : Int :=
  if a2 < 0 then (0) else (bd (s.2.2 0 3) fun c4 => bd (s.1 c4 0) fun v6 => if v6 ≤ a2 then (0) else (1))
set_option maxHeartbeats 4000000 in
set_option maxRecDepth 100000 in
theorem s_X7_isStatement_f (l : Launch) (d : Nat) {P : PP} {h : HP} (hv : Iv P h) (a2 : Int32) : Mt l yX7_isStatement cX7_isStatement 2 (some .boolean) (d + 1) [.ref 0, .int a2] h 0 0 (fun r h' => ∃ v : Int32, r = some (.int v) ∧ 0 ≤ v.toInt ∧ v.toInt ≤ 1 ∧ h = h' ∧ (v.toInt = 1 → 0 ≤ a2.toInt ∧ a2.toInt ≤ 39) ∧ (v.toInt = f_X7_isStatement (st h) a2.toInt)) := by
  refine Mt_iv hv (by decide) (Nat.le_of_ble_eq_true rfl) ?_
  show Go l RX7 cX7_isStatement 2 (g_rm (d + 1) 0 0) "isStatement" (some .boolean) 117 0 0 (fun _ _ => True) (fun r h' => ∃ v : Int32, r = some (.int v) ∧ 0 ≤ v.toInt ∧ v.toInt ≤ 1 ∧ h = h' ∧ (v.toInt = 1 → 0 ≤ a2.toInt ∧ a2.toInt ≤ 39) ∧ (v.toInt = f_X7_isStatement (st h) a2.toInt)) 0 0 [(0, .ref 0), (1, .int a2)] [] h
  obtain ⟨fin, kf⟩ : ∃ z, z = f_X7_isStatement (st h) a2.toInt := ⟨_, _root_.rfl⟩
  have k0 := kf
  unfold f_X7_isStatement at k0
  refine go_iload_n (pc := 0) rfl dX7_isStatement_0 ?_
  refine gf_if_lt (pc := 1) (tgt := 19) (ti_rfl a2) (by decide) dX7_isStatement_1 (fun q1 => ?_) (fun q1 => ?_)
  ·
    have k2 := if_t k0 q1
    refine go_iconst (pc := 19) (v := 0) (by decide) dX7_isStatement_19 ?_
    exact gi_zret (pc := 20) (ti_c (v := 0) (a := 0) (by decide)) (by omega) (by omega) ⟨_, rfl, (by rw [show (0 : Int32).toInt = 0 from (ti_c (v := 0) (a := 0) (by decide))]; omega), (by rw [show (0 : Int32).toInt = 0 from (ti_c (v := 0) (a := 0) (by decide))]; omega), rfl, (by rw [show (0 : Int32).toInt = 0 from (ti_c (v := 0) (a := 0) (by decide))]; omega), (by rw [show (0 : Int32).toInt = 0 from (ti_c (v := 0) (a := 0) (by decide))]; exact k2.symm.trans kf)⟩ hv dX7_isStatement_20
  ·
    have k3 := if_f k0 (Int.not_lt.mpr q1)
    refine go_iload_n (pc := 4) rfl dX7_isStatement_4 ?_
    refine go_aload_n (pc := 5) rfl dX7_isStatement_5 ?_
    refine gi_getC (pc := 6) hv fL_X7_23 rfl (Nat.le_of_ble_eq_true rfl) rfl (by decide) dX7_isStatement_6 (fun c4 hc4 fc4 => ?_)
    have k5 := bd_e k3 (st_c fc4)
    refine gi_get (pc := 9) (lo := 0) (hi := 40) hv fL_X7_65 (by rcases hc4 with rfl | rfl <;> rfl) (Nat.le_of_ble_eq_true rfl) rfl (by rcases hc4 with rfl | rfl <;> rfl) dX7_isStatement_9 (fun v6 v6l v6u v6w => ?_)
    have k7 := bd_e k5 (congrArg Int32.toInt v6w.symm)
    refine gf_icmp_ge (pc := 12) (tgt := 19) (ti_rfl a2) (ti_rfl v6) (by decide) dX7_isStatement_12 (fun q8 => ?_) (fun q8 => ?_)
    ·
      have k9 := if_t k7 q8
      refine go_iconst (pc := 19) (v := 0) (by decide) dX7_isStatement_19 ?_
      exact gi_zret (pc := 20) (ti_c (v := 0) (a := 0) (by decide)) (by omega) (by omega) ⟨_, rfl, (by rw [show (0 : Int32).toInt = 0 from (ti_c (v := 0) (a := 0) (by decide))]; omega), (by rw [show (0 : Int32).toInt = 0 from (ti_c (v := 0) (a := 0) (by decide))]; omega), rfl, (by rw [show (0 : Int32).toInt = 0 from (ti_c (v := 0) (a := 0) (by decide))]; omega), (by rw [show (0 : Int32).toInt = 0 from (ti_c (v := 0) (a := 0) (by decide))]; exact k9.symm.trans kf)⟩ hv dX7_isStatement_20
    ·
      have k10 := if_f k7 (Int.not_le.mpr q8)
      refine go_iconst (pc := 15) (v := 1) (by decide) dX7_isStatement_15 ?_
      refine go_goto (pc := 16) (tgt := 20) (by decide) dX7_isStatement_16 ?_
      exact gi_zret (pc := 20) (ti_c (v := 1) (a := 1) (by decide)) (by omega) (by omega) ⟨_, rfl, (by rw [show (1 : Int32).toInt = 1 from (ti_c (v := 1) (a := 1) (by decide))]; omega), (by rw [show (1 : Int32).toInt = 1 from (ti_c (v := 1) (a := 1) (by decide))]; omega), rfl, (by rw [show (1 : Int32).toInt = 1 from (ti_c (v := 1) (a := 1) (by decide))]; omega), (by rw [show (1 : Int32).toInt = 1 from (ti_c (v := 1) (a := 1) (by decide))]; exact k10.symm.trans kf)⟩ hv dX7_isStatement_20
def f_X7_of (s : ST) (a2 : Int) (a3 : Int) : Int :=
  bd (f_X7_isStatement s a2) fun v3 => if ¬ v3 = 0 then (if a3 = 0 then (bd (s.2.2 0 3) fun c10 => bd (s.1 (c10 + 2) (a2).toNat) fun v12 => v12) else if a3 = 1 then (bd (s.2.2 0 3) fun c17 => bd (s.1 (c17 + 3) (a2).toNat) fun v19 => v19) else if a3 = 2 then (bd (s.2.2 0 3) fun c24 => bd (s.1 (c24 + 4) (a2).toNat) fun v26 => v26) else if a3 = 3 then (bd (s.2.2 0 3) fun c31 => bd (s.1 (c31 + 7) (a2).toNat) fun v33 => v33) else if a3 = 4 then (bd (s.2.2 0 3) fun c38 => bd (s.1 (c38 + 5) (a2).toNat) fun v40 => v40) else if a3 = 5 then (bd (s.2.2 0 3) fun c45 => bd (s.1 (c45 + 15) (a2).toNat) fun v47 => v47) else if a3 = 6 then (bd (s.2.2 0 3) fun c52 => bd (f_X0_decides s c52 a2) fun v56 => if v56 = 0 then (0) else (1)) else (-1)) else ((-1))
set_option maxHeartbeats 4000000 in
set_option maxRecDepth 100000 in
theorem s_X7_of_f (l : Launch) (d : Nat) {P : PP} {h : HP} (hv : Iv P h) (a2 : Int32) (a3 : Int32) : Mt l yX7_of cX7_of 3 (some .int) (d + 3) [.ref 0, .int a2, .int a3] h 0 0 (fun r h' => ∃ v : Int32, r = some (.int v) ∧ -2147483648 ≤ v.toInt ∧ v.toInt ≤ 2147483647 ∧ h = h' ∧ (v.toInt = f_X7_of (st h) a2.toInt a3.toInt)) := by
  refine Mt_iv hv (by decide) (Nat.le_of_ble_eq_true rfl) ?_
  show Go l RX7 cX7_of 3 (g_rm (d + 3) 0 0) "of" (some .int) 117 0 0 (fun _ _ => True) (fun r h' => ∃ v : Int32, r = some (.int v) ∧ -2147483648 ≤ v.toInt ∧ v.toInt ≤ 2147483647 ∧ h = h' ∧ (v.toInt = f_X7_of (st h) a2.toInt a3.toInt)) 0 0 [(0, .ref 0), (1, .int a2), (2, .int a3)] [] h
  obtain ⟨fin, kf⟩ : ∃ z, z = f_X7_of (st h) a2.toInt a3.toInt := ⟨_, _root_.rfl⟩
  have k0 := kf
  unfold f_X7_of at k0
  refine go_aload_n (pc := 0) rfl dX7_of_0 ?_
  refine go_iload_n (pc := 1) rfl dX7_of_1 ?_
  refine go_invV (pc := 2) (sl := 0) (s_X7_isStatement_f l (d + 1) hv a2) mL_X7_87 iM_X7_isStatement sM_X7_isStatement (hv.sh rfl) rfl rfl rfl (Nat.le_of_ble_eq_true rfl) (show d + 1 + 1 + 1 ≤ d + 3 by omega) (show 8 + (2 + 11) + 40 * (d + 1 + 1) ≤ 40 * (d + 3) by omega) (g_c0 hv.ln) (Nat.le_of_ble_eq_true rfl) dX7_of_2 ?_
  intro r h1 hq _
  obtain ⟨v3, rfl, v3l, v3u, rfl, f4, f2⟩ := hq
  replace f2 : PE _ _ := f2
  have k5 := bd_e k0 f2.symm
  refine gf_if_ne (pc := 5) (tgt := 10) (ti_rfl v3) (by decide) dX7_of_5 (fun q6 => ?_) (fun q6 => ?_)
  ·
    have k7 := if_t k5 q6
    refine go_iload_n (pc := 10) rfl dX7_of_10 ?_
    by_cases q8 : a3.toInt = 0
    ·
      refine go_tableIn (pc := 11) (tgt := 52) (off := 41) (by rw [show (a3 : Int32).toInt = a3.toInt from (ti_rfl a3)]; omega) (by rw [show (a3 : Int32).toInt = a3.toInt from (ti_rfl a3)]; omega) (by rw [show (a3 : Int32).toInt = a3.toInt from (ti_rfl a3), q8]; rfl) (by decide) dX7_of_11 ?_
      have k9 := if_t k7 q8
      refine go_aload_n (pc := 52) rfl dX7_of_52 ?_
      refine gi_getC (pc := 53) hv fL_X7_23 rfl (Nat.le_of_ble_eq_true rfl) rfl (by decide) dX7_of_53 (fun c10 hc10 fc10 => ?_)
      have k11 := bd_e k9 (st_c fc10)
      refine gi_getF (pc := 56) (q := c10 + 2) hv fL_X7_91 (by rcases hc10 with rfl | rfl <;> rfl) (Nat.le_of_ble_eq_true rfl) rfl (by rcases hc10 with rfl | rfl <;> exact hv.rf (by decide)) dX7_of_56 ?_
      refine go_iload_n (pc := 59) rfl dX7_of_59 ?_
      refine gi_iald (pc := 60) (lo := 0) (hi := 5) (len := 40) hv (ti_rfl a2) (by rcases hc10 with rfl | rfl <;> rfl) (by omega) (by omega) (fun _ => by rcases hc10 with rfl | rfl <;> rfl) dX7_of_60 (fun v12 v12l v12u v12w => ?_)
      have k13 := bd_e k11 (congrArg Int32.toInt v12w.symm)
      exact gi_iret (pc := 61) (ti_rfl v12) ⟨_, rfl, (ti_lo _), (ti_hi _), rfl, (k13.symm.trans kf)⟩ hv dX7_of_61
    have k14 := if_f k7 q8
    by_cases q15 : a3.toInt = 1
    ·
      refine go_tableIn (pc := 11) (tgt := 62) (off := 51) (by rw [show (a3 : Int32).toInt = a3.toInt from (ti_rfl a3)]; omega) (by rw [show (a3 : Int32).toInt = a3.toInt from (ti_rfl a3)]; omega) (by rw [show (a3 : Int32).toInt = a3.toInt from (ti_rfl a3), q15]; rfl) (by decide) dX7_of_11 ?_
      have k16 := if_t k14 q15
      refine go_aload_n (pc := 62) rfl dX7_of_62 ?_
      refine gi_getC (pc := 63) hv fL_X7_23 rfl (Nat.le_of_ble_eq_true rfl) rfl (by decide) dX7_of_63 (fun c17 hc17 fc17 => ?_)
      have k18 := bd_e k16 (st_c fc17)
      refine gi_getF (pc := 66) (q := c17 + 3) hv fL_X7_95 (by rcases hc17 with rfl | rfl <;> rfl) (Nat.le_of_ble_eq_true rfl) rfl (by rcases hc17 with rfl | rfl <;> exact hv.rf (by decide)) dX7_of_66 ?_
      refine go_iload_n (pc := 69) rfl dX7_of_69 ?_
      refine gi_iald (pc := 70) (lo := -1) (hi := 4) (len := 40) hv (ti_rfl a2) (by rcases hc17 with rfl | rfl <;> rfl) (by omega) (by omega) (fun _ => by rcases hc17 with rfl | rfl <;> rfl) dX7_of_70 (fun v19 v19l v19u v19w => ?_)
      have k20 := bd_e k18 (congrArg Int32.toInt v19w.symm)
      exact gi_iret (pc := 71) (ti_rfl v19) ⟨_, rfl, (ti_lo _), (ti_hi _), rfl, (k20.symm.trans kf)⟩ hv dX7_of_71
    have k21 := if_f k14 q15
    by_cases q22 : a3.toInt = 2
    ·
      refine go_tableIn (pc := 11) (tgt := 72) (off := 61) (by rw [show (a3 : Int32).toInt = a3.toInt from (ti_rfl a3)]; omega) (by rw [show (a3 : Int32).toInt = a3.toInt from (ti_rfl a3)]; omega) (by rw [show (a3 : Int32).toInt = a3.toInt from (ti_rfl a3), q22]; rfl) (by decide) dX7_of_11 ?_
      have k23 := if_t k21 q22
      refine go_aload_n (pc := 72) rfl dX7_of_72 ?_
      refine gi_getC (pc := 73) hv fL_X7_23 rfl (Nat.le_of_ble_eq_true rfl) rfl (by decide) dX7_of_73 (fun c24 hc24 fc24 => ?_)
      have k25 := bd_e k23 (st_c fc24)
      refine gi_getF (pc := 76) (q := c24 + 4) hv fL_X7_98 (by rcases hc24 with rfl | rfl <;> rfl) (Nat.le_of_ble_eq_true rfl) rfl (by rcases hc24 with rfl | rfl <;> exact hv.rf (by decide)) dX7_of_76 ?_
      refine go_iload_n (pc := 79) rfl dX7_of_79 ?_
      refine gi_iald (pc := 80) (lo := -2147483648) (hi := 2147483647) (len := 40) hv (ti_rfl a2) (by rcases hc24 with rfl | rfl <;> rfl) (by omega) (by omega) (fun _ => by rcases hc24 with rfl | rfl <;> rfl) dX7_of_80 (fun v26 v26l v26u v26w => ?_)
      have k27 := bd_e k25 (congrArg Int32.toInt v26w.symm)
      exact gi_iret (pc := 81) (ti_rfl v26) ⟨_, rfl, (ti_lo _), (ti_hi _), rfl, (k27.symm.trans kf)⟩ hv dX7_of_81
    have k28 := if_f k21 q22
    by_cases q29 : a3.toInt = 3
    ·
      refine go_tableIn (pc := 11) (tgt := 82) (off := 71) (by rw [show (a3 : Int32).toInt = a3.toInt from (ti_rfl a3)]; omega) (by rw [show (a3 : Int32).toInt = a3.toInt from (ti_rfl a3)]; omega) (by rw [show (a3 : Int32).toInt = a3.toInt from (ti_rfl a3), q29]; rfl) (by decide) dX7_of_11 ?_
      have k30 := if_t k28 q29
      refine go_aload_n (pc := 82) rfl dX7_of_82 ?_
      refine gi_getC (pc := 83) hv fL_X7_23 rfl (Nat.le_of_ble_eq_true rfl) rfl (by decide) dX7_of_83 (fun c31 hc31 fc31 => ?_)
      have k32 := bd_e k30 (st_c fc31)
      refine gi_getF (pc := 86) (q := c31 + 7) hv fL_X7_101 (by rcases hc31 with rfl | rfl <;> rfl) (Nat.le_of_ble_eq_true rfl) rfl (by rcases hc31 with rfl | rfl <;> exact hv.rf (by decide)) dX7_of_86 ?_
      refine go_iload_n (pc := 89) rfl dX7_of_89 ?_
      refine gi_iald (pc := 90) (lo := -2) (hi := 4) (len := 40) hv (ti_rfl a2) (by rcases hc31 with rfl | rfl <;> rfl) (by omega) (by omega) (fun _ => by rcases hc31 with rfl | rfl <;> rfl) dX7_of_90 (fun v33 v33l v33u v33w => ?_)
      have k34 := bd_e k32 (congrArg Int32.toInt v33w.symm)
      exact gi_iret (pc := 91) (ti_rfl v33) ⟨_, rfl, (ti_lo _), (ti_hi _), rfl, (k34.symm.trans kf)⟩ hv dX7_of_91
    have k35 := if_f k28 q29
    by_cases q36 : a3.toInt = 4
    ·
      refine go_tableIn (pc := 11) (tgt := 92) (off := 81) (by rw [show (a3 : Int32).toInt = a3.toInt from (ti_rfl a3)]; omega) (by rw [show (a3 : Int32).toInt = a3.toInt from (ti_rfl a3)]; omega) (by rw [show (a3 : Int32).toInt = a3.toInt from (ti_rfl a3), q36]; rfl) (by decide) dX7_of_11 ?_
      have k37 := if_t k35 q36
      refine go_aload_n (pc := 92) rfl dX7_of_92 ?_
      refine gi_getC (pc := 93) hv fL_X7_23 rfl (Nat.le_of_ble_eq_true rfl) rfl (by decide) dX7_of_93 (fun c38 hc38 fc38 => ?_)
      have k39 := bd_e k37 (st_c fc38)
      refine gi_getF (pc := 96) (q := c38 + 5) hv fL_X7_104 (by rcases hc38 with rfl | rfl <;> rfl) (Nat.le_of_ble_eq_true rfl) rfl (by rcases hc38 with rfl | rfl <;> exact hv.rf (by decide)) dX7_of_96 ?_
      refine go_iload_n (pc := 99) rfl dX7_of_99 ?_
      refine gi_iald (pc := 100) (lo := -2147483648) (hi := 2147483647) (len := 40) hv (ti_rfl a2) (by rcases hc38 with rfl | rfl <;> rfl) (by omega) (by omega) (fun _ => by rcases hc38 with rfl | rfl <;> rfl) dX7_of_100 (fun v40 v40l v40u v40w => ?_)
      have k41 := bd_e k39 (congrArg Int32.toInt v40w.symm)
      exact gi_iret (pc := 101) (ti_rfl v40) ⟨_, rfl, (ti_lo _), (ti_hi _), rfl, (k41.symm.trans kf)⟩ hv dX7_of_101
    have k42 := if_f k35 q36
    by_cases q43 : a3.toInt = 5
    ·
      refine go_tableIn (pc := 11) (tgt := 102) (off := 91) (by rw [show (a3 : Int32).toInt = a3.toInt from (ti_rfl a3)]; omega) (by rw [show (a3 : Int32).toInt = a3.toInt from (ti_rfl a3)]; omega) (by rw [show (a3 : Int32).toInt = a3.toInt from (ti_rfl a3), q43]; rfl) (by decide) dX7_of_11 ?_
      have k44 := if_t k42 q43
      refine go_aload_n (pc := 102) rfl dX7_of_102 ?_
      refine gi_getC (pc := 103) hv fL_X7_23 rfl (Nat.le_of_ble_eq_true rfl) rfl (by decide) dX7_of_103 (fun c45 hc45 fc45 => ?_)
      have k46 := bd_e k44 (st_c fc45)
      refine gi_getF (pc := 106) (q := c45 + 15) hv fL_X7_107 (by rcases hc45 with rfl | rfl <;> rfl) (Nat.le_of_ble_eq_true rfl) rfl (by rcases hc45 with rfl | rfl <;> exact hv.rf (by decide)) dX7_of_106 ?_
      refine go_iload_n (pc := 109) rfl dX7_of_109 ?_
      refine gi_iald (pc := 110) (lo := -2) (hi := 44) (len := 40) hv (ti_rfl a2) (by rcases hc45 with rfl | rfl <;> rfl) (by omega) (by omega) (fun _ => by rcases hc45 with rfl | rfl <;> rfl) dX7_of_110 (fun v47 v47l v47u v47w => ?_)
      have k48 := bd_e k46 (congrArg Int32.toInt v47w.symm)
      exact gi_iret (pc := 111) (ti_rfl v47) ⟨_, rfl, (ti_lo _), (ti_hi _), rfl, (k48.symm.trans kf)⟩ hv dX7_of_111
    have k49 := if_f k42 q43
    by_cases q50 : a3.toInt = 6
    ·
      refine go_tableIn (pc := 11) (tgt := 112) (off := 101) (by rw [show (a3 : Int32).toInt = a3.toInt from (ti_rfl a3)]; omega) (by rw [show (a3 : Int32).toInt = a3.toInt from (ti_rfl a3)]; omega) (by rw [show (a3 : Int32).toInt = a3.toInt from (ti_rfl a3), q50]; rfl) (by decide) dX7_of_11 ?_
      have k51 := if_t k49 q50
      refine go_aload_n (pc := 112) rfl dX7_of_112 ?_
      refine gi_getC (pc := 113) hv fL_X7_23 rfl (Nat.le_of_ble_eq_true rfl) rfl (by decide) dX7_of_113 (fun c52 hc52 fc52 => ?_)
      have k53 := bd_e k51 (st_c fc52)
      refine go_iload_n (pc := 116) rfl dX7_of_116 ?_
      refine go_invV (pc := 117) (sl := 0) (s_X0_decides_f l (d + 0) hv c52 hc52 a2 (by rw [show (a2 : Int32).toInt = a2.toInt from (ti_rfl a2)]; omega) (by rw [show (a2 : Int32).toInt = a2.toInt from (ti_rfl a2)]; omega)) mL_X7_110 iM_X0_decides sM_X0_decides (hv.sh (by rcases hc52 with rfl | rfl <;> rfl)) rfl rfl rfl (Nat.le_of_ble_eq_true rfl) (show d + 0 + 2 + 1 ≤ d + 3 by omega) (show 8 + (2 + 11) + 40 * (d + 0 + 2) ≤ 40 * (d + 3) by omega) (g_c0 hv.ln) (Nat.le_of_ble_eq_true rfl) dX7_of_117 ?_
      intro r h54 hq _
      obtain ⟨v56, rfl, v56l, v56u, rfl, f55⟩ := hq
      replace f55 : PE _ _ := f55
      have k57 := bd_e k53 f55.symm
      refine gf_if_eq (pc := 120) (tgt := 127) (ti_rfl v56) (by decide) dX7_of_120 (fun q58 => ?_) (fun q58 => ?_)
      ·
        have k59 := if_t k57 q58
        refine go_iconst (pc := 127) (v := 0) (by decide) dX7_of_127 ?_
        exact gi_iret (pc := 128) (ti_c (v := 0) (a := 0) (by decide)) ⟨_, rfl, (ti_lo _), (ti_hi _), rfl, (by rw [show (0 : Int32).toInt = 0 from (ti_c (v := 0) (a := 0) (by decide))]; exact k59.symm.trans kf)⟩ hv dX7_of_128
      ·
        have k60 := if_f k57 q58
        refine go_iconst (pc := 123) (v := 1) (by decide) dX7_of_123 ?_
        refine go_goto (pc := 124) (tgt := 128) (by decide) dX7_of_124 ?_
        exact gi_iret (pc := 128) (ti_c (v := 1) (a := 1) (by decide)) ⟨_, rfl, (ti_lo _), (ti_hi _), rfl, (by rw [show (1 : Int32).toInt = 1 from (ti_c (v := 1) (a := 1) (by decide))]; exact k60.symm.trans kf)⟩ hv dX7_of_128
    have k61 := if_f k49 q50
    refine go_tableOut (pc := 11) (tgt := 129) (by rw [show (a3 : Int32).toInt = a3.toInt from (ti_rfl a3)]; omega) (by decide) dX7_of_11 ?_
    refine go_iconst (pc := 129) (v := (-1)) (by decide) dX7_of_129 ?_
    exact gi_iret (pc := 130) (ti_c (v := (-1)) (a := (-1)) (by decide)) ⟨_, rfl, (ti_lo _), (ti_hi _), rfl, (by rw [show ((-1) : Int32).toInt = (-1) from (ti_c (v := (-1)) (a := (-1)) (by decide))]; exact k61.symm.trans kf)⟩ hv dX7_of_130
  ·
    have k62 := if_f k5 (fun z => z q6)
    refine go_iconst (pc := 8) (v := (-1)) (by decide) dX7_of_8 ?_
    exact gi_iret (pc := 9) (ti_c (v := (-1)) (a := (-1)) (by decide)) ⟨_, rfl, (ti_lo _), (ti_hi _), rfl, (by rw [show ((-1) : Int32).toInt = (-1) from (ti_c (v := (-1)) (a := (-1)) (by decide))]; exact k62.symm.trans kf)⟩ hv dX7_of_9
def f_X8_item (s : ST) (a2 : Int) : Int :=
  bd (s.1 70 6) fun v1 => bd (s.1 93 (((40 * v1) + a2)).toNat) fun v7 => v7
set_option maxHeartbeats 4000000 in
set_option maxRecDepth 100000 in
theorem s_X8_item_f (l : Launch) (d : Nat) {P : PP} {h : HP} (hv : Iv P h) (a2 : Int32) (a2l : 0 ≤ a2.toInt) (a2u : a2.toInt ≤ 39) : Mt l yX8_item cX8_item 2 (some .int) (d + 1) [.ref 70, .int a2] h 0 0 (fun r h' => ∃ v : Int32, r = some (.int v) ∧ 0 ≤ v.toInt ∧ v.toInt ≤ 259 ∧ h = h' ∧ (v.toInt = g_it h a2.toInt) ∧ (v.toInt = f_X8_item (st h) a2.toInt)) := by
  refine Mt_iv hv (by decide) (Nat.le_of_ble_eq_true rfl) ?_
  show Go l RX8 cX8_item 2 (g_rm (d + 1) 0 0) "item" (some .int) 117 0 0 (fun _ _ => True) (fun r h' => ∃ v : Int32, r = some (.int v) ∧ 0 ≤ v.toInt ∧ v.toInt ≤ 259 ∧ h = h' ∧ (v.toInt = g_it h a2.toInt) ∧ (v.toInt = f_X8_item (st h) a2.toInt)) 0 0 [(0, .ref 70), (1, .int a2)] [] h
  obtain ⟨fin, kf⟩ : ∃ z, z = f_X8_item (st h) a2.toInt := ⟨_, _root_.rfl⟩
  have k0 := kf
  unfold f_X8_item at k0
  refine go_aload_n (pc := 0) rfl dX8_item_0 ?_
  refine gi_getF (pc := 1) (q := 93) hv fL_X8_77 rfl (Nat.le_of_ble_eq_true rfl) rfl (hv.rf (by decide)) dX8_item_1 ?_
  refine go_bipush (pc := 4) (v := 40) (by decide) dX8_item_4 ?_
  refine go_aload_n (pc := 6) rfl dX8_item_6 ?_
  refine gi_get (pc := 7) (lo := 0) (hi := 1) hv fL_X8_187 rfl (Nat.le_of_ble_eq_true rfl) rfl rfl dX8_item_7 (fun v1 v1l v1u v1w => ?_)
  have k2 := bd_e k0 (congrArg Int32.toInt v1w.symm)
  refine gf_imul (pc := 10) (ti_c (v := 40) (a := 40) (by decide)) (ti_rfl v1) (by omega) (by omega) dX8_item_10 (fun v3 e4 => ?_)
  refine go_iload_n (pc := 11) rfl dX8_item_11 ?_
  refine gf_iadd (pc := 12) e4 (ti_rfl a2) (by omega) (by omega) dX8_item_12 (fun v5 e6 => ?_)
  refine gi_iald (pc := 13) (lo := 0) (hi := 259) (len := 80) hv e6 rfl (by omega) (by omega) (fun _ => rfl) dX8_item_13 (fun v7 v7l v7u v7w => ?_)
  have k8 := bd_e k2 (congrArg Int32.toInt v7w.symm)
  exact gi_iret (pc := 14) (ti_rfl v7) ⟨_, rfl, (by rw [show (v7 : Int32).toInt = v7.toInt from (ti_rfl v7)]; omega), (by rw [show (v7 : Int32).toInt = v7.toInt from (ti_rfl v7)]; omega), rfl, (by show v7.toInt = g_it h a2.toInt; unfold g_it; rw [v7w, v1w]), (k8.symm.trans kf)⟩ hv dX8_item_14
def f_X8_kindAt (s : ST) (a2 : Int) : Int :=
  bd (f_X8_item s a2) fun v4 => bd (s.1 77 (v4).toNat) fun v6 => v6
set_option maxHeartbeats 4000000 in
set_option maxRecDepth 100000 in
theorem s_X8_kindAt_f (l : Launch) (d : Nat) {P : PP} {h : HP} (hv : Iv P h) (a2 : Int32) (a2l : 0 ≤ a2.toInt) (a2u : a2.toInt ≤ 39) : Mt l yX8_kindAt cX8_kindAt 2 (some .int) (d + 2) [.ref 70, .int a2] h 0 0 (fun r h' => ∃ v : Int32, r = some (.int v) ∧ 0 ≤ v.toInt ∧ v.toInt ≤ 6 ∧ h = h' ∧ (v.toInt = g_kd h a2.toInt) ∧ (v.toInt = f_X8_kindAt (st h) a2.toInt)) := by
  refine Mt_iv hv (by decide) (Nat.le_of_ble_eq_true rfl) ?_
  show Go l RX8 cX8_kindAt 2 (g_rm (d + 2) 0 0) "kindAt" (some .int) 117 0 0 (fun _ _ => True) (fun r h' => ∃ v : Int32, r = some (.int v) ∧ 0 ≤ v.toInt ∧ v.toInt ≤ 6 ∧ h = h' ∧ (v.toInt = g_kd h a2.toInt) ∧ (v.toInt = f_X8_kindAt (st h) a2.toInt)) 0 0 [(0, .ref 70), (1, .int a2)] [] h
  obtain ⟨fin, kf⟩ : ∃ z, z = f_X8_kindAt (st h) a2.toInt := ⟨_, _root_.rfl⟩
  have k0 := kf
  unfold f_X8_kindAt at k0
  refine go_aload_n (pc := 0) rfl dX8_kindAt_0 ?_
  refine gi_getF (pc := 1) (q := 77) hv fL_X8_29 rfl (Nat.le_of_ble_eq_true rfl) rfl (hv.rf (by decide)) dX8_kindAt_1 ?_
  refine go_aload_n (pc := 4) rfl dX8_kindAt_4 ?_
  refine go_iload_n (pc := 5) rfl dX8_kindAt_5 ?_
  refine go_invV (pc := 6) (sl := 0) (s_X8_item_f l (d + 0) hv a2 (by rw [show (a2 : Int32).toInt = a2.toInt from (ti_rfl a2)]; omega) (by rw [show (a2 : Int32).toInt = a2.toInt from (ti_rfl a2)]; omega)) mL_X8_268 iM_X8_item sM_X8_item (hv.sh rfl) rfl rfl rfl (Nat.le_of_ble_eq_true rfl) (show d + 0 + 1 + 1 ≤ d + 2 by omega) (show 8 + (2 + 11) + 40 * (d + 0 + 1) ≤ 40 * (d + 2) by omega) (g_c0 hv.ln) (Nat.le_of_ble_eq_true rfl) dX8_kindAt_6 ?_
  intro r h1 hq _
  obtain ⟨v4, rfl, v4l, v4u, rfl, f2, f3⟩ := hq
  replace f3 : PE _ _ := f3
  have k5 := bd_e k0 f3.symm
  refine gi_iald (pc := 9) (lo := 0) (hi := 6) (len := 260) hv (ti_rfl v4) rfl (by omega) (by omega) (fun _ => rfl) dX8_kindAt_9 (fun v6 v6l v6u v6w => ?_)
  have k7 := bd_e k5 (congrArg Int32.toInt v6w.symm)
  exact gi_iret (pc := 10) (ti_rfl v6) ⟨_, rfl, (by rw [show (v6 : Int32).toInt = v6.toInt from (ti_rfl v6)]; omega), (by rw [show (v6 : Int32).toInt = v6.toInt from (ti_rfl v6)]; omega), rfl, (by show v6.toInt = g_kd h a2.toInt; unfold g_kd; rw [v6w, f2]), (k7.symm.trans kf)⟩ hv dX8_kindAt_10
def f_X8_isStatement_x (s : ST) (a2 : Int) : Int :=
  bd (s.1 70 30) fun v1 => if v1 = 0 then (0) else (bd (s.1 70 29) fun v6 => bd (s.1 75 (v6).toNat) fun v8 => bd (f_X8_isIn s a2 0 ((v8 - 1))) fun v16 => if v16 = 0 then (0) else (1))
set_option maxHeartbeats 4000000 in
set_option maxRecDepth 100000 in
theorem s_X8_isStatement_x_f (l : Launch) (d : Nat) {P : PP} {h : HP} (hv : Iv P h) (a2 : Int32) : Mt l yX8_isStatement cX8_isStatement 2 (some .boolean) (d + 2) [.ref 70, .int a2] h 0 0 (fun r h' => ∃ v : Int32, r = some (.int v) ∧ 0 ≤ v.toInt ∧ v.toInt ≤ 1 ∧ h = h' ∧ (v.toInt = 1 → 0 ≤ a2.toInt ∧ a2.toInt ≤ 39) ∧ (v.toInt = 1 → (h.2.1 70 30).toInt = 1 ∧ a2.toInt < V h.2.1 75 (h.2.1 70 29).toInt) ∧ (v.toInt = f_X8_isStatement_x (st h) a2.toInt)) := by
  refine Mt_iv hv (by decide) (Nat.le_of_ble_eq_true rfl) ?_
  show Go l RX8 cX8_isStatement 2 (g_rm (d + 2) 0 0) "isStatement" (some .boolean) 117 0 0 (fun _ _ => True) (fun r h' => ∃ v : Int32, r = some (.int v) ∧ 0 ≤ v.toInt ∧ v.toInt ≤ 1 ∧ h = h' ∧ (v.toInt = 1 → 0 ≤ a2.toInt ∧ a2.toInt ≤ 39) ∧ (v.toInt = 1 → (h.2.1 70 30).toInt = 1 ∧ a2.toInt < V h.2.1 75 (h.2.1 70 29).toInt) ∧ (v.toInt = f_X8_isStatement_x (st h) a2.toInt)) 0 0 [(0, .ref 70), (1, .int a2)] [] h
  obtain ⟨fin, kf⟩ : ∃ z, z = f_X8_isStatement_x (st h) a2.toInt := ⟨_, _root_.rfl⟩
  have k0 := kf
  unfold f_X8_isStatement_x at k0
  refine go_aload_n (pc := 0) rfl dX8_isStatement_0 ?_
  refine gi_get (pc := 1) (lo := 0) (hi := 1) hv fL_X8_243 rfl (Nat.le_of_ble_eq_true rfl) rfl rfl dX8_isStatement_1 (fun v1 v1l v1u v1w => ?_)
  have k2 := bd_e k0 (congrArg Int32.toInt v1w.symm)
  refine gf_if_eq (pc := 4) (tgt := 30) (ti_rfl v1) (by decide) dX8_isStatement_4 (fun q3 => ?_) (fun q3 => ?_)
  ·
    have k4 := if_t k2 q3
    refine go_iconst (pc := 30) (v := 0) (by decide) dX8_isStatement_30 ?_
    exact gi_zret (pc := 31) (ti_c (v := 0) (a := 0) (by decide)) (by omega) (by omega) ⟨_, rfl, (by rw [show (0 : Int32).toInt = 0 from (ti_c (v := 0) (a := 0) (by decide))]; omega), (by rw [show (0 : Int32).toInt = 0 from (ti_c (v := 0) (a := 0) (by decide))]; omega), rfl, (by rw [show (0 : Int32).toInt = 0 from (ti_c (v := 0) (a := 0) (by decide))]; omega), (fun q => absurd q (by decide)), (by rw [show (0 : Int32).toInt = 0 from (ti_c (v := 0) (a := 0) (by decide))]; exact k4.symm.trans kf)⟩ hv dX8_isStatement_31
  ·
    have k5 := if_f k2 q3
    refine go_iload_n (pc := 7) rfl dX8_isStatement_7 ?_
    refine go_iconst (pc := 8) (v := 0) (by decide) dX8_isStatement_8 ?_
    refine go_aload_n (pc := 9) rfl dX8_isStatement_9 ?_
    refine gi_getF (pc := 10) (q := 75) hv fL_X8_23 rfl (Nat.le_of_ble_eq_true rfl) rfl (hv.rf (by decide)) dX8_isStatement_10 ?_
    refine go_aload_n (pc := 13) rfl dX8_isStatement_13 ?_
    refine gi_get (pc := 14) (lo := 0) (hi := 1) hv fL_X8_228 rfl (Nat.le_of_ble_eq_true rfl) rfl rfl dX8_isStatement_14 (fun v6 v6l v6u v6w => ?_)
    have k7 := bd_e k5 (congrArg Int32.toInt v6w.symm)
    refine gi_iald (pc := 17) (lo := 0) (hi := 40) (len := 2) hv (ti_rfl v6) rfl (by omega) (by omega) (fun _ => rfl) dX8_isStatement_17 (fun v8 v8l v8u v8w => ?_)
    have k9 := bd_e k7 (congrArg Int32.toInt v8w.symm)
    refine go_iconst (pc := 18) (v := 1) (by decide) dX8_isStatement_18 ?_
    refine gf_isub (pc := 19) (ti_rfl v8) (ti_c (v := 1) (a := 1) (by decide)) (by omega) (by omega) dX8_isStatement_19 (fun v10 e11 => ?_)
    refine go_invS (pc := 20) (sl := 0) (s_X8_isIn_f l (d + 0) hv a2 0 v10) mL_X8_159 iM_X8_isIn rfl rfl (Nat.le_of_ble_eq_true rfl) (show d + 0 + 1 + 1 ≤ d + 2 by omega) (show 8 + (3 + 11) + 40 * (d + 0 + 1) ≤ 40 * (d + 2) by omega) (g_c0 hv.ln) (Nat.le_of_ble_eq_true rfl) dX8_isStatement_20 ?_
    intro r h12 hq _
    obtain ⟨v16, rfl, v16l, v16u, rfl, f13, f14, f15⟩ := hq
    try rw [show (0 : Int32).toInt = 0 from (ti_c (v := 0) (a := 0) (by decide))] at f13
    try rw [show (v10 : Int32).toInt = (v8.toInt - 1) from e11] at f13
    try rw [show (0 : Int32).toInt = 0 from (ti_c (v := 0) (a := 0) (by decide))] at f14
    try rw [show (v10 : Int32).toInt = (v8.toInt - 1) from e11] at f14
    try rw [show (0 : Int32).toInt = 0 from (ti_c (v := 0) (a := 0) (by decide))] at f15
    try rw [show (v10 : Int32).toInt = (v8.toInt - 1) from e11] at f15
    replace f15 : PE _ _ := f15
    have k17 := bd_e k9 f15.symm
    refine gf_if_eq (pc := 23) (tgt := 30) (ti_rfl v16) (by decide) dX8_isStatement_23 (fun q18 => ?_) (fun q18 => ?_)
    ·
      have k19 := if_t k17 q18
      refine go_iconst (pc := 30) (v := 0) (by decide) dX8_isStatement_30 ?_
      exact gi_zret (pc := 31) (ti_c (v := 0) (a := 0) (by decide)) (by omega) (by omega) ⟨_, rfl, (by rw [show (0 : Int32).toInt = 0 from (ti_c (v := 0) (a := 0) (by decide))]; omega), (by rw [show (0 : Int32).toInt = 0 from (ti_c (v := 0) (a := 0) (by decide))]; omega), rfl, (by rw [show (0 : Int32).toInt = 0 from (ti_c (v := 0) (a := 0) (by decide))]; omega), (fun q => absurd q (by decide)), (by rw [show (0 : Int32).toInt = 0 from (ti_c (v := 0) (a := 0) (by decide))]; exact k19.symm.trans kf)⟩ hv dX8_isStatement_31
    ·
      have k20 := if_f k17 q18
      refine go_iconst (pc := 26) (v := 1) (by decide) dX8_isStatement_26 ?_
      refine go_goto (pc := 27) (tgt := 31) (by decide) dX8_isStatement_27 ?_
      exact gi_zret (pc := 31) (ti_c (v := 1) (a := 1) (by decide)) (by omega) (by omega) ⟨_, rfl, (by rw [show (1 : Int32).toInt = 1 from (ti_c (v := 1) (a := 1) (by decide))]; omega), (by rw [show (1 : Int32).toInt = 1 from (ti_c (v := 1) (a := 1) (by decide))]; omega), rfl, (by rw [show (1 : Int32).toInt = 1 from (ti_c (v := 1) (a := 1) (by decide))]; omega), (fun _ => ⟨by rw [← v1w]; omega, by rw [← v6w]; show _ < (h.2.1 75 (v6.toInt).toNat).toInt; rw [← v8w]; omega⟩), (by rw [show (1 : Int32).toInt = 1 from (ti_c (v := 1) (a := 1) (by decide))]; exact k20.symm.trans kf)⟩ hv dX8_isStatement_31
def f_X8_isThrowing_x (s : ST) (a2 : Int) : Int :=
  bd (f_X8_kindAt s a2) fun v4 => if ¬ v4 = 1 then (0) else (bd (s.1 70 6) fun v9 => bd (f_X8_item s a2) fun v16 => bd (s.1 84 (v16).toNat) fun v18 => bd (s.1 102 (((5 * v9) + v18)).toNat) fun v22 => if v22 = 0 then (0) else (1))
set_option maxHeartbeats 4000000 in
set_option maxRecDepth 100000 in
theorem s_X8_isThrowing_x_f (l : Launch) (d : Nat) {P : PP} {h : HP} (hv : Iv P h) (a2 : Int32) (a2l : 0 ≤ a2.toInt) (a2u : a2.toInt ≤ 39) (ckf : CKF h.2.1) : Mt l yX8_isThrowing cX8_isThrowing 2 (some .boolean) (d + 3) [.ref 70, .int a2] h 0 0 (fun r h' => ∃ v : Int32, r = some (.int v) ∧ 0 ≤ v.toInt ∧ v.toInt ≤ 1 ∧ h = h' ∧ ((v.toInt = 1 → V h.2.1 77 (V h.2.1 93 (40 * (h.2.1 70 6).toInt + a2.toInt)) = 1 ∧ V h.2.1 102 (5 * (h.2.1 70 6).toInt + V h.2.1 84 (V h.2.1 93 (40 * (h.2.1 70 6).toInt + a2.toInt))) = 1) ∧ (v.toInt = 0 → ¬ (V h.2.1 77 (V h.2.1 93 (40 * (h.2.1 70 6).toInt + a2.toInt)) = 1 ∧ V h.2.1 102 (5 * (h.2.1 70 6).toInt + V h.2.1 84 (V h.2.1 93 (40 * (h.2.1 70 6).toInt + a2.toInt))) = 1))) ∧ (v.toInt = f_X8_isThrowing_x (st h) a2.toInt)) := by
  refine Mt_iv hv (by decide) (Nat.le_of_ble_eq_true rfl) ?_
  show Go l RX8 cX8_isThrowing 2 (g_rm (d + 3) 0 0) "isThrowing" (some .boolean) 117 0 0 (fun _ _ => True) (fun r h' => ∃ v : Int32, r = some (.int v) ∧ 0 ≤ v.toInt ∧ v.toInt ≤ 1 ∧ h = h' ∧ ((v.toInt = 1 → V h.2.1 77 (V h.2.1 93 (40 * (h.2.1 70 6).toInt + a2.toInt)) = 1 ∧ V h.2.1 102 (5 * (h.2.1 70 6).toInt + V h.2.1 84 (V h.2.1 93 (40 * (h.2.1 70 6).toInt + a2.toInt))) = 1) ∧ (v.toInt = 0 → ¬ (V h.2.1 77 (V h.2.1 93 (40 * (h.2.1 70 6).toInt + a2.toInt)) = 1 ∧ V h.2.1 102 (5 * (h.2.1 70 6).toInt + V h.2.1 84 (V h.2.1 93 (40 * (h.2.1 70 6).toInt + a2.toInt))) = 1))) ∧ (v.toInt = f_X8_isThrowing_x (st h) a2.toInt)) 0 0 [(0, .ref 70), (1, .int a2)] [] h
  obtain ⟨S, hS⟩ : ∃ S : Int, S = (h.2.1 70 6).toInt := ⟨_, rfl⟩
  have S0 : 0 ≤ S := by rw [hS]; exact (hv.2.1 70 6).1
  have S1 : S ≤ 1 := by rw [hS]; exact (hv.2.1 70 6).2
  obtain ⟨fin, kf⟩ : ∃ z, z = f_X8_isThrowing_x (st h) a2.toInt := ⟨_, _root_.rfl⟩
  have k0 := kf
  unfold f_X8_isThrowing_x at k0
  refine go_aload_n (pc := 0) rfl dX8_isThrowing_0 ?_
  refine go_iload_n (pc := 1) rfl dX8_isThrowing_1 ?_
  refine go_invV (pc := 2) (sl := 0) (s_X8_kindAt_f l (d + 0) hv a2 (by rw [show (a2 : Int32).toInt = a2.toInt from (ti_rfl a2)]; omega) (by rw [show (a2 : Int32).toInt = a2.toInt from (ti_rfl a2)]; omega)) mL_X8_271 iM_X8_kindAt sM_X8_kindAt (hv.sh rfl) rfl rfl rfl (Nat.le_of_ble_eq_true rfl) (show d + 0 + 2 + 1 ≤ d + 3 by omega) (show 8 + (2 + 11) + 40 * (d + 0 + 2) ≤ 40 * (d + 3) by omega) (g_c0 hv.ln) (Nat.le_of_ble_eq_true rfl) dX8_isThrowing_2 ?_
  intro r h1 hq _
  obtain ⟨v4, rfl, v4l, v4u, rfl, f2, f3⟩ := hq
  have v4K : v4.toInt = V h.2.1 77 (V h.2.1 93 (40 * S + a2.toInt)) := by rw [f2]; unfold g_kd g_it; rw [← hS]; rfl
  replace f3 : PE _ _ := f3
  have k5 := bd_e k0 f3.symm
  refine go_iconst (pc := 5) (v := 1) (by decide) dX8_isThrowing_5 ?_
  refine gf_icmp_ne (pc := 6) (tgt := 38) (ti_rfl v4) (ti_c (v := 1) (a := 1) (by decide)) (by decide) dX8_isThrowing_6 (fun q6 => ?_) (fun q6 => ?_)
  ·
    have k7 := if_t k5 q6
    refine go_iconst (pc := 38) (v := 0) (by decide) dX8_isThrowing_38 ?_
    exact gi_zret (pc := 39) (ti_c (v := 0) (a := 0) (by decide)) (by omega) (by omega) ⟨_, rfl, (by rw [show (0 : Int32).toInt = 0 from (ti_c (v := 0) (a := 0) (by decide))]; omega), (by rw [show (0 : Int32).toInt = 0 from (ti_c (v := 0) (a := 0) (by decide))]; omega), rfl, (by rw [← hS]; exact ⟨fun q => absurd q (by decide), fun _ q => by omega⟩), (by rw [show (0 : Int32).toInt = 0 from (ti_c (v := 0) (a := 0) (by decide))]; exact k7.symm.trans kf)⟩ hv dX8_isThrowing_39
  ·
    have k8 := if_f k5 (fun z => z q6)
    refine go_aload_n (pc := 9) rfl dX8_isThrowing_9 ?_
    refine gi_getF (pc := 10) (q := 102) hv fL_X8_105 rfl (Nat.le_of_ble_eq_true rfl) rfl (hv.rf (by decide)) dX8_isThrowing_10 ?_
    refine go_iconst (pc := 13) (v := 5) (by decide) dX8_isThrowing_13 ?_
    refine go_aload_n (pc := 14) rfl dX8_isThrowing_14 ?_
    refine gi_get (pc := 15) (lo := 0) (hi := 1) hv fL_X8_187 rfl (Nat.le_of_ble_eq_true rfl) rfl rfl dX8_isThrowing_15 (fun v9 v9l v9u v9w => ?_)
    have k10 := bd_e k8 (congrArg Int32.toInt v9w.symm)
    have v9S : v9.toInt = S := by rw [v9w, hv.fy (j := 6) (by omega), ← hv.fy (j := 6) (by omega)]; exact hS.symm
    refine gf_imul (pc := 18) (ti_c (v := 5) (a := 5) (by decide)) (ti_rfl v9) (by omega) (by omega) dX8_isThrowing_18 (fun v11 e12 => ?_)
    refine go_aload_n (pc := 19) rfl dX8_isThrowing_19 ?_
    refine gi_getF (pc := 20) (q := 84) hv fL_X8_50 rfl (Nat.le_of_ble_eq_true rfl) rfl (hv.rf (by decide)) dX8_isThrowing_20 ?_
    refine go_aload_n (pc := 23) rfl dX8_isThrowing_23 ?_
    refine go_iload_n (pc := 24) rfl dX8_isThrowing_24 ?_
    refine go_invV (pc := 25) (sl := 0) (s_X8_item_f l (d + 1) hv a2 (by rw [show (a2 : Int32).toInt = a2.toInt from (ti_rfl a2)]; omega) (by rw [show (a2 : Int32).toInt = a2.toInt from (ti_rfl a2)]; omega)) mL_X8_268 iM_X8_item sM_X8_item (hv.sh rfl) rfl rfl rfl (Nat.le_of_ble_eq_true rfl) (show d + 1 + 1 + 1 ≤ d + 3 by omega) (show 8 + (2 + 11) + 40 * (d + 1 + 1) ≤ 40 * (d + 3) by omega) (g_c0 hv.ln) (Nat.le_of_ble_eq_true rfl) dX8_isThrowing_25 ?_
    intro r h13 hq _
    obtain ⟨v16, rfl, v16l, v16u, rfl, f14, f15⟩ := hq
    have v16K : v16.toInt = V h.2.1 93 (40 * S + a2.toInt) := by rw [f14]; unfold g_it; rw [← hS]; rfl
    replace f15 : PE _ _ := f15
    have k17 := bd_e k10 f15.symm
    refine gi_iald (pc := 28) (lo := -2) (hi := 4) (len := 260) hv (ti_rfl v16) rfl (by omega) (by omega) (fun _ => rfl) dX8_isThrowing_28 (fun v18 v18l v18u v18w => ?_)
    have k19 := bd_e k17 (congrArg Int32.toInt v18w.symm)
    have v18V : v18.toInt = V h.2.1 84 v16.toInt := by rw [v18w]; rfl
    have kk : 0 ≤ v18.toInt := by
      rw [v18w]
      refine ckf _ ?_
      have e : v4.toInt = V h.2.1 77 (V h.2.1 93 (40 * S + a2.toInt)) := v4K
      rw [← v16K] at e
      exact (show V h.2.1 77 v16.toInt = 1 by omega)
    refine gf_iadd (pc := 29) e12 (ti_rfl v18) (by omega) (by omega) dX8_isThrowing_29 (fun v20 e21 => ?_)
    refine gi_zald (pc := 30) (lo := 0) (hi := 1) (len := 10) hv e21 rfl (by omega) (by omega) (fun _ => rfl) dX8_isThrowing_30 (fun v22 v22l v22u v22w => ?_)
    have k23 := bd_e k19 (congrArg Int32.toInt v22w.symm)
    have v22V : v22.toInt = V h.2.1 102 (((5 * S) + v18.toInt)) := by rw [v22w, v9S]; rfl
    refine gf_if_eq (pc := 31) (tgt := 38) (ti_rfl v22) (by decide) dX8_isThrowing_31 (fun q24 => ?_) (fun q24 => ?_)
    ·
      have k25 := if_t k23 q24
      refine go_iconst (pc := 38) (v := 0) (by decide) dX8_isThrowing_38 ?_
      exact gi_zret (pc := 39) (ti_c (v := 0) (a := 0) (by decide)) (by omega) (by omega) ⟨_, rfl, (by rw [show (0 : Int32).toInt = 0 from (ti_c (v := 0) (a := 0) (by decide))]; omega), (by rw [show (0 : Int32).toInt = 0 from (ti_c (v := 0) (a := 0) (by decide))]; omega), rfl, (by rw [← hS]; have kq := v4K; rw [← v16K] at kq ⊢; rw [← v18V]; exact ⟨fun q => absurd q (by decide), fun _ q => by omega⟩), (by rw [show (0 : Int32).toInt = 0 from (ti_c (v := 0) (a := 0) (by decide))]; exact k25.symm.trans kf)⟩ hv dX8_isThrowing_39
    ·
      have k26 := if_f k23 q24
      refine go_iconst (pc := 34) (v := 1) (by decide) dX8_isThrowing_34 ?_
      refine go_goto (pc := 35) (tgt := 39) (by decide) dX8_isThrowing_35 ?_
      exact gi_zret (pc := 39) (ti_c (v := 1) (a := 1) (by decide)) (by omega) (by omega) ⟨_, rfl, (by rw [show (1 : Int32).toInt = 1 from (ti_c (v := 1) (a := 1) (by decide))]; omega), (by rw [show (1 : Int32).toInt = 1 from (ti_c (v := 1) (a := 1) (by decide))]; omega), rfl, (by rw [← hS]; have kq := v4K; rw [← v16K] at kq ⊢; rw [← v18V]; exact ⟨fun _ => by omega, fun q => absurd q (by decide)⟩), (by rw [show (1 : Int32).toInt = 1 from (ti_c (v := 1) (a := 1) (by decide))]; exact k26.symm.trans kf)⟩ hv dX8_isThrowing_39
def f_X8_decides_x (s : ST) (a2 : Int) : Int :=
  bd (f_X8_kindAt s a2) fun v4 => if v4 = 2 then (1) else (if v4 = 3 then (1) else (if v4 = 5 then (1) else (if v4 = 4 then (1) else (bd (f_X8_isThrowing_x s a2) fun v22 => if v22 = 0 then (0) else (1)))))
set_option maxHeartbeats 4000000 in
set_option maxRecDepth 100000 in
theorem s_X8_decides_x_f (l : Launch) (d : Nat) {P : PP} {h : HP} (hv : Iv P h) (a2 : Int32) (a2l : 0 ≤ a2.toInt) (a2u : a2.toInt ≤ 39) (ckf : CKF h.2.1) : Mt l yX8_decides cX8_decides 3 (some .boolean) (d + 4) [.ref 70, .int a2] h 0 0 (fun r h' => ∃ v : Int32, r = some (.int v) ∧ 0 ≤ v.toInt ∧ v.toInt ≤ 1 ∧ h = h' ∧ (v.toInt = 1 → V h.2.1 77 (V h.2.1 93 (40 * (h.2.1 70 6).toInt + a2.toInt)) = 2 ∨ V h.2.1 77 (V h.2.1 93 (40 * (h.2.1 70 6).toInt + a2.toInt)) = 3 ∨ V h.2.1 77 (V h.2.1 93 (40 * (h.2.1 70 6).toInt + a2.toInt)) = 4 ∨ V h.2.1 77 (V h.2.1 93 (40 * (h.2.1 70 6).toInt + a2.toInt)) = 5 ∨ (V h.2.1 77 (V h.2.1 93 (40 * (h.2.1 70 6).toInt + a2.toInt)) = 1 ∧ V h.2.1 102 (5 * (h.2.1 70 6).toInt + V h.2.1 84 (V h.2.1 93 (40 * (h.2.1 70 6).toInt + a2.toInt))) = 1)) ∧ (v.toInt = f_X8_decides_x (st h) a2.toInt)) := by
  refine Mt_iv hv (by decide) (Nat.le_of_ble_eq_true rfl) ?_
  show Go l RX8 cX8_decides 3 (g_rm (d + 4) 0 0) "decides" (some .boolean) 117 0 0 (fun _ _ => True) (fun r h' => ∃ v : Int32, r = some (.int v) ∧ 0 ≤ v.toInt ∧ v.toInt ≤ 1 ∧ h = h' ∧ (v.toInt = 1 → V h.2.1 77 (V h.2.1 93 (40 * (h.2.1 70 6).toInt + a2.toInt)) = 2 ∨ V h.2.1 77 (V h.2.1 93 (40 * (h.2.1 70 6).toInt + a2.toInt)) = 3 ∨ V h.2.1 77 (V h.2.1 93 (40 * (h.2.1 70 6).toInt + a2.toInt)) = 4 ∨ V h.2.1 77 (V h.2.1 93 (40 * (h.2.1 70 6).toInt + a2.toInt)) = 5 ∨ (V h.2.1 77 (V h.2.1 93 (40 * (h.2.1 70 6).toInt + a2.toInt)) = 1 ∧ V h.2.1 102 (5 * (h.2.1 70 6).toInt + V h.2.1 84 (V h.2.1 93 (40 * (h.2.1 70 6).toInt + a2.toInt))) = 1)) ∧ (v.toInt = f_X8_decides_x (st h) a2.toInt)) 0 0 [(0, .ref 70), (1, .int a2)] [] h
  obtain ⟨S, hS⟩ : ∃ S : Int, S = (h.2.1 70 6).toInt := ⟨_, rfl⟩
  have S0 : 0 ≤ S := by rw [hS]; exact (hv.2.1 70 6).1
  have S1 : S ≤ 1 := by rw [hS]; exact (hv.2.1 70 6).2
  obtain ⟨fin, kf⟩ : ∃ z, z = f_X8_decides_x (st h) a2.toInt := ⟨_, _root_.rfl⟩
  have k0 := kf
  unfold f_X8_decides_x at k0
  refine go_aload_n (pc := 0) rfl dX8_decides_0 ?_
  refine go_iload_n (pc := 1) rfl dX8_decides_1 ?_
  refine go_invV (pc := 2) (sl := 0) (s_X8_kindAt_f l (d + 1) hv a2 (by rw [show (a2 : Int32).toInt = a2.toInt from (ti_rfl a2)]; omega) (by rw [show (a2 : Int32).toInt = a2.toInt from (ti_rfl a2)]; omega)) mL_X8_271 iM_X8_kindAt sM_X8_kindAt (hv.sh rfl) rfl rfl rfl (Nat.le_of_ble_eq_true rfl) (show d + 1 + 2 + 1 ≤ d + 4 by omega) (show 8 + (2 + 11) + 40 * (d + 1 + 2) ≤ 40 * (d + 4) by omega) (g_c0 hv.ln) (Nat.le_of_ble_eq_true rfl) dX8_decides_2 ?_
  intro r h1 hq _
  obtain ⟨v4, rfl, v4l, v4u, rfl, f2, f3⟩ := hq
  have v4K : v4.toInt = V h.2.1 77 (V h.2.1 93 (40 * S + a2.toInt)) := by rw [f2]; unfold g_kd g_it; rw [← hS]; rfl
  replace f3 : PE _ _ := f3
  have k5 := bd_e k0 f3.symm
  refine go_istore_n (pc := 5) (Nat.le_of_ble_eq_true rfl) dX8_decides_5 (go_lv (lv2 := [(0, .ref 70), (1, .int a2), (2, .int v4)]) rfl ?_)
  refine go_iload_n (pc := 6) rfl dX8_decides_6 ?_
  refine go_iconst (pc := 7) (v := 2) (by decide) dX8_decides_7 ?_
  refine gf_icmp_eq (pc := 8) (tgt := 34) (ti_rfl v4) (ti_c (v := 2) (a := 2) (by decide)) (by decide) dX8_decides_8 (fun q6 => ?_) (fun q6 => ?_)
  ·
    have k7 := if_t k5 q6
    refine go_iconst (pc := 34) (v := 1) (by decide) dX8_decides_34 ?_
    refine go_goto (pc := 35) (tgt := 39) (by decide) dX8_decides_35 ?_
    exact gi_zret (pc := 39) (ti_c (v := 1) (a := 1) (by decide)) (by omega) (by omega) ⟨_, rfl, (by rw [show (1 : Int32).toInt = 1 from (ti_c (v := 1) (a := 1) (by decide))]; omega), (by rw [show (1 : Int32).toInt = 1 from (ti_c (v := 1) (a := 1) (by decide))]; omega), rfl, (by rw [← hS]; exact fun _ => by omega), (by rw [show (1 : Int32).toInt = 1 from (ti_c (v := 1) (a := 1) (by decide))]; exact k7.symm.trans kf)⟩ hv dX8_decides_39
  ·
    have k8 := if_f k5 q6
    refine go_iload_n (pc := 11) rfl dX8_decides_11 ?_
    refine go_iconst (pc := 12) (v := 3) (by decide) dX8_decides_12 ?_
    refine gf_icmp_eq (pc := 13) (tgt := 34) (ti_rfl v4) (ti_c (v := 3) (a := 3) (by decide)) (by decide) dX8_decides_13 (fun q9 => ?_) (fun q9 => ?_)
    ·
      have k10 := if_t k8 q9
      refine go_iconst (pc := 34) (v := 1) (by decide) dX8_decides_34 ?_
      refine go_goto (pc := 35) (tgt := 39) (by decide) dX8_decides_35 ?_
      exact gi_zret (pc := 39) (ti_c (v := 1) (a := 1) (by decide)) (by omega) (by omega) ⟨_, rfl, (by rw [show (1 : Int32).toInt = 1 from (ti_c (v := 1) (a := 1) (by decide))]; omega), (by rw [show (1 : Int32).toInt = 1 from (ti_c (v := 1) (a := 1) (by decide))]; omega), rfl, (by rw [← hS]; exact fun _ => by omega), (by rw [show (1 : Int32).toInt = 1 from (ti_c (v := 1) (a := 1) (by decide))]; exact k10.symm.trans kf)⟩ hv dX8_decides_39
    ·
      have k11 := if_f k8 q9
      refine go_iload_n (pc := 16) rfl dX8_decides_16 ?_
      refine go_iconst (pc := 17) (v := 5) (by decide) dX8_decides_17 ?_
      refine gf_icmp_eq (pc := 18) (tgt := 34) (ti_rfl v4) (ti_c (v := 5) (a := 5) (by decide)) (by decide) dX8_decides_18 (fun q12 => ?_) (fun q12 => ?_)
      ·
        have k13 := if_t k11 q12
        refine go_iconst (pc := 34) (v := 1) (by decide) dX8_decides_34 ?_
        refine go_goto (pc := 35) (tgt := 39) (by decide) dX8_decides_35 ?_
        exact gi_zret (pc := 39) (ti_c (v := 1) (a := 1) (by decide)) (by omega) (by omega) ⟨_, rfl, (by rw [show (1 : Int32).toInt = 1 from (ti_c (v := 1) (a := 1) (by decide))]; omega), (by rw [show (1 : Int32).toInt = 1 from (ti_c (v := 1) (a := 1) (by decide))]; omega), rfl, (by rw [← hS]; exact fun _ => by omega), (by rw [show (1 : Int32).toInt = 1 from (ti_c (v := 1) (a := 1) (by decide))]; exact k13.symm.trans kf)⟩ hv dX8_decides_39
      ·
        have k14 := if_f k11 q12
        refine go_iload_n (pc := 21) rfl dX8_decides_21 ?_
        refine go_iconst (pc := 22) (v := 4) (by decide) dX8_decides_22 ?_
        refine gf_icmp_eq (pc := 23) (tgt := 34) (ti_rfl v4) (ti_c (v := 4) (a := 4) (by decide)) (by decide) dX8_decides_23 (fun q15 => ?_) (fun q15 => ?_)
        ·
          have k16 := if_t k14 q15
          refine go_iconst (pc := 34) (v := 1) (by decide) dX8_decides_34 ?_
          refine go_goto (pc := 35) (tgt := 39) (by decide) dX8_decides_35 ?_
          exact gi_zret (pc := 39) (ti_c (v := 1) (a := 1) (by decide)) (by omega) (by omega) ⟨_, rfl, (by rw [show (1 : Int32).toInt = 1 from (ti_c (v := 1) (a := 1) (by decide))]; omega), (by rw [show (1 : Int32).toInt = 1 from (ti_c (v := 1) (a := 1) (by decide))]; omega), rfl, (by rw [← hS]; exact fun _ => by omega), (by rw [show (1 : Int32).toInt = 1 from (ti_c (v := 1) (a := 1) (by decide))]; exact k16.symm.trans kf)⟩ hv dX8_decides_39
        ·
          have k17 := if_f k14 q15
          refine go_aload_n (pc := 26) rfl dX8_decides_26 ?_
          refine go_iload_n (pc := 27) rfl dX8_decides_27 ?_
          have sM18 : (h.2.1 70 6).toInt = S := by rw [hv.fy (j := 6) (by omega), ← hv.fy (j := 6) (by omega)]; exact hS.symm
          refine go_invV (pc := 28) (sl := 0) (s_X8_isThrowing_x_f l (d + 0) hv a2 (by rw [show (a2 : Int32).toInt = a2.toInt from (ti_rfl a2)]; omega) (by rw [show (a2 : Int32).toInt = a2.toInt from (ti_rfl a2)]; omega) ckf) mL_X8_277 iM_X8_isThrowing sM_X8_isThrowing (hv.sh rfl) rfl rfl rfl (Nat.le_of_ble_eq_true rfl) (show d + 0 + 3 + 1 ≤ d + 4 by omega) (show 8 + (2 + 11) + 40 * (d + 0 + 3) ≤ 40 * (d + 4) by omega) (g_c0 hv.ln) (Nat.le_of_ble_eq_true rfl) dX8_decides_28 ?_
          intro r h19 hq _
          obtain ⟨v22, rfl, v22l, v22u, rfl, f20, f21⟩ := hq
          rw [sM18] at f20
          replace f21 : PE _ _ := f21
          have k23 := bd_e k17 f21.symm
          refine gf_if_eq (pc := 31) (tgt := 38) (ti_rfl v22) (by decide) dX8_decides_31 (fun q24 => ?_) (fun q24 => ?_)
          ·
            have k25 := if_t k23 q24
            refine go_iconst (pc := 38) (v := 0) (by decide) dX8_decides_38 ?_
            exact gi_zret (pc := 39) (ti_c (v := 0) (a := 0) (by decide)) (by omega) (by omega) ⟨_, rfl, (by rw [show (0 : Int32).toInt = 0 from (ti_c (v := 0) (a := 0) (by decide))]; omega), (by rw [show (0 : Int32).toInt = 0 from (ti_c (v := 0) (a := 0) (by decide))]; omega), rfl, (fun q => absurd q (by decide)), (by rw [show (0 : Int32).toInt = 0 from (ti_c (v := 0) (a := 0) (by decide))]; exact k25.symm.trans kf)⟩ hv dX8_decides_39
          ·
            have k26 := if_f k23 q24
            refine go_iconst (pc := 34) (v := 1) (by decide) dX8_decides_34 ?_
            refine go_goto (pc := 35) (tgt := 39) (by decide) dX8_decides_35 ?_
            exact gi_zret (pc := 39) (ti_c (v := 1) (a := 1) (by decide)) (by omega) (by omega) ⟨_, rfl, (by rw [show (1 : Int32).toInt = 1 from (ti_c (v := 1) (a := 1) (by decide))]; omega), (by rw [show (1 : Int32).toInt = 1 from (ti_c (v := 1) (a := 1) (by decide))]; omega), rfl, (by rw [← hS]; exact fun _ => by omega), (by rw [show (1 : Int32).toInt = 1 from (ti_c (v := 1) (a := 1) (by decide))]; exact k26.symm.trans kf)⟩ hv dX8_decides_39
def f_X8_catcher_ : Nat → Nat → Int → Int → Int → ST → Int
  | 0, _, _, _, _, _ => 0
  | n + 1, _, l2, l3, l4, s => bd (s.1 92 (l4).toNat) fun v1 => if v1 = (-1) then ((-2)) else (bd (s.1 86 (l2).toNat) fun v6 => if ¬ l4 = v6 then (bd (s.1 92 (l4).toNat) fun v10 => bd (s.1 88 (v10).toNat) fun v12 => f_X8_catcher_ n 49 l2 l3 v12 s) else (l3))
def f_X8_catcher (s : ST) (a2 : Int) : Int :=
  bd (f_X8_item s a2) fun v18 => bd (f_X8_tryOf s v18) fun v25 => if ¬ v25 = (-1) then (bd (s.1 86 (v25).toNat) fun v29 => bd (f_X8_firstOf s v29) fun v35 => if ¬ v35 = (-1) then (bd (f_X8_item s v35) fun v42 => bd (s.1 88 (v42).toNat) fun v45 => f_X8_catcher_ 805 49 v25 v35 v45 s) else ((-2))) else ((-2))
set_option maxHeartbeats 4000000 in
set_option maxRecDepth 100000 in
theorem s_X8_catcher_f (l : Launch) (d : Nat) {P : PP} {h : HP} (hv : Iv P h) (a2 : Int32) (a2l : 0 ≤ a2.toInt) (a2u : a2.toInt ≤ 39) (ht : TR h.2.1 (h.2.1 70 6).toInt ∧ CN h.2.1 (h.2.1 70 6).toInt (130 * (h.2.1 70 6).toInt) 0) (hs : a2.toInt < V h.2.1 75 (h.2.1 70 6).toInt) : Mt l yX8_catcher cX8_catcher 5 (some .int) (d + 541) [.ref 70, .int a2] h 0 0 (fun r h' => ∃ v : Int32, r = some (.int v) ∧ -2 ≤ v.toInt ∧ v.toInt ≤ 39 ∧ h = h' ∧ (v.toInt = f_X8_catcher (st h) a2.toInt)) := by
  refine Mt_iv hv (by decide) (Nat.le_of_ble_eq_true rfl) ?_
  show Go l RX8 cX8_catcher 5 (g_rm (d + 541) 0 0) "catcher" (some .int) 117 0 0 (fun _ _ => True) (fun r h' => ∃ v : Int32, r = some (.int v) ∧ -2 ≤ v.toInt ∧ v.toInt ≤ 39 ∧ h = h' ∧ (v.toInt = f_X8_catcher (st h) a2.toInt)) 0 0 [(0, .ref 70), (1, .int a2)] [] h
  obtain ⟨S, hS⟩ : ∃ S : Int, S = (h.2.1 70 6).toInt := ⟨_, rfl⟩
  have S0 : 0 ≤ S := by rw [hS]; exact (hv.2.1 70 6).1
  have S1 : S ≤ 1 := by rw [hS]; exact (hv.2.1 70 6).2
  rw [← hS] at ht
  rw [← hS] at hs
  obtain ⟨fin, kf⟩ : ∃ z, z = f_X8_catcher (st h) a2.toInt := ⟨_, _root_.rfl⟩
  have k0 := kf
  unfold f_X8_catcher at k0
  have key : ∀ n : Nat, (∀ (l2 : Int32) (l3 : Int32) (l4 : Int32), 0 ≤ l2.toInt → l2.toInt ≤ 259 → 0 ≤ l3.toInt → l3.toInt ≤ 39 → 0 ≤ l4.toInt → l4.toInt ≤ 559 → (BB h.2.1 S l4.toInt) → (-1 ≤ V h.2.1 92 l4.toInt) → fin = f_X8_catcher_ n 49 l2.toInt l3.toInt l4.toInt (st h) → (3 * (V h.2.1 92 l4.toInt + 1) + 2 : Int) < n → Go l RX8 cX8_catcher 5 (g_rm (d + 541) 0 0) "catcher" (some .int) 117 0 0 (fun _ _ => True) (fun r h' => ∃ v : Int32, r = some (.int v) ∧ -2 ≤ v.toInt ∧ v.toInt ≤ 39 ∧ h = h' ∧ (v.toInt = f_X8_catcher (st h) a2.toInt)) 0 49 [(0, .ref 70), (2, .int l2), (3, .int l3), (4, .int l4)] [] h) := by
    intro n
    induction n with
    | zero => exact (by intros; omega)
    | succ n ih =>
      refine ?_
      ·
        intro l2 l3 l4 l2l l2u l3l l3u l4l l4u x0 x1 kL hm
        rw [f_X8_catcher_] at kL
        refine go_aload_n (pc := 49) rfl dX8_catcher_49 ?_
        refine gi_getF (pc := 50) (q := 92) hv fL_X8_74 rfl (Nat.le_of_ble_eq_true rfl) rfl (hv.rf (by decide)) dX8_catcher_50 ?_
        refine go_iload (pc := 53) rfl dX8_catcher_53 ?_
        refine gi_iald (pc := 55) (lo := -1) (hi := 259) (len := 560) hv (ti_rfl l4) rfl (by omega) (by omega) (fun _ => rfl) dX8_catcher_55 (fun v1 v1l v1u v1w => ?_)
        have k2 := bd_e kL (congrArg Int32.toInt v1w.symm)
        have v1V : v1.toInt = V h.2.1 92 l4.toInt := by rw [v1w]; rfl
        refine go_iconst (pc := 56) (v := (-1)) (by decide) dX8_catcher_56 ?_
        refine gf_icmp_eq (pc := 57) (tgt := 90) (ti_rfl v1) (ti_c (v := (-1)) (a := (-1)) (by decide)) (by decide) dX8_catcher_57 (fun q3 => ?_) (fun q3 => ?_)
        ·
          have k4 := if_t k2 q3
          refine go_bipush (pc := 90) (v := (-2)) (by decide) dX8_catcher_90 ?_
          exact gi_iret (pc := 92) (ti_c (v := (-2)) (a := (-2)) (by decide)) ⟨_, rfl, (by rw [show ((-2) : Int32).toInt = (-2) from (ti_c (v := (-2)) (a := (-2)) (by decide))]; omega), (by rw [show ((-2) : Int32).toInt = (-2) from (ti_c (v := (-2)) (a := (-2)) (by decide))]; omega), rfl, (by rw [show ((-2) : Int32).toInt = (-2) from (ti_c (v := (-2)) (a := (-2)) (by decide))]; exact k4.symm.trans kf)⟩ hv dX8_catcher_92
        ·
          have k5 := if_f k2 q3
          refine go_iload (pc := 60) rfl dX8_catcher_60 ?_
          refine go_aload_n (pc := 62) rfl dX8_catcher_62 ?_
          refine gi_getF (pc := 63) (q := 86) hv fL_X8_56 rfl (Nat.le_of_ble_eq_true rfl) rfl (hv.rf (by decide)) dX8_catcher_63 ?_
          refine go_iload_n (pc := 66) rfl dX8_catcher_66 ?_
          refine gi_iald (pc := 67) (lo := -1) (hi := 559) (len := 260) hv (ti_rfl l2) rfl (by omega) (by omega) (fun _ => rfl) dX8_catcher_67 (fun v6 v6l v6u v6w => ?_)
          have k7 := bd_e k5 (congrArg Int32.toInt v6w.symm)
          have v6V : v6.toInt = V h.2.1 86 l2.toInt := by rw [v6w]; rfl
          refine gf_icmp_ne (pc := 68) (tgt := 73) (ti_rfl l4) (ti_rfl v6) (by decide) dX8_catcher_68 (fun q8 => ?_) (fun q8 => ?_)
          ·
            have k9 := if_t k7 q8
            refine go_aload_n (pc := 73) rfl dX8_catcher_73 ?_
            refine gi_getF (pc := 74) (q := 88) hv fL_X8_62 rfl (Nat.le_of_ble_eq_true rfl) rfl (hv.rf (by decide)) dX8_catcher_74 ?_
            refine go_aload_n (pc := 77) rfl dX8_catcher_77 ?_
            refine gi_getF (pc := 78) (q := 92) hv fL_X8_74 rfl (Nat.le_of_ble_eq_true rfl) rfl (hv.rf (by decide)) dX8_catcher_78 ?_
            refine go_iload (pc := 81) rfl dX8_catcher_81 ?_
            refine gi_iald (pc := 83) (lo := -1) (hi := 259) (len := 560) hv (ti_rfl l4) rfl (by omega) (by omega) (fun _ => rfl) dX8_catcher_83 (fun v10 v10l v10u v10w => ?_)
            have k11 := bd_e k9 (congrArg Int32.toInt v10w.symm)
            have v10V : v10.toInt = V h.2.1 92 l4.toInt := by rw [v10w]; rfl
            have t5 := (ht.1.2.2.2.2.2.1 l4.toInt x0).2.2.1
            rw [← v10V] at t5
            rcases t5 with t5 | t5
            · exact False.elim (by omega)
            refine gi_iald (pc := 84) (lo := 0) (hi := 559) (len := 260) hv (ti_rfl v10) rfl (by omega) (by omega) (fun _ => rfl) dX8_catcher_84 (fun v12 v12l v12u v12w => ?_)
            have k13 := bd_e k11 (congrArg Int32.toInt v12w.symm)
            have v12V : v12.toInt = V h.2.1 88 v10.toInt := by rw [v12w]; rfl
            have t2 : T2 h.2.1 S v10.toInt := ht.1.2.2.1 v10.toInt t5
            unfold T2 at t2
            have t2b : V h.2.1 92 (V h.2.1 88 v10.toInt) < v10.toInt := by rcases t2.2 with z | z <;> omega
            rw [← v12V] at t2b
            have oc : -1 ≤ V h.2.1 92 v12.toInt := (hv.2.1 92 _).1
            refine go_istore (pc := 85) (Nat.le_of_ble_eq_true rfl) dX8_catcher_85 (go_lv (lv2 := [(0, .ref 70), (2, .int l2), (3, .int l3), (4, .int v12)]) rfl ?_)
            refine go_goto (pc := 87) (tgt := 49) (by decide) dX8_catcher_87 ?_
            exact go_lv rfl (ih l2 l3 v12  (by omega) (by omega) (by omega) (by omega) (by omega) (by omega) (by rw [v12V]; exact t2.1) (by omega) k13 (by omega))
          ·
            have k14 := if_f k7 (fun z => z q8)
            refine go_iload_n (pc := 71) rfl dX8_catcher_71 ?_
            exact gi_iret (pc := 72) (ti_rfl l3) ⟨_, rfl, (by rw [show (l3 : Int32).toInt = l3.toInt from (ti_rfl l3)]; omega), (by rw [show (l3 : Int32).toInt = l3.toInt from (ti_rfl l3)]; omega), rfl, (k14.symm.trans kf)⟩ hv dX8_catcher_72
  refine go_aload_n (pc := 0) rfl dX8_catcher_0 ?_
  refine go_aload_n (pc := 1) rfl dX8_catcher_1 ?_
  refine go_iload_n (pc := 2) rfl dX8_catcher_2 ?_
  refine go_invV (pc := 3) (sl := 0) (s_X8_item_f l (d + 539) hv a2 (by rw [show (a2 : Int32).toInt = a2.toInt from (ti_rfl a2)]; omega) (by rw [show (a2 : Int32).toInt = a2.toInt from (ti_rfl a2)]; omega)) mL_X8_268 iM_X8_item sM_X8_item (hv.sh rfl) rfl rfl rfl (Nat.le_of_ble_eq_true rfl) (show d + 539 + 1 + 1 ≤ d + 541 by omega) (show 8 + (2 + 11) + 40 * (d + 539 + 1) ≤ 40 * (d + 541) by omega) (g_c0 hv.ln) (Nat.le_of_ble_eq_true rfl) dX8_catcher_3 ?_
  intro r h15 hq _
  obtain ⟨v18, rfl, v18l, v18u, rfl, f16, f17⟩ := hq
  have v18K : v18.toInt = V h.2.1 93 (40 * S + a2.toInt) := by rw [f16]; unfold g_it; rw [← hS]; rfl
  replace f17 : PE _ _ := f17
  have k19 := bd_e k0 f17.symm
  have it20g : v18.toInt = V h.2.1 93 (40 * S + a2.toInt) := by rw [f16]; unfold g_it; rw [← hS]; rfl
  have it20 : II h.2.1 S v18.toInt := by rw [it20g]; exact ht.1.2.2.2.2.2.2 a2.toInt (by omega) (by omega)
  have sM21 : (h.2.1 70 6).toInt = S := by rw [hv.fy (j := 6) (by omega), ← hv.fy (j := 6) (by omega)]; exact hS.symm
  refine go_invV (pc := 6) (sl := 0) (s_X8_tryOf_f l (d + 539) hv v18 (by rw [show (v18 : Int32).toInt = v18.toInt from (ti_rfl v18)]; omega) (by rw [show (v18 : Int32).toInt = v18.toInt from (ti_rfl v18)]; omega) (by rw [sM21]; exact ht) (by rw [sM21]; exact it20)) mL_X8_265 iM_X8_tryOf sM_X8_tryOf (hv.sh rfl) rfl rfl rfl (Nat.le_of_ble_eq_true rfl) (show d + 539 + 1 + 1 ≤ d + 541 by omega) (show 8 + (4 + 11) + 40 * (d + 539 + 1) ≤ 40 * (d + 541) by omega) (g_c0 hv.ln) (Nat.le_of_ble_eq_true rfl) dX8_catcher_6 ?_
  intro r h22 hq _
  obtain ⟨v25, rfl, v25l, v25u, rfl, f23, f24⟩ := hq
  rw [sM21] at f23
  replace f24 : PE _ _ := f24
  have k26 := bd_e k19 f24.symm
  refine go_istore_n (pc := 9) (Nat.le_of_ble_eq_true rfl) dX8_catcher_9 (go_lv (lv2 := [(0, .ref 70), (1, .int a2), (2, .int v25)]) rfl ?_)
  refine go_iload_n (pc := 10) rfl dX8_catcher_10 ?_
  refine go_iconst (pc := 11) (v := (-1)) (by decide) dX8_catcher_11 ?_
  refine gf_icmp_ne (pc := 12) (tgt := 18) (ti_rfl v25) (ti_c (v := (-1)) (a := (-1)) (by decide)) (by decide) dX8_catcher_12 (fun q27 => ?_) (fun q27 => ?_)
  ·
    have k28 := if_t k26 q27
    refine go_aload_n (pc := 18) rfl dX8_catcher_18 ?_
    refine go_aload_n (pc := 19) rfl dX8_catcher_19 ?_
    refine gi_getF (pc := 20) (q := 86) hv fL_X8_56 rfl (Nat.le_of_ble_eq_true rfl) rfl (hv.rf (by decide)) dX8_catcher_20 ?_
    refine go_iload_n (pc := 23) rfl dX8_catcher_23 ?_
    refine gi_iald (pc := 24) (lo := -1) (hi := 559) (len := 260) hv (ti_rfl v25) rfl (by omega) (by omega) (fun _ => rfl) dX8_catcher_24 (fun v29 v29l v29u v29w => ?_)
    have k30 := bd_e k28 (congrArg Int32.toInt v29w.symm)
    have v29V : v29.toInt = V h.2.1 86 v25.toInt := by rw [v29w]; rfl
    rcases f23 with ty | ty
    · exact False.elim (by omega)
    have cc := (ht.2 v25.toInt ty.1.1 ty.1.2).2.1 ty.2
    rcases (ht.1.2.2.2.2.1 v25.toInt ty.1).2 with t4 | t4
    · exact False.elim (by omega)
    have sM31 : (h.2.1 70 6).toInt = S := by rw [hv.fy (j := 6) (by omega), ← hv.fy (j := 6) (by omega)]; exact hS.symm
    refine go_invV (pc := 25) (sl := 0) (s_X8_firstOf_f l (d + 0) hv v29 (by rw [show (v29 : Int32).toInt = v29.toInt from (ti_rfl v29)]; omega) (by rw [show (v29 : Int32).toInt = v29.toInt from (ti_rfl v29)]; omega) (by rw [sM31]; exact ht) (by rw [sM31]; exact (by rw [v29V]; exact t4.1))) mL_X8_253 iM_X8_firstOf sM_X8_firstOf (hv.sh rfl) rfl rfl rfl (Nat.le_of_ble_eq_true rfl) (show d + 0 + 540 + 1 ≤ d + 541 by omega) (show 8 + (2 + 11) + 40 * (d + 0 + 540) ≤ 40 * (d + 541) by omega) (g_c0 hv.ln) (Nat.le_of_ble_eq_true rfl) dX8_catcher_25 ?_
    intro r h32 hq _
    obtain ⟨v35, rfl, v35l, v35u, rfl, f33, f34⟩ := hq
    rw [sM31] at f33
    replace f34 : PE _ _ := f34
    have k36 := bd_e k30 f34.symm
    refine go_istore_n (pc := 28) (Nat.le_of_ble_eq_true rfl) dX8_catcher_28 (go_lv (lv2 := [(0, .ref 70), (1, .int a2), (2, .int v25), (3, .int v35)]) rfl ?_)
    refine go_iload_n (pc := 29) rfl dX8_catcher_29 ?_
    refine go_iconst (pc := 30) (v := (-1)) (by decide) dX8_catcher_30 ?_
    refine gf_icmp_ne (pc := 31) (tgt := 37) (ti_rfl v35) (ti_c (v := (-1)) (a := (-1)) (by decide)) (by decide) dX8_catcher_31 (fun q37 => ?_) (fun q37 => ?_)
    ·
      have k38 := if_t k36 q37
      refine go_aload_n (pc := 37) rfl dX8_catcher_37 ?_
      refine gi_getF (pc := 38) (q := 88) hv fL_X8_62 rfl (Nat.le_of_ble_eq_true rfl) rfl (hv.rf (by decide)) dX8_catcher_38 ?_
      refine go_aload_n (pc := 41) rfl dX8_catcher_41 ?_
      refine go_iload_n (pc := 42) rfl dX8_catcher_42 ?_
      refine go_invV (pc := 43) (sl := 0) (s_X8_item_f l (d + 539) hv v35 (by rw [show (v35 : Int32).toInt = v35.toInt from (ti_rfl v35)]; omega) (by rw [show (v35 : Int32).toInt = v35.toInt from (ti_rfl v35)]; omega)) mL_X8_268 iM_X8_item sM_X8_item (hv.sh rfl) rfl rfl rfl (Nat.le_of_ble_eq_true rfl) (show d + 539 + 1 + 1 ≤ d + 541 by omega) (show 8 + (2 + 11) + 40 * (d + 539 + 1) ≤ 40 * (d + 541) by omega) (g_c0 hv.ln) (Nat.le_of_ble_eq_true rfl) dX8_catcher_43 ?_
      intro r h39 hq _
      obtain ⟨v42, rfl, v42l, v42u, rfl, f40, f41⟩ := hq
      have v42K : v42.toInt = V h.2.1 93 (40 * S + v35.toInt) := by rw [f40]; unfold g_it; rw [← hS]; rfl
      replace f41 : PE _ _ := f41
      have k43 := bd_e k38 f41.symm
      have it44g : v42.toInt = V h.2.1 93 (40 * S + v35.toInt) := by rw [f40]; unfold g_it; rw [← hS]; rfl
      have it44 : II h.2.1 S v42.toInt := by rw [it44g]; exact ht.1.2.2.2.2.2.2 v35.toInt (by omega) (by omega)
      refine gi_iald (pc := 46) (lo := 0) (hi := 559) (len := 260) hv (ti_rfl v42) rfl (by omega) (by omega) (fun _ => rfl) dX8_catcher_46 (fun v45 v45l v45u v45w => ?_)
      have k46 := bd_e k43 (congrArg Int32.toInt v45w.symm)
      have v45V : v45.toInt = V h.2.1 88 v42.toInt := by rw [v45w]; rfl
      have ob : V h.2.1 92 v45.toInt ≤ 259 := (hv.2.1 92 _).2
      have oc : -1 ≤ V h.2.1 92 v45.toInt := (hv.2.1 92 _).1
      refine go_istore (pc := 47) (Nat.le_of_ble_eq_true rfl) dX8_catcher_47 (go_lv (lv2 := [(0, .ref 70), (1, .int a2), (2, .int v25), (3, .int v35), (4, .int v45)]) rfl ?_)
      exact go_lv rfl ((key 805) v25 v35 v45  (by omega) (by omega) (by omega) (by omega) (by omega) (by omega) (by rw [v45V]; exact (ht.1.2.2.1 _ it44).1) (by omega) k46 (by omega))
    ·
      have k47 := if_f k36 (fun z => z q37)
      refine go_bipush (pc := 34) (v := (-2)) (by decide) dX8_catcher_34 ?_
      exact gi_iret (pc := 36) (ti_c (v := (-2)) (a := (-2)) (by decide)) ⟨_, rfl, (by rw [show ((-2) : Int32).toInt = (-2) from (ti_c (v := (-2)) (a := (-2)) (by decide))]; omega), (by rw [show ((-2) : Int32).toInt = (-2) from (ti_c (v := (-2)) (a := (-2)) (by decide))]; omega), rfl, (by rw [show ((-2) : Int32).toInt = (-2) from (ti_c (v := (-2)) (a := (-2)) (by decide))]; exact k47.symm.trans kf)⟩ hv dX8_catcher_36
  ·
    have k48 := if_f k26 (fun z => z q27)
    refine go_bipush (pc := 15) (v := (-2)) (by decide) dX8_catcher_15 ?_
    exact gi_iret (pc := 17) (ti_c (v := (-2)) (a := (-2)) (by decide)) ⟨_, rfl, (by rw [show ((-2) : Int32).toInt = (-2) from (ti_c (v := (-2)) (a := (-2)) (by decide))]; omega), (by rw [show ((-2) : Int32).toInt = (-2) from (ti_c (v := (-2)) (a := (-2)) (by decide))]; omega), rfl, (by rw [show ((-2) : Int32).toInt = (-2) from (ti_c (v := (-2)) (a := (-2)) (by decide))]; exact k48.symm.trans kf)⟩ hv dX8_catcher_17
def f_X8_of2 (s : ST) (a2 : Int) (a3 : Int) : ST × Int :=
  bd (s.1 70 29) fun v1 => bd (sI s 70 6 v1) fun s3 => bd (f_X8_isStatement_x s3 a2) fun v8 => if ¬ v8 = 0 then (bd (f_X8_item s3 a2) fun v16 => if a3 = 0 then (bd (s3.1 77 (v16).toNat) fun v20 => (s3, v20)) else if a3 = 1 then (bd (s3.1 79 (v16).toNat) fun v25 => (s3, v25)) else if a3 = 2 then (bd (s3.1 80 (v16).toNat) fun v30 => (s3, v30)) else if a3 = 3 then (bd (s3.1 77 (v16).toNat) fun v35 => if ¬ v35 = 1 then ((s3, (-2))) else (bd (s3.1 84 (v16).toNat) fun v40 => (s3, v40))) else if a3 = 4 then (bd (s3.1 81 (v16).toNat) fun v45 => (s3, v45)) else if a3 = 5 then (bd (f_X8_catcher s3 a2) fun v52 => (s3, v52)) else if a3 = 6 then (bd (f_X8_decides_x s3 a2) fun v60 => if v60 = 0 then ((s3, 0)) else ((s3, 1))) else (s3, (-1))) else ((s3, (-1)))
set_option maxHeartbeats 4000000 in
set_option maxRecDepth 100000 in
theorem s_X8_of2_f (l : Launch) (d : Nat) {P : PP} {h : HP} (hv : Iv P h) (a2 : Int32) (a3 : Int32) (ckf : CKF h.2.1) (hlv : LV h.2.1) : Mt l yX8_of cX8_of 4 (some .int) (d + 542) [.ref 70, .int a2, .int a3] h 0 0 (fun r h' => ∃ v : Int32, r = some (.int v) ∧ -2147483648 ≤ v.toInt ∧ v.toInt ≤ 2147483647 ∧ Iv (gs P) h' ∧ ((st h', v.toInt) = f_X8_of2 (st h) a2.toInt a3.toInt) ∧ (FX KAq h h')) := by
  refine Mt_iv hv (by decide) (Nat.le_of_ble_eq_true rfl) ?_
  show Go l RX8 cX8_of 4 (g_rm (d + 542) 0 0) "of" (some .int) 117 0 0 (fun _ _ => True) (fun r h' => ∃ v : Int32, r = some (.int v) ∧ -2147483648 ≤ v.toInt ∧ v.toInt ≤ 2147483647 ∧ Iv (gs P) h' ∧ ((st h', v.toInt) = f_X8_of2 (st h) a2.toInt a3.toInt) ∧ (FX KAq h h')) 0 0 [(0, .ref 70), (1, .int a2), (2, .int a3)] [] h
  have fx : FX KAq h h := FX.rfl
  obtain ⟨fin, kf⟩ : ∃ z, z = f_X8_of2 (st h) a2.toInt a3.toInt := ⟨_, _root_.rfl⟩
  have k0 := kf
  unfold f_X8_of2 at k0
  refine go_aload_n (pc := 0) rfl dX8_of_0 ?_
  refine go_aload_n (pc := 1) rfl dX8_of_1 ?_
  refine gi_get (pc := 2) (lo := 0) (hi := 1) hv fL_X8_228 rfl (Nat.le_of_ble_eq_true rfl) rfl rfl dX8_of_2 (fun v1 v1l v1u v1w => ?_)
  have k2 := bd_e k0 (congrArg Int32.toInt v1w.symm)
  refine gi_putS (pc := 5) hv v1w (fP_X8_187 _) dX8_of_5 (fun h3 hv3 hv3e => ?_)
  have fx3 : FX KAq h h3 := FX.pI fx hv3e (by unfold KAq; omega)
  have k4 := bd_e k2 (st_I hv3e (ti_rfl v1))
  refine go_aload_n (pc := 8) rfl dX8_of_8 ?_
  refine go_iload_n (pc := 9) rfl dX8_of_9 ?_
  refine go_invV (pc := 10) (sl := 0) (s_X8_isStatement_x_f l (d + 539) hv3 a2) mL_X8_389 iM_X8_isStatement sM_X8_isStatement (hv3.sh rfl) rfl rfl rfl (Nat.le_of_ble_eq_true rfl) (show d + 539 + 2 + 1 ≤ d + 542 by omega) (show 8 + (2 + 11) + 40 * (d + 539 + 2) ≤ 40 * (d + 542) by omega) (g_c0 hv3.ln) (Nat.le_of_ble_eq_true rfl) dX8_of_10 ?_
  intro r h5 hq _
  obtain ⟨v8, rfl, v8l, v8u, rfl, f9, f6, f7⟩ := hq
  replace f7 : PE _ _ := f7
  have k10 := bd_e k4 f7.symm
  refine gf_if_ne (pc := 13) (tgt := 18) (ti_rfl v8) (by decide) dX8_of_13 (fun q11 => ?_) (fun q11 => ?_)
  ·
    have k12 := if_t k10 q11
    refine go_aload_n (pc := 18) rfl dX8_of_18 ?_
    refine go_iload_n (pc := 19) rfl dX8_of_19 ?_
    refine go_invV (pc := 20) (sl := 0) (s_X8_item_f l (d + 540) hv3 a2 (by rw [show (a2 : Int32).toInt = a2.toInt from (ti_rfl a2)]; omega) (by rw [show (a2 : Int32).toInt = a2.toInt from (ti_rfl a2)]; omega)) mL_X8_268 iM_X8_item sM_X8_item (hv3.sh rfl) rfl rfl rfl (Nat.le_of_ble_eq_true rfl) (show d + 540 + 1 + 1 ≤ d + 542 by omega) (show 8 + (2 + 11) + 40 * (d + 540 + 1) ≤ 40 * (d + 542) by omega) (g_c0 hv3.ln) (Nat.le_of_ble_eq_true rfl) dX8_of_20 ?_
    intro r h13 hq _
    obtain ⟨v16, rfl, v16l, v16u, rfl, f14, f15⟩ := hq
    replace f15 : PE _ _ := f15
    have k17 := bd_e k12 f15.symm
    refine go_istore_n (pc := 23) (Nat.le_of_ble_eq_true rfl) dX8_of_23 (go_lv (lv2 := [(0, .ref 70), (1, .int a2), (2, .int a3), (3, .int v16)]) rfl ?_)
    refine go_iload_n (pc := 24) rfl dX8_of_24 ?_
    by_cases q18 : a3.toInt = 0
    ·
      refine go_tableIn (pc := 25) (tgt := 68) (off := 43) (by rw [show (a3 : Int32).toInt = a3.toInt from (ti_rfl a3)]; omega) (by rw [show (a3 : Int32).toInt = a3.toInt from (ti_rfl a3)]; omega) (by rw [show (a3 : Int32).toInt = a3.toInt from (ti_rfl a3), q18]; rfl) (by decide) dX8_of_25 ?_
      have k19 := if_t k17 q18
      refine go_aload_n (pc := 68) rfl dX8_of_68 ?_
      refine gi_getF (pc := 69) (q := 77) hv3 fL_X8_29 rfl (Nat.le_of_ble_eq_true rfl) rfl (hv3.rf (by decide)) dX8_of_69 ?_
      refine go_iload_n (pc := 72) rfl dX8_of_72 ?_
      refine gi_iald (pc := 73) (lo := 0) (hi := 6) (len := 260) hv3 (ti_rfl v16) rfl (by omega) (by omega) (fun _ => rfl) dX8_of_73 (fun v20 v20l v20u v20w => ?_)
      have k21 := bd_e k19 (congrArg Int32.toInt v20w.symm)
      exact gi_iret (pc := 74) (ti_rfl v20) ⟨_, rfl, (ti_lo _), (ti_hi _), hv3, (k21.symm.trans kf), fx3⟩ hv3 dX8_of_74
    have k22 := if_f k17 q18
    by_cases q23 : a3.toInt = 1
    ·
      refine go_tableIn (pc := 25) (tgt := 75) (off := 50) (by rw [show (a3 : Int32).toInt = a3.toInt from (ti_rfl a3)]; omega) (by rw [show (a3 : Int32).toInt = a3.toInt from (ti_rfl a3)]; omega) (by rw [show (a3 : Int32).toInt = a3.toInt from (ti_rfl a3), q23]; rfl) (by decide) dX8_of_25 ?_
      have k24 := if_t k22 q23
      refine go_aload_n (pc := 75) rfl dX8_of_75 ?_
      refine gi_getF (pc := 76) (q := 79) hv3 fL_X8_35 rfl (Nat.le_of_ble_eq_true rfl) rfl (hv3.rf (by decide)) dX8_of_76 ?_
      refine go_iload_n (pc := 79) rfl dX8_of_79 ?_
      refine gi_iald (pc := 80) (lo := 0) (hi := 4) (len := 260) hv3 (ti_rfl v16) rfl (by omega) (by omega) (fun _ => rfl) dX8_of_80 (fun v25 v25l v25u v25w => ?_)
      have k26 := bd_e k24 (congrArg Int32.toInt v25w.symm)
      exact gi_iret (pc := 81) (ti_rfl v25) ⟨_, rfl, (ti_lo _), (ti_hi _), hv3, (k26.symm.trans kf), fx3⟩ hv3 dX8_of_81
    have k27 := if_f k22 q23
    by_cases q28 : a3.toInt = 2
    ·
      refine go_tableIn (pc := 25) (tgt := 82) (off := 57) (by rw [show (a3 : Int32).toInt = a3.toInt from (ti_rfl a3)]; omega) (by rw [show (a3 : Int32).toInt = a3.toInt from (ti_rfl a3)]; omega) (by rw [show (a3 : Int32).toInt = a3.toInt from (ti_rfl a3), q28]; rfl) (by decide) dX8_of_25 ?_
      have k29 := if_t k27 q28
      refine go_aload_n (pc := 82) rfl dX8_of_82 ?_
      refine gi_getF (pc := 83) (q := 80) hv3 fL_X8_38 rfl (Nat.le_of_ble_eq_true rfl) rfl (hv3.rf (by decide)) dX8_of_83 ?_
      refine go_iload_n (pc := 86) rfl dX8_of_86 ?_
      refine gi_iald (pc := 87) (lo := 0) (hi := 6) (len := 260) hv3 (ti_rfl v16) rfl (by omega) (by omega) (fun _ => rfl) dX8_of_87 (fun v30 v30l v30u v30w => ?_)
      have k31 := bd_e k29 (congrArg Int32.toInt v30w.symm)
      exact gi_iret (pc := 88) (ti_rfl v30) ⟨_, rfl, (ti_lo _), (ti_hi _), hv3, (k31.symm.trans kf), fx3⟩ hv3 dX8_of_88
    have k32 := if_f k27 q28
    by_cases q33 : a3.toInt = 3
    ·
      refine go_tableIn (pc := 25) (tgt := 89) (off := 64) (by rw [show (a3 : Int32).toInt = a3.toInt from (ti_rfl a3)]; omega) (by rw [show (a3 : Int32).toInt = a3.toInt from (ti_rfl a3)]; omega) (by rw [show (a3 : Int32).toInt = a3.toInt from (ti_rfl a3), q33]; rfl) (by decide) dX8_of_25 ?_
      have k34 := if_t k32 q33
      refine go_aload_n (pc := 89) rfl dX8_of_89 ?_
      refine gi_getF (pc := 90) (q := 77) hv3 fL_X8_29 rfl (Nat.le_of_ble_eq_true rfl) rfl (hv3.rf (by decide)) dX8_of_90 ?_
      refine go_iload_n (pc := 93) rfl dX8_of_93 ?_
      refine gi_iald (pc := 94) (lo := 0) (hi := 6) (len := 260) hv3 (ti_rfl v16) rfl (by omega) (by omega) (fun _ => rfl) dX8_of_94 (fun v35 v35l v35u v35w => ?_)
      have k36 := bd_e k34 (congrArg Int32.toInt v35w.symm)
      refine go_iconst (pc := 95) (v := 1) (by decide) dX8_of_95 ?_
      refine gf_icmp_ne (pc := 96) (tgt := 108) (ti_rfl v35) (ti_c (v := 1) (a := 1) (by decide)) (by decide) dX8_of_96 (fun q37 => ?_) (fun q37 => ?_)
      ·
        have k38 := if_t k36 q37
        refine go_bipush (pc := 108) (v := (-2)) (by decide) dX8_of_108 ?_
        exact gi_iret (pc := 110) (ti_c (v := (-2)) (a := (-2)) (by decide)) ⟨_, rfl, (ti_lo _), (ti_hi _), hv3, (by rw [show ((-2) : Int32).toInt = (-2) from (ti_c (v := (-2)) (a := (-2)) (by decide))]; exact k38.symm.trans kf), fx3⟩ hv3 dX8_of_110
      ·
        have k39 := if_f k36 (fun z => z q37)
        refine go_aload_n (pc := 99) rfl dX8_of_99 ?_
        refine gi_getF (pc := 100) (q := 84) hv3 fL_X8_50 rfl (Nat.le_of_ble_eq_true rfl) rfl (hv3.rf (by decide)) dX8_of_100 ?_
        refine go_iload_n (pc := 103) rfl dX8_of_103 ?_
        refine gi_iald (pc := 104) (lo := -2) (hi := 4) (len := 260) hv3 (ti_rfl v16) rfl (by omega) (by omega) (fun _ => rfl) dX8_of_104 (fun v40 v40l v40u v40w => ?_)
        have k41 := bd_e k39 (congrArg Int32.toInt v40w.symm)
        refine go_goto (pc := 105) (tgt := 110) (by decide) dX8_of_105 ?_
        exact gi_iret (pc := 110) (ti_rfl v40) ⟨_, rfl, (ti_lo _), (ti_hi _), hv3, (k41.symm.trans kf), fx3⟩ hv3 dX8_of_110
    have k42 := if_f k32 q33
    by_cases q43 : a3.toInt = 4
    ·
      refine go_tableIn (pc := 25) (tgt := 111) (off := 86) (by rw [show (a3 : Int32).toInt = a3.toInt from (ti_rfl a3)]; omega) (by rw [show (a3 : Int32).toInt = a3.toInt from (ti_rfl a3)]; omega) (by rw [show (a3 : Int32).toInt = a3.toInt from (ti_rfl a3), q43]; rfl) (by decide) dX8_of_25 ?_
      have k44 := if_t k42 q43
      refine go_aload_n (pc := 111) rfl dX8_of_111 ?_
      refine gi_getF (pc := 112) (q := 81) hv3 fL_X8_41 rfl (Nat.le_of_ble_eq_true rfl) rfl (hv3.rf (by decide)) dX8_of_112 ?_
      refine go_iload_n (pc := 115) rfl dX8_of_115 ?_
      refine gi_iald (pc := 116) (lo := -2147483648) (hi := 2147483647) (len := 260) hv3 (ti_rfl v16) rfl (by omega) (by omega) (fun _ => rfl) dX8_of_116 (fun v45 v45l v45u v45w => ?_)
      have k46 := bd_e k44 (congrArg Int32.toInt v45w.symm)
      exact gi_iret (pc := 117) (ti_rfl v45) ⟨_, rfl, (ti_lo _), (ti_hi _), hv3, (k46.symm.trans kf), fx3⟩ hv3 dX8_of_117
    have k47 := if_f k42 q43
    by_cases q48 : a3.toInt = 5
    ·
      refine go_tableIn (pc := 25) (tgt := 118) (off := 93) (by rw [show (a3 : Int32).toInt = a3.toInt from (ti_rfl a3)]; omega) (by rw [show (a3 : Int32).toInt = a3.toInt from (ti_rfl a3)]; omega) (by rw [show (a3 : Int32).toInt = a3.toInt from (ti_rfl a3), q48]; rfl) (by decide) dX8_of_25 ?_
      have k49 := if_t k47 q48
      refine go_aload_n (pc := 118) rfl dX8_of_118 ?_
      refine go_iload_n (pc := 119) rfl dX8_of_119 ?_
      have lvq := LV.ofgs hv hv3 hlv (f6 (by omega)).1
      refine go_invV (pc := 120) (sl := 0) (s_X8_catcher_f l (d + 0) hv3 a2 (by rw [show (a2 : Int32).toInt = a2.toInt from (ti_rfl a2)]; omega) (by rw [show (a2 : Int32).toInt = a2.toInt from (ti_rfl a2)]; omega) (by rw [gs6b hv hv3]; exact ⟨lvq.1.1, lvq.1.2.1⟩) (by rw [gs6b hv hv3]; exact (f6 (by omega)).2)) mL_X8_392 iM_X8_catcher sM_X8_catcher (hv3.sh rfl) rfl rfl rfl (Nat.le_of_ble_eq_true rfl) (show d + 0 + 541 + 1 ≤ d + 542 by omega) (show 8 + (5 + 11) + 40 * (d + 0 + 541) ≤ 40 * (d + 542) by omega) (g_c0 hv3.ln) (Nat.le_of_ble_eq_true rfl) dX8_of_120 ?_
      intro r h50 hq _
      obtain ⟨v52, rfl, v52l, v52u, rfl, f51⟩ := hq
      replace f51 : PE _ _ := f51
      have k53 := bd_e k49 f51.symm
      exact gi_iret (pc := 123) (ti_rfl v52) ⟨_, rfl, (ti_lo _), (ti_hi _), hv3, (k53.symm.trans kf), fx3⟩ hv3 dX8_of_123
    have k54 := if_f k47 q48
    by_cases q55 : a3.toInt = 6
    ·
      refine go_tableIn (pc := 25) (tgt := 124) (off := 99) (by rw [show (a3 : Int32).toInt = a3.toInt from (ti_rfl a3)]; omega) (by rw [show (a3 : Int32).toInt = a3.toInt from (ti_rfl a3)]; omega) (by rw [show (a3 : Int32).toInt = a3.toInt from (ti_rfl a3), q55]; rfl) (by decide) dX8_of_25 ?_
      have k56 := if_t k54 q55
      refine go_aload_n (pc := 124) rfl dX8_of_124 ?_
      refine go_iload_n (pc := 125) rfl dX8_of_125 ?_
      refine go_invV (pc := 126) (sl := 0) (s_X8_decides_x_f l (d + 537) hv3 a2 (by rw [show (a2 : Int32).toInt = a2.toInt from (ti_rfl a2)]; omega) (by rw [show (a2 : Int32).toInt = a2.toInt from (ti_rfl a2)]; omega) (CKF.ve (VE.ofgs hv hv3) ckf)) mL_X8_338 iM_X8_decides sM_X8_decides (hv3.sh rfl) rfl rfl rfl (Nat.le_of_ble_eq_true rfl) (show d + 537 + 4 + 1 ≤ d + 542 by omega) (show 8 + (3 + 11) + 40 * (d + 537 + 4) ≤ 40 * (d + 542) by omega) (g_c0 hv3.ln) (Nat.le_of_ble_eq_true rfl) dX8_of_126 ?_
      intro r h57 hq _
      obtain ⟨v60, rfl, v60l, v60u, rfl, f58, f59⟩ := hq
      replace f59 : PE _ _ := f59
      have k61 := bd_e k56 f59.symm
      refine gf_if_eq (pc := 129) (tgt := 136) (ti_rfl v60) (by decide) dX8_of_129 (fun q62 => ?_) (fun q62 => ?_)
      ·
        have k63 := if_t k61 q62
        refine go_iconst (pc := 136) (v := 0) (by decide) dX8_of_136 ?_
        exact gi_iret (pc := 137) (ti_c (v := 0) (a := 0) (by decide)) ⟨_, rfl, (ti_lo _), (ti_hi _), hv3, (by rw [show (0 : Int32).toInt = 0 from (ti_c (v := 0) (a := 0) (by decide))]; exact k63.symm.trans kf), fx3⟩ hv3 dX8_of_137
      ·
        have k64 := if_f k61 q62
        refine go_iconst (pc := 132) (v := 1) (by decide) dX8_of_132 ?_
        refine go_goto (pc := 133) (tgt := 137) (by decide) dX8_of_133 ?_
        exact gi_iret (pc := 137) (ti_c (v := 1) (a := 1) (by decide)) ⟨_, rfl, (ti_lo _), (ti_hi _), hv3, (by rw [show (1 : Int32).toInt = 1 from (ti_c (v := 1) (a := 1) (by decide))]; exact k64.symm.trans kf), fx3⟩ hv3 dX8_of_137
    have k65 := if_f k54 q55
    refine go_tableOut (pc := 25) (tgt := 138) (by rw [show (a3 : Int32).toInt = a3.toInt from (ti_rfl a3)]; omega) (by decide) dX8_of_25 ?_
    refine go_iconst (pc := 138) (v := (-1)) (by decide) dX8_of_138 ?_
    exact gi_iret (pc := 139) (ti_c (v := (-1)) (a := (-1)) (by decide)) ⟨_, rfl, (ti_lo _), (ti_hi _), hv3, (by rw [show ((-1) : Int32).toInt = (-1) from (ti_c (v := (-1)) (a := (-1)) (by decide))]; exact k65.symm.trans kf), fx3⟩ hv3 dX8_of_139
  ·
    have k66 := if_f k10 (fun z => z q11)
    refine go_iconst (pc := 16) (v := (-1)) (by decide) dX8_of_16 ?_
    exact gi_iret (pc := 17) (ti_c (v := (-1)) (a := (-1)) (by decide)) ⟨_, rfl, (ti_lo _), (ti_hi _), hv3, (by rw [show ((-1) : Int32).toInt = (-1) from (ti_c (v := (-1)) (a := (-1)) (by decide))]; exact k66.symm.trans kf), fx3⟩ hv3 dX8_of_17

