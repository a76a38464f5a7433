def f_X3_isDigit (s : ST) (a1 : Int) : Int :=
  if a1 < 48 then (0) else (if 57 < a1 then (0) else (1))
set_option maxHeartbeats 4000000 in
set_option maxRecDepth 100000 in
theorem s_X3_isDigit_f (l : Launch) (d : Nat) {P : PP} {h : HP} (hv : Iv P h) (a1 : Int32) : Mt l yX3_isDigit cX3_isDigit 1 (some .boolean) (d + 1) [.int a1] h 0 0 (fun r h' => ∃ v : Int32, r = some (.int v) ∧ 0 ≤ v.toInt ∧ v.toInt ≤ 1 ∧ h = h' ∧ (v.toInt = f_X3_isDigit (st h) a1.toInt)) := by
  refine Mt_iv hv (by decide) (Nat.le_of_ble_eq_true rfl) ?_
  show Go l RX3 cX3_isDigit 1 (g_rm (d + 1) 0 0) "isDigit" (some .boolean) 117 0 0 (fun _ _ => True) (fun r h' => ∃ v : Int32, r = some (.int v) ∧ 0 ≤ v.toInt ∧ v.toInt ≤ 1 ∧ h = h' ∧ (v.toInt = f_X3_isDigit (st h) a1.toInt)) 0 0 [(0, .int a1)] [] h
  obtain ⟨fin, kf⟩ : ∃ z, z = f_X3_isDigit (st h) a1.toInt := ⟨_, _root_.rfl⟩
  have k0 := kf
  unfold f_X3_isDigit at k0
  refine go_iload_n (pc := 0) rfl dX3_isDigit_0 ?_
  refine go_bipush (pc := 1) (v := 48) (by decide) dX3_isDigit_1 ?_
  refine gf_icmp_lt (pc := 3) (tgt := 16) (ti_rfl a1) (ti_c (v := 48) (a := 48) (by decide)) (by decide) dX3_isDigit_3 (fun q1 => ?_) (fun q1 => ?_)
  ·
    have k2 := if_t k0 q1
    refine go_iconst (pc := 16) (v := 0) (by decide) dX3_isDigit_16 ?_
    exact gi_zret (pc := 17) (ti_c (v := 0) (a := 0) (by decide)) (by omega) (by omega) ⟨_, rfl, (by rw [show (0 : Int32).toInt = 0 from (ti_c (v := 0) (a := 0) (by decide))]; omega), (by rw [show (0 : Int32).toInt = 0 from (ti_c (v := 0) (a := 0) (by decide))]; omega), rfl, (by rw [show (0 : Int32).toInt = 0 from (ti_c (v := 0) (a := 0) (by decide))]; exact k2.symm.trans kf)⟩ hv dX3_isDigit_17
  ·
    have k3 := if_f k0 (Int.not_lt.mpr q1)
    refine go_iload_n (pc := 6) rfl dX3_isDigit_6 ?_
    refine go_bipush (pc := 7) (v := 57) (by decide) dX3_isDigit_7 ?_
    refine gf_icmp_gt (pc := 9) (tgt := 16) (ti_rfl a1) (ti_c (v := 57) (a := 57) (by decide)) (by decide) dX3_isDigit_9 (fun q4 => ?_) (fun q4 => ?_)
    ·
      have k5 := if_t k3 q4
      refine go_iconst (pc := 16) (v := 0) (by decide) dX3_isDigit_16 ?_
      exact gi_zret (pc := 17) (ti_c (v := 0) (a := 0) (by decide)) (by omega) (by omega) ⟨_, rfl, (by rw [show (0 : Int32).toInt = 0 from (ti_c (v := 0) (a := 0) (by decide))]; omega), (by rw [show (0 : Int32).toInt = 0 from (ti_c (v := 0) (a := 0) (by decide))]; omega), rfl, (by rw [show (0 : Int32).toInt = 0 from (ti_c (v := 0) (a := 0) (by decide))]; exact k5.symm.trans kf)⟩ hv dX3_isDigit_17
    ·
      have k6 := if_f k3 (Int.not_lt.mpr q4)
      refine go_iconst (pc := 12) (v := 1) (by decide) dX3_isDigit_12 ?_
      refine go_goto (pc := 13) (tgt := 17) (by decide) dX3_isDigit_13 ?_
      exact gi_zret (pc := 17) (ti_c (v := 1) (a := 1) (by decide)) (by omega) (by omega) ⟨_, rfl, (by rw [show (1 : Int32).toInt = 1 from (ti_c (v := 1) (a := 1) (by decide))]; omega), (by rw [show (1 : Int32).toInt = 1 from (ti_c (v := 1) (a := 1) (by decide))]; omega), rfl, (by rw [show (1 : Int32).toInt = 1 from (ti_c (v := 1) (a := 1) (by decide))]; exact k6.symm.trans kf)⟩ hv dX3_isDigit_17
def f_X3_nameOf (s : ST) (a1 : Int) : Int :=
  if a1 < 97 then ((-1)) else (if 102 < a1 then (if a1 < 119 then ((-1)) else (if 122 < a1 then ((-1)) else (((6 + a1) - 119)))) else ((a1 - 97)))
set_option maxHeartbeats 4000000 in
set_option maxRecDepth 100000 in
theorem s_X3_nameOf_f (l : Launch) (d : Nat) {P : PP} {h : HP} (hv : Iv P h) (a1 : Int32) : Mt l yX3_nameOf cX3_nameOf 1 (some .int) (d + 1) [.int a1] h 0 0 (fun r h' => ∃ v : Int32, r = some (.int v) ∧ -1 ≤ v.toInt ∧ v.toInt ≤ 9 ∧ h = h' ∧ (0 ≤ v.toInt → 0 ≤ a1.toInt ∧ a1.toInt ≤ 255) ∧ (v.toInt = f_X3_nameOf (st h) a1.toInt)) := by
  refine Mt_iv hv (by decide) (Nat.le_of_ble_eq_true rfl) ?_
  show Go l RX3 cX3_nameOf 1 (g_rm (d + 1) 0 0) "nameOf" (some .int) 117 0 0 (fun _ _ => True) (fun r h' => ∃ v : Int32, r = some (.int v) ∧ -1 ≤ v.toInt ∧ v.toInt ≤ 9 ∧ h = h' ∧ (0 ≤ v.toInt → 0 ≤ a1.toInt ∧ a1.toInt ≤ 255) ∧ (v.toInt = f_X3_nameOf (st h) a1.toInt)) 0 0 [(0, .int a1)] [] h
  obtain ⟨fin, kf⟩ : ∃ z, z = f_X3_nameOf (st h) a1.toInt := ⟨_, _root_.rfl⟩
  have k0 := kf
  unfold f_X3_nameOf at k0
  refine go_iload_n (pc := 0) rfl dX3_nameOf_0 ?_
  refine go_bipush (pc := 1) (v := 97) (by decide) dX3_nameOf_1 ?_
  refine gf_icmp_lt (pc := 3) (tgt := 17) (ti_rfl a1) (ti_c (v := 97) (a := 97) (by decide)) (by decide) dX3_nameOf_3 (fun q1 => ?_) (fun q1 => ?_)
  ·
    have k2 := if_t k0 q1
    refine go_iload_n (pc := 17) rfl dX3_nameOf_17 ?_
    refine go_bipush (pc := 18) (v := 119) (by decide) dX3_nameOf_18 ?_
    refine gf_icmp_lt (pc := 20) (tgt := 39) (ti_rfl a1) (ti_c (v := 119) (a := 119) (by decide)) (by decide) dX3_nameOf_20 (fun q3 => ?_) (fun q3 => False.elim (by omega))
    refine go_iconst (pc := 39) (v := (-1)) (by decide) dX3_nameOf_39 ?_
    exact gi_iret (pc := 40) (ti_c (v := (-1)) (a := (-1)) (by decide)) ⟨_, rfl, (by rw [show ((-1) : Int32).toInt = (-1) from (ti_c (v := (-1)) (a := (-1)) (by decide))]; omega), (by rw [show ((-1) : Int32).toInt = (-1) from (ti_c (v := (-1)) (a := (-1)) (by decide))]; omega), rfl, (by rw [show ((-1) : Int32).toInt = (-1) from (ti_c (v := (-1)) (a := (-1)) (by decide))]; omega), (by rw [show ((-1) : Int32).toInt = (-1) from (ti_c (v := (-1)) (a := (-1)) (by decide))]; exact k2.symm.trans kf)⟩ hv dX3_nameOf_40
  ·
    have k4 := if_f k0 (Int.not_lt.mpr q1)
    refine go_iload_n (pc := 6) rfl dX3_nameOf_6 ?_
    refine go_bipush (pc := 7) (v := 102) (by decide) dX3_nameOf_7 ?_
    refine gf_icmp_gt (pc := 9) (tgt := 17) (ti_rfl a1) (ti_c (v := 102) (a := 102) (by decide)) (by decide) dX3_nameOf_9 (fun q5 => ?_) (fun q5 => ?_)
    ·
      have k6 := if_t k4 q5
      refine go_iload_n (pc := 17) rfl dX3_nameOf_17 ?_
      refine go_bipush (pc := 18) (v := 119) (by decide) dX3_nameOf_18 ?_
      refine gf_icmp_lt (pc := 20) (tgt := 39) (ti_rfl a1) (ti_c (v := 119) (a := 119) (by decide)) (by decide) dX3_nameOf_20 (fun q7 => ?_) (fun q7 => ?_)
      ·
        have k8 := if_t k6 q7
        refine go_iconst (pc := 39) (v := (-1)) (by decide) dX3_nameOf_39 ?_
        exact gi_iret (pc := 40) (ti_c (v := (-1)) (a := (-1)) (by decide)) ⟨_, rfl, (by rw [show ((-1) : Int32).toInt = (-1) from (ti_c (v := (-1)) (a := (-1)) (by decide))]; omega), (by rw [show ((-1) : Int32).toInt = (-1) from (ti_c (v := (-1)) (a := (-1)) (by decide))]; omega), rfl, (by rw [show ((-1) : Int32).toInt = (-1) from (ti_c (v := (-1)) (a := (-1)) (by decide))]; omega), (by rw [show ((-1) : Int32).toInt = (-1) from (ti_c (v := (-1)) (a := (-1)) (by decide))]; exact k8.symm.trans kf)⟩ hv dX3_nameOf_40
      ·
        have k9 := if_f k6 (Int.not_lt.mpr q7)
        refine go_iload_n (pc := 23) rfl dX3_nameOf_23 ?_
        refine go_bipush (pc := 24) (v := 122) (by decide) dX3_nameOf_24 ?_
        refine gf_icmp_gt (pc := 26) (tgt := 39) (ti_rfl a1) (ti_c (v := 122) (a := 122) (by decide)) (by decide) dX3_nameOf_26 (fun q10 => ?_) (fun q10 => ?_)
        ·
          have k11 := if_t k9 q10
          refine go_iconst (pc := 39) (v := (-1)) (by decide) dX3_nameOf_39 ?_
          exact gi_iret (pc := 40) (ti_c (v := (-1)) (a := (-1)) (by decide)) ⟨_, rfl, (by rw [show ((-1) : Int32).toInt = (-1) from (ti_c (v := (-1)) (a := (-1)) (by decide))]; omega), (by rw [show ((-1) : Int32).toInt = (-1) from (ti_c (v := (-1)) (a := (-1)) (by decide))]; omega), rfl, (by rw [show ((-1) : Int32).toInt = (-1) from (ti_c (v := (-1)) (a := (-1)) (by decide))]; omega), (by rw [show ((-1) : Int32).toInt = (-1) from (ti_c (v := (-1)) (a := (-1)) (by decide))]; exact k11.symm.trans kf)⟩ hv dX3_nameOf_40
        ·
          have k12 := if_f k9 (Int.not_lt.mpr q10)
          refine go_bipush (pc := 29) (v := 6) (by decide) dX3_nameOf_29 ?_
          refine go_iload_n (pc := 31) rfl dX3_nameOf_31 ?_
          refine gf_iadd (pc := 32) (ti_c (v := 6) (a := 6) (by decide)) (ti_rfl a1) (by omega) (by omega) dX3_nameOf_32 (fun v13 e14 => ?_)
          refine go_bipush (pc := 33) (v := 119) (by decide) dX3_nameOf_33 ?_
          refine gf_isub (pc := 35) e14 (ti_c (v := 119) (a := 119) (by decide)) (by omega) (by omega) dX3_nameOf_35 (fun v15 e16 => ?_)
          refine go_goto (pc := 36) (tgt := 40) (by decide) dX3_nameOf_36 ?_
          exact gi_iret (pc := 40) e16 ⟨_, rfl, (by rw [show (v15 : Int32).toInt = ((6 + a1.toInt) - 119) from e16]; omega), (by rw [show (v15 : Int32).toInt = ((6 + a1.toInt) - 119) from e16]; omega), rfl, (by rw [show (v15 : Int32).toInt = ((6 + a1.toInt) - 119) from e16]; omega), (by rw [show (v15 : Int32).toInt = ((6 + a1.toInt) - 119) from e16]; exact k12.symm.trans kf)⟩ hv dX3_nameOf_40
    ·
      have k17 := if_f k4 (Int.not_lt.mpr q5)
      refine go_iload_n (pc := 12) rfl dX3_nameOf_12 ?_
      refine go_bipush (pc := 13) (v := 97) (by decide) dX3_nameOf_13 ?_
      refine gf_isub (pc := 15) (ti_rfl a1) (ti_c (v := 97) (a := 97) (by decide)) (by omega) (by omega) dX3_nameOf_15 (fun v18 e19 => ?_)
      exact gi_iret (pc := 16) e19 ⟨_, rfl, (by rw [show (v18 : Int32).toInt = (a1.toInt - 97) from e19]; omega), (by rw [show (v18 : Int32).toInt = (a1.toInt - 97) from e19]; omega), rfl, (by rw [show (v18 : Int32).toInt = (a1.toInt - 97) from e19]; omega), (by rw [show (v18 : Int32).toInt = (a1.toInt - 97) from e19]; exact k17.symm.trans kf)⟩ hv dX3_nameOf_16
def f_X3_kindBegunBy (s : ST) (a1 : Int) : Int :=
  if a1 = 33 then (4) else if a1 = 63 then (2) else if a1 = 64 then (3) else if a1 = 94 then (5) else bd (f_X3_nameOf s a1) fun v16 => if ¬ v16 = (-1) then (0) else ((-1))
set_option maxHeartbeats 4000000 in
set_option maxRecDepth 100000 in
theorem s_X3_kindBegunBy_f (l : Launch) (d : Nat) {P : PP} {h : HP} (hv : Iv P h) (a1 : Int32) : Mt l yX3_kindBegunBy cX3_kindBegunBy 1 (some .int) (d + 2) [.int a1] h 0 0 (fun r h' => ∃ v : Int32, r = some (.int v) ∧ -1 ≤ v.toInt ∧ v.toInt ≤ 5 ∧ h = h' ∧ (0 ≤ v.toInt → 0 ≤ a1.toInt ∧ a1.toInt ≤ 255) ∧ (¬ v.toInt = 1) ∧ (v.toInt = f_X3_kindBegunBy (st h) a1.toInt)) := by
  refine Mt_iv hv (by decide) (Nat.le_of_ble_eq_true rfl) ?_
  show Go l RX3 cX3_kindBegunBy 1 (g_rm (d + 2) 0 0) "kindBegunBy" (some .int) 117 0 0 (fun _ _ => True) (fun r h' => ∃ v : Int32, r = some (.int v) ∧ -1 ≤ v.toInt ∧ v.toInt ≤ 5 ∧ h = h' ∧ (0 ≤ v.toInt → 0 ≤ a1.toInt ∧ a1.toInt ≤ 255) ∧ (¬ v.toInt = 1) ∧ (v.toInt = f_X3_kindBegunBy (st h) a1.toInt)) 0 0 [(0, .int a1)] [] h
  obtain ⟨fin, kf⟩ : ∃ z, z = f_X3_kindBegunBy (st h) a1.toInt := ⟨_, _root_.rfl⟩
  have k0 := kf
  unfold f_X3_kindBegunBy at k0
  refine go_iload_n (pc := 0) rfl dX3_kindBegunBy_0 ?_
  by_cases q1 : a1.toInt = 33
  ·
    refine go_lookup (pc := 1) (tgt := 48) (off := 47) (by decide) (by rw [show (a1 : Int32).toInt = a1.toInt from (ti_rfl a1), q1]; decide) (by decide) dX3_kindBegunBy_1 ?_
    have k2 := if_t k0 q1
    refine go_iconst (pc := 48) (v := 4) (by decide) dX3_kindBegunBy_48 ?_
    exact gi_iret (pc := 49) (ti_c (v := 4) (a := 4) (by decide)) ⟨_, rfl, (by rw [show (4 : Int32).toInt = 4 from (ti_c (v := 4) (a := 4) (by decide))]; omega), (by rw [show (4 : Int32).toInt = 4 from (ti_c (v := 4) (a := 4) (by decide))]; omega), rfl, (by rw [show (4 : Int32).toInt = 4 from (ti_c (v := 4) (a := 4) (by decide))]; omega), (by rw [show (4 : Int32).toInt = 4 from (ti_c (v := 4) (a := 4) (by decide))]; omega), (by rw [show (4 : Int32).toInt = 4 from (ti_c (v := 4) (a := 4) (by decide))]; exact k2.symm.trans kf)⟩ hv dX3_kindBegunBy_49
  have k3 := if_f k0 q1
  by_cases q4 : a1.toInt = 63
  ·
    refine go_lookup (pc := 1) (tgt := 44) (off := 43) (by decide) (by rw [show (a1 : Int32).toInt = a1.toInt from (ti_rfl a1), q4]; decide) (by decide) dX3_kindBegunBy_1 ?_
    have k5 := if_t k3 q4
    refine go_iconst (pc := 44) (v := 2) (by decide) dX3_kindBegunBy_44 ?_
    exact gi_iret (pc := 45) (ti_c (v := 2) (a := 2) (by decide)) ⟨_, rfl, (by rw [show (2 : Int32).toInt = 2 from (ti_c (v := 2) (a := 2) (by decide))]; omega), (by rw [show (2 : Int32).toInt = 2 from (ti_c (v := 2) (a := 2) (by decide))]; omega), rfl, (by rw [show (2 : Int32).toInt = 2 from (ti_c (v := 2) (a := 2) (by decide))]; omega), (by rw [show (2 : Int32).toInt = 2 from (ti_c (v := 2) (a := 2) (by decide))]; omega), (by rw [show (2 : Int32).toInt = 2 from (ti_c (v := 2) (a := 2) (by decide))]; exact k5.symm.trans kf)⟩ hv dX3_kindBegunBy_45
  have k6 := if_f k3 q4
  by_cases q7 : a1.toInt = 64
  ·
    refine go_lookup (pc := 1) (tgt := 46) (off := 45) (by decide) (by rw [show (a1 : Int32).toInt = a1.toInt from (ti_rfl a1), q7]; decide) (by decide) dX3_kindBegunBy_1 ?_
    have k8 := if_t k6 q7
    refine go_iconst (pc := 46) (v := 3) (by decide) dX3_kindBegunBy_46 ?_
    exact gi_iret (pc := 47) (ti_c (v := 3) (a := 3) (by decide)) ⟨_, rfl, (by rw [show (3 : Int32).toInt = 3 from (ti_c (v := 3) (a := 3) (by decide))]; omega), (by rw [show (3 : Int32).toInt = 3 from (ti_c (v := 3) (a := 3) (by decide))]; omega), rfl, (by rw [show (3 : Int32).toInt = 3 from (ti_c (v := 3) (a := 3) (by decide))]; omega), (by rw [show (3 : Int32).toInt = 3 from (ti_c (v := 3) (a := 3) (by decide))]; omega), (by rw [show (3 : Int32).toInt = 3 from (ti_c (v := 3) (a := 3) (by decide))]; exact k8.symm.trans kf)⟩ hv dX3_kindBegunBy_47
  have k9 := if_f k6 q7
  by_cases q10 : a1.toInt = 94
  ·
    refine go_lookup (pc := 1) (tgt := 50) (off := 49) (by decide) (by rw [show (a1 : Int32).toInt = a1.toInt from (ti_rfl a1), q10]; decide) (by decide) dX3_kindBegunBy_1 ?_
    have k11 := if_t k9 q10
    refine go_iconst (pc := 50) (v := 5) (by decide) dX3_kindBegunBy_50 ?_
    exact gi_iret (pc := 51) (ti_c (v := 5) (a := 5) (by decide)) ⟨_, rfl, (by rw [show (5 : Int32).toInt = 5 from (ti_c (v := 5) (a := 5) (by decide))]; omega), (by rw [show (5 : Int32).toInt = 5 from (ti_c (v := 5) (a := 5) (by decide))]; omega), rfl, (by rw [show (5 : Int32).toInt = 5 from (ti_c (v := 5) (a := 5) (by decide))]; omega), (by rw [show (5 : Int32).toInt = 5 from (ti_c (v := 5) (a := 5) (by decide))]; omega), (by rw [show (5 : Int32).toInt = 5 from (ti_c (v := 5) (a := 5) (by decide))]; exact k11.symm.trans kf)⟩ hv dX3_kindBegunBy_51
  have k12 := if_f k9 q10
  refine go_lookup (pc := 1) (tgt := 52) (off := 51) (by decide) (by rw [show (a1 : Int32).toInt = a1.toInt from (ti_rfl a1)]; simp [Op.lookupswitch.offset]; (repeat rw [if_neg (by omega)])) (by decide) dX3_kindBegunBy_1 ?_
  refine go_iload_n (pc := 52) rfl dX3_kindBegunBy_52 ?_
  refine go_invS (pc := 53) (sl := 0) (s_X3_nameOf_f l (d + 0) hv a1) mL_X3_137 iM_X3_nameOf rfl rfl (Nat.le_of_ble_eq_true rfl) (show d + 0 + 1 + 1 ≤ d + 2 by omega) (show 8 + (1 + 11) + 40 * (d + 0 + 1) ≤ 40 * (d + 2) by omega) (g_c0 hv.ln) (Nat.le_of_ble_eq_true rfl) dX3_kindBegunBy_53 ?_
  intro r h13 hq _
  obtain ⟨v16, rfl, v16l, v16u, rfl, f14, f15⟩ := hq
  replace f15 : PE _ _ := f15
  have k17 := bd_e k12 f15.symm
  refine go_iconst (pc := 56) (v := (-1)) (by decide) dX3_kindBegunBy_56 ?_
  refine gf_icmp_ne (pc := 57) (tgt := 64) (ti_rfl v16) (ti_c (v := (-1)) (a := (-1)) (by decide)) (by decide) dX3_kindBegunBy_57 (fun q18 => ?_) (fun q18 => ?_)
  ·
    have k19 := if_t k17 q18
    refine go_iconst (pc := 64) (v := 0) (by decide) dX3_kindBegunBy_64 ?_
    exact gi_iret (pc := 65) (ti_c (v := 0) (a := 0) (by decide)) ⟨_, rfl, (by rw [show (0 : Int32).toInt = 0 from (ti_c (v := 0) (a := 0) (by decide))]; omega), (by rw [show (0 : Int32).toInt = 0 from (ti_c (v := 0) (a := 0) (by decide))]; omega), rfl, (by rw [show (0 : Int32).toInt = 0 from (ti_c (v := 0) (a := 0) (by decide))]; omega), (by rw [show (0 : Int32).toInt = 0 from (ti_c (v := 0) (a := 0) (by decide))]; omega), (by rw [show (0 : Int32).toInt = 0 from (ti_c (v := 0) (a := 0) (by decide))]; exact k19.symm.trans kf)⟩ hv dX3_kindBegunBy_65
  ·
    have k20 := if_f k17 (fun z => z q18)
    refine go_iconst (pc := 60) (v := (-1)) (by decide) dX3_kindBegunBy_60 ?_
    refine go_goto (pc := 61) (tgt := 65) (by decide) dX3_kindBegunBy_61 ?_
    exact gi_iret (pc := 65) (ti_c (v := (-1)) (a := (-1)) (by decide)) ⟨_, rfl, (by rw [show ((-1) : Int32).toInt = (-1) from (ti_c (v := (-1)) (a := (-1)) (by decide))]; omega), (by rw [show ((-1) : Int32).toInt = (-1) from (ti_c (v := (-1)) (a := (-1)) (by decide))]; omega), rfl, (by rw [show ((-1) : Int32).toInt = (-1) from (ti_c (v := (-1)) (a := (-1)) (by decide))]; omega), (by rw [show ((-1) : Int32).toInt = (-1) from (ti_c (v := (-1)) (a := (-1)) (by decide))]; omega), (by rw [show ((-1) : Int32).toInt = (-1) from (ti_c (v := (-1)) (a := (-1)) (by decide))]; exact k20.symm.trans kf)⟩ hv dX3_kindBegunBy_65
def f_X3_blame (s : ST) (a2 : Int) (a3 : Int) : ST :=
  bd (s.1 34 3) fun v4 => if ¬ v4 = 0 then (s) else (bd (sI s 34 3 ((a2 + (8 * a3)))) fun s26 => s26)
set_option maxHeartbeats 4000000 in
set_option maxRecDepth 100000 in
theorem s_X3_blame_f (l : Launch) (d : Nat) {P : PP} {h : HP} (hv : Iv P h) (a2 : Int32) (a2l : 1 ≤ a2.toInt) (a2u : a2.toInt ≤ 6) (a3 : Int32) (a3l : 0 ≤ a3.toInt) (a3u : a3.toInt ≤ 500) : Mt l yX3_blame cX3_blame 3 none (d + 1) [.ref 34, .int a2, .int a3] h 0 0 (fun r h' => r = none ∧ Iv P h' ∧ (¬ (h'.2.1 34 3).toInt = 0) ∧ ((h'.2.1 34 2).toInt = (h.2.1 34 2).toInt) ∧ ((h'.2.1 34 1).toInt = (h.2.1 34 1).toInt) ∧ ((h'.2.1 34 7).toInt = (h.2.1 34 7).toInt) ∧ (st h' = f_X3_blame (st h) a2.toInt a3.toInt) ∧ (FX KC0 h h') ∧ (PR h → PR h')) := by
  refine Mt_iv hv (by decide) (Nat.le_of_ble_eq_true rfl) ?_
  show Go l RX3 cX3_blame 3 (g_rm (d + 1) 0 0) "blame" none 117 0 0 (fun _ _ => True) (fun r h' => r = none ∧ Iv P h' ∧ (¬ (h'.2.1 34 3).toInt = 0) ∧ ((h'.2.1 34 2).toInt = (h.2.1 34 2).toInt) ∧ ((h'.2.1 34 1).toInt = (h.2.1 34 1).toInt) ∧ ((h'.2.1 34 7).toInt = (h.2.1 34 7).toInt) ∧ (st h' = f_X3_blame (st h) a2.toInt a3.toInt) ∧ (FX KC0 h h') ∧ (PR h → PR h')) 0 0 [(0, .ref 34), (1, .int a2), (2, .int a3)] [] h
  have pr : PR h → PR h := id
  have fx : FX KC0 h h := FX.rfl
  obtain ⟨fin, kf⟩ : ∃ z, z = f_X3_blame (st h) a2.toInt a3.toInt := ⟨_, _root_.rfl⟩
  have k0 := kf
  unfold f_X3_blame at k0
  obtain ⟨u34_2, u34_2w⟩ : ∃ v : Int32, v = h.2.1 34 2 := ⟨_, rfl⟩
  have u34_2e : (h.2.1 34 2).toInt = u34_2.toInt := by rw [u34_2w]
  have u34_2l : 0 ≤ u34_2.toInt := by rw [u34_2w]; exact (hv.2.1 34 2).1
  have u34_2u : u34_2.toInt ≤ 500 := by rw [u34_2w]; exact (hv.2.1 34 2).2
  obtain ⟨u34_1, u34_1w⟩ : ∃ v : Int32, v = h.2.1 34 1 := ⟨_, rfl⟩
  have u34_1e : (h.2.1 34 1).toInt = u34_1.toInt := by rw [u34_1w]
  have u34_1l : 0 ≤ u34_1.toInt := by rw [u34_1w]; exact (hv.2.1 34 1).1
  have u34_1u : u34_1.toInt ≤ 500 := by rw [u34_1w]; exact (hv.2.1 34 1).2
  obtain ⟨u34_7, u34_7w⟩ : ∃ v : Int32, v = h.2.1 34 7 := ⟨_, rfl⟩
  have u34_7e : (h.2.1 34 7).toInt = u34_7.toInt := by rw [u34_7w]
  have u34_7l : 0 ≤ u34_7.toInt := by rw [u34_7w]; exact (hv.2.1 34 7).1
  have u34_7u : u34_7.toInt ≤ 7 := by rw [u34_7w]; exact (hv.2.1 34 7).2
  have k1 := k0
  have k2 := k1
  have k3 := k2
  refine go_aload_n (pc := 0) rfl dX3_blame_0 ?_
  refine gi_get (pc := 1) (lo := -2147483648) (hi := 2147483647) hv fL_X3_22 rfl (Nat.le_of_ble_eq_true rfl) rfl rfl dX3_blame_1 (fun v4 v4l v4u v4w => ?_)
  have k5 := bd_e k3 (congrArg Int32.toInt v4w.symm)
  have g6 : (h.2.1 34 3).toInt = v4.toInt := by rw [v4w]
  refine gf_if_ne (pc := 4) (tgt := 17) (ti_rfl v4) (by decide) dX3_blame_4 (fun q7 => ?_) (fun q7 => ?_)
  ·
    have k8 := if_t k5 q7
    have g9 : (0 : Int) ≤ (h.2.1 34 1).toInt := (hv.2.1 34 1).1
    have g10 : (h.2.1 34 1).toInt ≤ 500 := (hv.2.1 34 1).2
    have g11 : (0 : Int) ≤ (h.2.1 34 2).toInt := (hv.2.1 34 2).1
    have g12 : (h.2.1 34 2).toInt ≤ 500 := (hv.2.1 34 2).2
    have g13 : (-2147483648 : Int) ≤ (h.2.1 34 3).toInt := (hv.2.1 34 3).1
    have g14 : (h.2.1 34 3).toInt ≤ 2147483647 := (hv.2.1 34 3).2
    have g15 : (0 : Int) ≤ (h.2.1 34 7).toInt := (hv.2.1 34 7).1
    have g16 : (h.2.1 34 7).toInt ≤ 7 := (hv.2.1 34 7).2
    have g17 : (h.2.1 34 2).toInt = u34_2.toInt := by rw [← (show u34_2 = h.2.1 34 2 from u34_2w)] <;> exact (ti_rfl u34_2)
    have g18 : (h.2.1 34 1).toInt = u34_1.toInt := by rw [← (show u34_1 = h.2.1 34 1 from u34_1w)] <;> exact (ti_rfl u34_1)
    have g19 : (h.2.1 34 7).toInt = u34_7.toInt := by rw [← (show u34_7 = h.2.1 34 7 from u34_7w)] <;> exact (ti_rfl u34_7)
    have g20 : (h.2.1 34 3).toInt = v4.toInt := by rw [← (show v4 = h.2.1 34 3 from v4w)] <;> exact (ti_rfl v4)
    exact gi_vret (pc := 17) ⟨rfl, hv, (by omega), (by omega), (by omega), (by omega), (k8.symm.trans kf), fx, pr⟩ hv dX3_blame_17
  ·
    have k21 := if_f k5 (fun z => z q7)
    refine go_aload_n (pc := 7) rfl dX3_blame_7 ?_
    refine go_iload_n (pc := 8) rfl dX3_blame_8 ?_
    refine go_bipush (pc := 9) (v := 8) (by decide) dX3_blame_9 ?_
    refine go_iload_n (pc := 11) rfl dX3_blame_11 ?_
    refine gf_imul (pc := 12) (ti_c (v := 8) (a := 8) (by decide)) (ti_rfl a3) (by omega) (by omega) dX3_blame_12 (fun v22 e23 => ?_)
    refine gf_iadd (pc := 13) (ti_rfl a2) e23 (by omega) (by omega) dX3_blame_13 (fun v24 e25 => ?_)
    refine gi_put (pc := 14) (lo := -2147483648) (hi := 2147483647) hv e25 (fP_X3_22 _) rfl (Nat.le_of_ble_eq_true rfl) rfl rfl (ti_ge e25) (ti_le2 e25) rfl rfl (by decide) (by decide) (by decide) (by decide) dX3_blame_14 (fun h26 hv26 hv26e => ?_)
    have pr26 : PR h → PR h26 := fun z => by rw [hv26e]; exact PR.put hv (pr z) (by omega)
    have fx26 : FX KC0 h h26 := FX.pI fx hv26e (by unfold KC0; omega)
    have k27 := bd_e k21 (st_I hv26e e25)
    have g28 : (0 : Int) ≤ (h26.2.1 34 1).toInt := (hv26.2.1 34 1).1
    have g29 : (h26.2.1 34 1).toInt ≤ 500 := (hv26.2.1 34 1).2
    have g30 : (0 : Int) ≤ (h26.2.1 34 2).toInt := (hv26.2.1 34 2).1
    have g31 : (h26.2.1 34 2).toInt ≤ 500 := (hv26.2.1 34 2).2
    have g32 : (-2147483648 : Int) ≤ (h26.2.1 34 3).toInt := (hv26.2.1 34 3).1
    have g33 : (h26.2.1 34 3).toInt ≤ 2147483647 := (hv26.2.1 34 3).2
    have g34 : (0 : Int) ≤ (h26.2.1 34 7).toInt := (hv26.2.1 34 7).1
    have g35 : (h26.2.1 34 7).toInt ≤ 7 := (hv26.2.1 34 7).2
    have g36 : (h26.2.1 34 2).toInt = u34_2.toInt := by rw [← (show u34_2 = h26.2.1 34 2 from (show u34_2 = h26.2.1 34 2 from by rw [hv26e]; exact (g_iI rfl u34_2w.symm).symm))] <;> exact (ti_rfl u34_2)
    have g37 : (h26.2.1 34 1).toInt = u34_1.toInt := by rw [← (show u34_1 = h26.2.1 34 1 from (show u34_1 = h26.2.1 34 1 from by rw [hv26e]; exact (g_iI rfl u34_1w.symm).symm))] <;> exact (ti_rfl u34_1)
    have g38 : (h26.2.1 34 7).toInt = u34_7.toInt := by rw [← (show u34_7 = h26.2.1 34 7 from (show u34_7 = h26.2.1 34 7 from by rw [hv26e]; exact (g_iI rfl u34_7w.symm).symm))] <;> exact (ti_rfl u34_7)
    have g39 : (h26.2.1 34 3).toInt = (a2.toInt + (8 * a3.toInt)) := by rw [← (show v24 = h26.2.1 34 3 from (show v24 = h26.2.1 34 3 from by rw [hv26e]; exact g_iS.symm))] <;> exact e25
    exact gi_vret (pc := 17) ⟨rfl, hv26, (by omega), (by omega), (by omega), (by omega), (k27.symm.trans kf), fx26, pr26⟩ hv26 dX3_blame_17
def f_X3_look_ : Nat → Nat → ST → ST × Int
  | 0, _, sx => (sx, 0)
  | n + 1, _, sx => bd (sx.1 34 1) fun u34_1 => bd (sx.1 34 7) fun u34_7 => bd (sx.1 34 2) fun v3 => if u34_1 ≤ v3 then (if u34_1 ≤ v3 then ((sx, (-1))) else (bd (sx.1 1 (v3).toNat) fun v33 => bd (o_iand v33 255) fun v35 => (sx, v35))) else (bd (sx.1 1 (v3).toNat) fun v57 => if v57 = 32 then (bd (sI sx 34 2 ((v3 + 1))) fun s64 => f_X3_look_ n 0 s64) else (bd (sx.1 1 (v3).toNat) fun v86 => if ¬ v86 = 10 then (if u34_1 ≤ v3 then ((sx, (-1))) else (bd (sx.1 1 (v3).toNat) fun v114 => bd (o_iand v114 255) fun v116 => (sx, v116))) else (bd (sI sx 34 2 ((v3 + 1))) fun s131 => f_X3_look_ n 0 s131)))
def f_X3_look (s : ST) : ST × Int :=
  bd (s.1 34 1) fun u34_1 => bd (s.1 34 7) fun u34_7 => f_X3_look_ 1519 0 s
set_option maxHeartbeats 4000000 in
set_option maxRecDepth 100000 in
theorem s_X3_look_f (l : Launch) (d : Nat) {P : PP} {h : HP} (hv : Iv P h)  : Mt l yX3_look cX3_look 1 (some .int) (d + 1) [.ref 34] h 0 0 (fun r h' => ∃ v : Int32, r = some (.int v) ∧ -1 ≤ v.toInt ∧ v.toInt ≤ 255 ∧ Iv P h' ∧ (0 ≤ v.toInt → (h'.2.1 34 2).toInt ≤ 499) ∧ ((h'.2.1 34 1).toInt = (h.2.1 34 1).toInt) ∧ ((h'.2.1 34 7).toInt = (h.2.1 34 7).toInt) ∧ ((st h', v.toInt) = f_X3_look (st h)) ∧ (FX KC0 h h') ∧ (PR h → PR h')) := by
  refine Mt_iv hv (by decide) (Nat.le_of_ble_eq_true rfl) ?_
  show Go l RX3 cX3_look 1 (g_rm (d + 1) 0 0) "look" (some .int) 117 0 0 (fun _ _ => True) (fun r h' => ∃ v : Int32, r = some (.int v) ∧ -1 ≤ v.toInt ∧ v.toInt ≤ 255 ∧ Iv P h' ∧ (0 ≤ v.toInt → (h'.2.1 34 2).toInt ≤ 499) ∧ ((h'.2.1 34 1).toInt = (h.2.1 34 1).toInt) ∧ ((h'.2.1 34 7).toInt = (h.2.1 34 7).toInt) ∧ ((st h', v.toInt) = f_X3_look (st h)) ∧ (FX KC0 h h') ∧ (PR h → PR h')) 0 0 [(0, .ref 34)] [] h
  have pr : PR h → PR h := id
  have fx : FX KC0 h h := FX.rfl
  obtain ⟨fin, kf⟩ : ∃ z, z = f_X3_look (st h) := ⟨_, _root_.rfl⟩
  have k0 := kf
  unfold f_X3_look at k0
  have key : ∀ n : Nat, (∀  (hx : HP), Iv P hx → (PR h → PR hx) → (hx.2.1 34 1).toInt = (h.2.1 34 1).toInt → (hx.2.1 34 7).toInt = (h.2.1 34 7).toInt → (0 : Int) ≤ (hx.2.1 34 1).toInt → (hx.2.1 34 1).toInt ≤ 500 → (0 : Int) ≤ (hx.2.1 34 2).toInt → (hx.2.1 34 2).toInt ≤ 500 → (0 : Int) ≤ (hx.2.1 34 7).toInt → (hx.2.1 34 7).toInt ≤ 7 → FX KC0 h hx → fin = f_X3_look_ n 0 (st hx) → (3 * (500 - (hx.2.1 34 2).toInt) + 2 : Int) < n → Go l RX3 cX3_look 1 (g_rm (d + 1) 0 0) "look" (some .int) 117 0 0 (fun _ _ => True) (fun r h' => ∃ v : Int32, r = some (.int v) ∧ -1 ≤ v.toInt ∧ v.toInt ≤ 255 ∧ Iv P h' ∧ (0 ≤ v.toInt → (h'.2.1 34 2).toInt ≤ 499) ∧ ((h'.2.1 34 1).toInt = (h.2.1 34 1).toInt) ∧ ((h'.2.1 34 7).toInt = (h.2.1 34 7).toInt) ∧ ((st h', v.toInt) = f_X3_look (st h)) ∧ (FX KC0 h h') ∧ (PR h → PR h')) 0 0 [(0, .ref 34)] [] hx) := by
    intro n
    induction n with
    | zero => exact (by intros; omega)
    | succ n ih =>
      refine ?_
      ·
        intro hx hvx prx t0 t1 y0l y0u y1l y1u y2l y2u fxx kL hm
        obtain ⟨u34_1, u34_1w⟩ : ∃ v : Int32, v = hx.2.1 34 1 := ⟨_, rfl⟩
        have u34_1e : (hx.2.1 34 1).toInt = u34_1.toInt := by rw [u34_1w]
        have u34_1l : 0 ≤ u34_1.toInt := by rw [u34_1w]; exact (hvx.2.1 34 1).1
        have u34_1u : u34_1.toInt ≤ 500 := by rw [u34_1w]; exact (hvx.2.1 34 1).2
        obtain ⟨u34_7, u34_7w⟩ : ∃ v : Int32, v = hx.2.1 34 7 := ⟨_, rfl⟩
        have u34_7e : (hx.2.1 34 7).toInt = u34_7.toInt := by rw [u34_7w]
        have u34_7l : 0 ≤ u34_7.toInt := by rw [u34_7w]; exact (hvx.2.1 34 7).1
        have u34_7u : u34_7.toInt ≤ 7 := by rw [u34_7w]; exact (hvx.2.1 34 7).2
        rw [f_X3_look_] at kL
        have k1 := bd_e kL (congrArg Int32.toInt u34_1w.symm)
        have k2 := bd_e k1 (congrArg Int32.toInt u34_7w.symm)
        refine go_aload_n (pc := 0) rfl dX3_look_0 ?_
        refine gi_get (pc := 1) (lo := 0) (hi := 500) hvx fL_X3_19 rfl (Nat.le_of_ble_eq_true rfl) rfl rfl dX3_look_1 (fun v3 v3l v3u v3w => ?_)
        have k4 := bd_e k2 (congrArg Int32.toInt v3w.symm)
        have g5 : (hx.2.1 34 2).toInt = v3.toInt := by rw [v3w]
        refine go_aload_n (pc := 4) rfl dX3_look_4 ?_
        refine gi_get (pc := 5) (lo := 0) (hi := 500) hvx fL_X3_15 rfl (Nat.le_of_ble_eq_true rfl) rfl rfl dX3_look_5 (fun v6 v6l v6u v6w => ?_)
        have v6r : u34_1 = hx.2.1 34 1 := u34_1w
        have v6q : TI v6 u34_1.toInt := by rw [v6w.trans v6r.symm]; exact (ti_rfl u34_1)
        refine gf_icmp_ge (pc := 8) (tgt := 52) (ti_rfl v3) v6q (by decide) dX3_look_8 (fun q7 => ?_) (fun q7 => ?_)
        ·
          have k8 := if_t k4 q7
          refine go_aload_n (pc := 52) rfl dX3_look_52 ?_
          refine gi_get (pc := 53) (lo := 0) (hi := 500) hvx fL_X3_19 rfl (Nat.le_of_ble_eq_true rfl) rfl rfl dX3_look_53 (fun v9 v9l v9u v9w => ?_)
          have v9r : v3 = hx.2.1 34 2 := v3w
          have v9q : TI v9 v3.toInt := by rw [v9w.trans v9r.symm]; exact (ti_rfl v3)
          refine go_aload_n (pc := 56) rfl dX3_look_56 ?_
          refine gi_get (pc := 57) (lo := 0) (hi := 500) hvx fL_X3_15 rfl (Nat.le_of_ble_eq_true rfl) rfl rfl dX3_look_57 (fun v10 v10l v10u v10w => ?_)
          have v10r : u34_1 = hx.2.1 34 1 := u34_1w
          have v10q : TI v10 u34_1.toInt := by rw [v10w.trans v10r.symm]; exact (ti_rfl u34_1)
          refine gf_icmp_ge (pc := 60) (tgt := 79) v9q v10q (by decide) dX3_look_60 (fun q11 => ?_) (fun q11 => ?_)
          ·
            have k12 := if_t k8 q11
            refine go_iconst (pc := 79) (v := (-1)) (by decide) dX3_look_79 ?_
            have g13 : (0 : Int) ≤ (hx.2.1 34 1).toInt := (hvx.2.1 34 1).1
            have g14 : (hx.2.1 34 1).toInt ≤ 500 := (hvx.2.1 34 1).2
            have g15 : (0 : Int) ≤ (hx.2.1 34 2).toInt := (hvx.2.1 34 2).1
            have g16 : (hx.2.1 34 2).toInt ≤ 500 := (hvx.2.1 34 2).2
            have g17 : (0 : Int) ≤ (hx.2.1 34 7).toInt := (hvx.2.1 34 7).1
            have g18 : (hx.2.1 34 7).toInt ≤ 7 := (hvx.2.1 34 7).2
            have g19 : (hx.2.1 34 1).toInt = u34_1.toInt := by rw [← (show u34_1 = hx.2.1 34 1 from u34_1w)] <;> exact (ti_rfl u34_1)
            have g20 : (hx.2.1 34 7).toInt = u34_7.toInt := by rw [← (show u34_7 = hx.2.1 34 7 from u34_7w)] <;> exact (ti_rfl u34_7)
            have g21 : (hx.2.1 34 2).toInt = v3.toInt := by rw [← (show v3 = hx.2.1 34 2 from v3w)] <;> exact (ti_rfl v3)
            exact gi_iret (pc := 80) (ti_c (v := (-1)) (a := (-1)) (by decide)) ⟨_, rfl, (by rw [show ((-1) : Int32).toInt = (-1) from (ti_c (v := (-1)) (a := (-1)) (by decide))]; omega), (by rw [show ((-1) : Int32).toInt = (-1) from (ti_c (v := (-1)) (a := (-1)) (by decide))]; omega), hvx, (by rw [show ((-1) : Int32).toInt = (-1) from (ti_c (v := (-1)) (a := (-1)) (by decide))]; omega), (by omega), (by omega), (by rw [show ((-1) : Int32).toInt = (-1) from (ti_c (v := (-1)) (a := (-1)) (by decide))]; exact k12.symm.trans kf), fxx, prx⟩ hvx dX3_look_80
          ·
            have k22 := if_f k8 (Int.not_le.mpr q11)
            refine go_aload_n (pc := 63) rfl dX3_look_63 ?_
            have g23 : (0 : Int) ≤ (hx.2.1 34 1).toInt := (hvx.2.1 34 1).1
            have g24 : (hx.2.1 34 1).toInt ≤ 500 := (hvx.2.1 34 1).2
            have g25 : (0 : Int) ≤ (hx.2.1 34 2).toInt := (hvx.2.1 34 2).1
            have g26 : (hx.2.1 34 2).toInt ≤ 500 := (hvx.2.1 34 2).2
            have g27 : (0 : Int) ≤ (hx.2.1 34 7).toInt := (hvx.2.1 34 7).1
            have g28 : (hx.2.1 34 7).toInt ≤ 7 := (hvx.2.1 34 7).2
            have g29 : (hx.2.1 34 1).toInt = u34_1.toInt := by rw [← (show u34_1 = hx.2.1 34 1 from u34_1w)] <;> exact (ti_rfl u34_1)
            have g30 : (hx.2.1 34 7).toInt = u34_7.toInt := by rw [← (show u34_7 = hx.2.1 34 7 from u34_7w)] <;> exact (ti_rfl u34_7)
            have g31 : (hx.2.1 34 2).toInt = v3.toInt := by rw [← (show v3 = hx.2.1 34 2 from v3w)] <;> exact (ti_rfl v3)
            refine gi_getF (pc := 64) (q := 1) hvx fL_X3_9 rfl (Nat.le_of_ble_eq_true rfl) rfl (hvx.tx (by omega)) dX3_look_64 ?_
            refine go_aload_n (pc := 67) rfl dX3_look_67 ?_
            refine gi_get (pc := 68) (lo := 0) (hi := 500) hvx fL_X3_19 rfl (Nat.le_of_ble_eq_true rfl) rfl rfl dX3_look_68 (fun v32 v32l v32u v32w => ?_)
            have v32r : v3 = hx.2.1 34 2 := v3w
            have v32q : TI v32 v3.toInt := by rw [v32w.trans v32r.symm]; exact (ti_rfl v3)
            refine gi_bald (pc := 71) (lo := -128) (hi := 127) (len := 500) hvx v32q rfl (by omega) (by omega) (fun _ => rfl) dX3_look_71 (fun v33 v33l v33u v33w => ?_)
            have k34 := bd_e k22 (congrArg Int32.toInt v33w.symm)
            refine go_sipush (pc := 72) (v := 255) (by decide) dX3_look_72 ?_
            refine gx_iand (pc := 75) dX3_look_75 (fun v35 v35x => ?_)
            have v35l : 0 ≤ v35.toInt := by rw [v35x]; exact (ti_mask (ti_c (v := 255) (a := 255) (by decide)) (by omega)).1
            have v35u : v35.toInt ≤ 255 := by rw [v35x]; exact (ti_mask (ti_c (v := 255) (a := 255) (by decide)) (by omega)).2
            have k36 := bd_e k34 (so_iand (ti_rfl v33) (ti_c (v := 255) (a := 255) (by decide)) v35x)
            refine go_goto (pc := 76) (tgt := 80) (by decide) dX3_look_76 ?_
            have g37 : (0 : Int) ≤ (hx.2.1 34 1).toInt := (hvx.2.1 34 1).1
            have g38 : (hx.2.1 34 1).toInt ≤ 500 := (hvx.2.1 34 1).2
            have g39 : (0 : Int) ≤ (hx.2.1 34 2).toInt := (hvx.2.1 34 2).1
            have g40 : (hx.2.1 34 2).toInt ≤ 500 := (hvx.2.1 34 2).2
            have g41 : (0 : Int) ≤ (hx.2.1 34 7).toInt := (hvx.2.1 34 7).1
            have g42 : (hx.2.1 34 7).toInt ≤ 7 := (hvx.2.1 34 7).2
            have g43 : (hx.2.1 34 1).toInt = u34_1.toInt := by rw [← (show u34_1 = hx.2.1 34 1 from u34_1w)] <;> exact (ti_rfl u34_1)
            have g44 : (hx.2.1 34 7).toInt = u34_7.toInt := by rw [← (show u34_7 = hx.2.1 34 7 from u34_7w)] <;> exact (ti_rfl u34_7)
            have g45 : (hx.2.1 34 2).toInt = v3.toInt := by rw [← (show v3 = hx.2.1 34 2 from v3w)] <;> exact (ti_rfl v3)
            exact gi_iret (pc := 80) (ti_rfl v35) ⟨_, rfl, (by rw [show (v35 : Int32).toInt = v35.toInt from (ti_rfl v35)]; omega), (by rw [show (v35 : Int32).toInt = v35.toInt from (ti_rfl v35)]; omega), hvx, (by rw [show (v35 : Int32).toInt = v35.toInt from (ti_rfl v35)]; omega), (by omega), (by omega), (k36.symm.trans kf), fxx, prx⟩ hvx dX3_look_80
        ·
          have k46 := if_f k4 (Int.not_le.mpr q7)
          refine go_aload_n (pc := 11) rfl dX3_look_11 ?_
          have g47 : (0 : Int) ≤ (hx.2.1 34 1).toInt := (hvx.2.1 34 1).1
          have g48 : (hx.2.1 34 1).toInt ≤ 500 := (hvx.2.1 34 1).2
          have g49 : (0 : Int) ≤ (hx.2.1 34 2).toInt := (hvx.2.1 34 2).1
          have g50 : (hx.2.1 34 2).toInt ≤ 500 := (hvx.2.1 34 2).2
          have g51 : (0 : Int) ≤ (hx.2.1 34 7).toInt := (hvx.2.1 34 7).1
          have g52 : (hx.2.1 34 7).toInt ≤ 7 := (hvx.2.1 34 7).2
          have g53 : (hx.2.1 34 1).toInt = u34_1.toInt := by rw [← (show u34_1 = hx.2.1 34 1 from u34_1w)] <;> exact (ti_rfl u34_1)
          have g54 : (hx.2.1 34 7).toInt = u34_7.toInt := by rw [← (show u34_7 = hx.2.1 34 7 from u34_7w)] <;> exact (ti_rfl u34_7)
          have g55 : (hx.2.1 34 2).toInt = v3.toInt := by rw [← (show v3 = hx.2.1 34 2 from v3w)] <;> exact (ti_rfl v3)
          refine gi_getF (pc := 12) (q := 1) hvx fL_X3_9 rfl (Nat.le_of_ble_eq_true rfl) rfl (hvx.tx (by omega)) dX3_look_12 ?_
          refine go_aload_n (pc := 15) rfl dX3_look_15 ?_
          refine gi_get (pc := 16) (lo := 0) (hi := 500) hvx fL_X3_19 rfl (Nat.le_of_ble_eq_true rfl) rfl rfl dX3_look_16 (fun v56 v56l v56u v56w => ?_)
          have v56r : v3 = hx.2.1 34 2 := v3w
          have v56q : TI v56 v3.toInt := by rw [v56w.trans v56r.symm]; exact (ti_rfl v3)
          refine gi_bald (pc := 19) (lo := -128) (hi := 127) (len := 500) hvx v56q rfl (by omega) (by omega) (fun _ => rfl) dX3_look_19 (fun v57 v57l v57u v57w => ?_)
          have k58 := bd_e k46 (congrArg Int32.toInt v57w.symm)
          refine go_bipush (pc := 20) (v := 32) (by decide) dX3_look_20 ?_
          refine gf_icmp_eq (pc := 22) (tgt := 39) (ti_rfl v57) (ti_c (v := 32) (a := 32) (by decide)) (by decide) dX3_look_22 (fun q59 => ?_) (fun q59 => ?_)
          ·
            have k60 := if_t k58 q59
            refine go_aload_n (pc := 39) rfl dX3_look_39 ?_
            refine go_dup (pc := 40) rfl dX3_look_40 ?_
            refine gi_get (pc := 41) (lo := 0) (hi := 500) hvx fL_X3_19 rfl (Nat.le_of_ble_eq_true rfl) rfl rfl dX3_look_41 (fun v61 v61l v61u v61w => ?_)
            have v61r : v3 = hx.2.1 34 2 := v3w
            have v61q : TI v61 v3.toInt := by rw [v61w.trans v61r.symm]; exact (ti_rfl v3)
            refine go_iconst (pc := 44) (v := 1) (by decide) dX3_look_44 ?_
            refine gf_iadd (pc := 45) v61q (ti_c (v := 1) (a := 1) (by decide)) (by omega) (by omega) dX3_look_45 (fun v62 e63 => ?_)
            refine gi_put (pc := 46) (lo := 0) (hi := 500) hvx e63 (fP_X3_19 _) rfl (Nat.le_of_ble_eq_true rfl) rfl rfl (by omega) (by omega) rfl rfl (by decide) (by decide) (by decide) (by decide) dX3_look_46 (fun h64 hv64 hv64e => ?_)
            have pr64 : PR h → PR h64 := fun z => by rw [hv64e]; exact PR.put hvx (prx z) (by omega)
            have fx64 : FX KC0 h h64 := FX.pI fxx hv64e (by unfold KC0; omega)
            have k65 := bd_e k60 (st_I hv64e e63)
            refine go_goto (pc := 49) (tgt := 0) (by decide) dX3_look_49 ?_
            have g66 : (0 : Int) ≤ (h64.2.1 34 1).toInt := (hv64.2.1 34 1).1
            have g67 : (h64.2.1 34 1).toInt ≤ 500 := (hv64.2.1 34 1).2
            have g68 : (0 : Int) ≤ (h64.2.1 34 2).toInt := (hv64.2.1 34 2).1
            have g69 : (h64.2.1 34 2).toInt ≤ 500 := (hv64.2.1 34 2).2
            have g70 : (0 : Int) ≤ (h64.2.1 34 7).toInt := (hv64.2.1 34 7).1
            have g71 : (h64.2.1 34 7).toInt ≤ 7 := (hv64.2.1 34 7).2
            have g72 : (h64.2.1 34 1).toInt = u34_1.toInt := by rw [← (show u34_1 = h64.2.1 34 1 from (show u34_1 = h64.2.1 34 1 from by rw [hv64e]; exact (g_iI rfl u34_1w.symm).symm))] <;> exact (ti_rfl u34_1)
            have g73 : (h64.2.1 34 7).toInt = u34_7.toInt := by rw [← (show u34_7 = h64.2.1 34 7 from (show u34_7 = h64.2.1 34 7 from by rw [hv64e]; exact (g_iI rfl u34_7w.symm).symm))] <;> exact (ti_rfl u34_7)
            have g74 : (h64.2.1 34 2).toInt = (v3.toInt + 1) := by rw [← (show v62 = h64.2.1 34 2 from (show v62 = h64.2.1 34 2 from by rw [hv64e]; exact g_iS.symm))] <;> exact e63
            exact go_lv rfl (ih  h64 hv64 pr64 (by omega) (by omega) (by omega) (by omega) (by omega) (by omega) (by omega) (by omega) fx64 k65 (by omega))
          ·
            have k75 := if_f k58 q59
            refine go_aload_n (pc := 25) rfl dX3_look_25 ?_
            have g76 : (0 : Int) ≤ (hx.2.1 34 1).toInt := (hvx.2.1 34 1).1
            have g77 : (hx.2.1 34 1).toInt ≤ 500 := (hvx.2.1 34 1).2
            have g78 : (0 : Int) ≤ (hx.2.1 34 2).toInt := (hvx.2.1 34 2).1
            have g79 : (hx.2.1 34 2).toInt ≤ 500 := (hvx.2.1 34 2).2
            have g80 : (0 : Int) ≤ (hx.2.1 34 7).toInt := (hvx.2.1 34 7).1
            have g81 : (hx.2.1 34 7).toInt ≤ 7 := (hvx.2.1 34 7).2
            have g82 : (hx.2.1 34 1).toInt = u34_1.toInt := by rw [← (show u34_1 = hx.2.1 34 1 from u34_1w)] <;> exact (ti_rfl u34_1)
            have g83 : (hx.2.1 34 7).toInt = u34_7.toInt := by rw [← (show u34_7 = hx.2.1 34 7 from u34_7w)] <;> exact (ti_rfl u34_7)
            have g84 : (hx.2.1 34 2).toInt = v3.toInt := by rw [← (show v3 = hx.2.1 34 2 from v3w)] <;> exact (ti_rfl v3)
            refine gi_getF (pc := 26) (q := 1) hvx fL_X3_9 rfl (Nat.le_of_ble_eq_true rfl) rfl (hvx.tx (by omega)) dX3_look_26 ?_
            refine go_aload_n (pc := 29) rfl dX3_look_29 ?_
            refine gi_get (pc := 30) (lo := 0) (hi := 500) hvx fL_X3_19 rfl (Nat.le_of_ble_eq_true rfl) rfl rfl dX3_look_30 (fun v85 v85l v85u v85w => ?_)
            have v85r : v3 = hx.2.1 34 2 := v3w
            have v85q : TI v85 v3.toInt := by rw [v85w.trans v85r.symm]; exact (ti_rfl v3)
            refine gi_bald (pc := 33) (lo := -128) (hi := 127) (len := 500) hvx v85q rfl (by omega) (by omega) (fun _ => rfl) dX3_look_33 (fun v86 v86l v86u v86w => ?_)
            have k87 := bd_e k75 (congrArg Int32.toInt v86w.symm)
            refine go_bipush (pc := 34) (v := 10) (by decide) dX3_look_34 ?_
            refine gf_icmp_ne (pc := 36) (tgt := 52) (ti_rfl v86) (ti_c (v := 10) (a := 10) (by decide)) (by decide) dX3_look_36 (fun q88 => ?_) (fun q88 => ?_)
            ·
              have k89 := if_t k87 q88
              refine go_aload_n (pc := 52) rfl dX3_look_52 ?_
              refine gi_get (pc := 53) (lo := 0) (hi := 500) hvx fL_X3_19 rfl (Nat.le_of_ble_eq_true rfl) rfl rfl dX3_look_53 (fun v90 v90l v90u v90w => ?_)
              have v90r : v3 = hx.2.1 34 2 := v3w
              have v90q : TI v90 v3.toInt := by rw [v90w.trans v90r.symm]; exact (ti_rfl v3)
              refine go_aload_n (pc := 56) rfl dX3_look_56 ?_
              refine gi_get (pc := 57) (lo := 0) (hi := 500) hvx fL_X3_15 rfl (Nat.le_of_ble_eq_true rfl) rfl rfl dX3_look_57 (fun v91 v91l v91u v91w => ?_)
              have v91r : u34_1 = hx.2.1 34 1 := u34_1w
              have v91q : TI v91 u34_1.toInt := by rw [v91w.trans v91r.symm]; exact (ti_rfl u34_1)
              refine gf_icmp_ge (pc := 60) (tgt := 79) v90q v91q (by decide) dX3_look_60 (fun q92 => ?_) (fun q92 => ?_)
              ·
                have k93 := if_t k89 q92
                refine go_iconst (pc := 79) (v := (-1)) (by decide) dX3_look_79 ?_
                have g94 : (0 : Int) ≤ (hx.2.1 34 1).toInt := (hvx.2.1 34 1).1
                have g95 : (hx.2.1 34 1).toInt ≤ 500 := (hvx.2.1 34 1).2
                have g96 : (0 : Int) ≤ (hx.2.1 34 2).toInt := (hvx.2.1 34 2).1
                have g97 : (hx.2.1 34 2).toInt ≤ 500 := (hvx.2.1 34 2).2
                have g98 : (0 : Int) ≤ (hx.2.1 34 7).toInt := (hvx.2.1 34 7).1
                have g99 : (hx.2.1 34 7).toInt ≤ 7 := (hvx.2.1 34 7).2
                have g100 : (hx.2.1 34 1).toInt = u34_1.toInt := by rw [← (show u34_1 = hx.2.1 34 1 from u34_1w)] <;> exact (ti_rfl u34_1)
                have g101 : (hx.2.1 34 7).toInt = u34_7.toInt := by rw [← (show u34_7 = hx.2.1 34 7 from u34_7w)] <;> exact (ti_rfl u34_7)
                have g102 : (hx.2.1 34 2).toInt = v3.toInt := by rw [← (show v3 = hx.2.1 34 2 from v3w)] <;> exact (ti_rfl v3)
                exact gi_iret (pc := 80) (ti_c (v := (-1)) (a := (-1)) (by decide)) ⟨_, rfl, (by rw [show ((-1) : Int32).toInt = (-1) from (ti_c (v := (-1)) (a := (-1)) (by decide))]; omega), (by rw [show ((-1) : Int32).toInt = (-1) from (ti_c (v := (-1)) (a := (-1)) (by decide))]; omega), hvx, (by rw [show ((-1) : Int32).toInt = (-1) from (ti_c (v := (-1)) (a := (-1)) (by decide))]; omega), (by omega), (by omega), (by rw [show ((-1) : Int32).toInt = (-1) from (ti_c (v := (-1)) (a := (-1)) (by decide))]; exact k93.symm.trans kf), fxx, prx⟩ hvx dX3_look_80
              ·
                have k103 := if_f k89 (Int.not_le.mpr q92)
                refine go_aload_n (pc := 63) rfl dX3_look_63 ?_
                have g104 : (0 : Int) ≤ (hx.2.1 34 1).toInt := (hvx.2.1 34 1).1
                have g105 : (hx.2.1 34 1).toInt ≤ 500 := (hvx.2.1 34 1).2
                have g106 : (0 : Int) ≤ (hx.2.1 34 2).toInt := (hvx.2.1 34 2).1
                have g107 : (hx.2.1 34 2).toInt ≤ 500 := (hvx.2.1 34 2).2
                have g108 : (0 : Int) ≤ (hx.2.1 34 7).toInt := (hvx.2.1 34 7).1
                have g109 : (hx.2.1 34 7).toInt ≤ 7 := (hvx.2.1 34 7).2
                have g110 : (hx.2.1 34 1).toInt = u34_1.toInt := by rw [← (show u34_1 = hx.2.1 34 1 from u34_1w)] <;> exact (ti_rfl u34_1)
                have g111 : (hx.2.1 34 7).toInt = u34_7.toInt := by rw [← (show u34_7 = hx.2.1 34 7 from u34_7w)] <;> exact (ti_rfl u34_7)
                have g112 : (hx.2.1 34 2).toInt = v3.toInt := by rw [← (show v3 = hx.2.1 34 2 from v3w)] <;> exact (ti_rfl v3)
                refine gi_getF (pc := 64) (q := 1) hvx fL_X3_9 rfl (Nat.le_of_ble_eq_true rfl) rfl (hvx.tx (by omega)) dX3_look_64 ?_
                refine go_aload_n (pc := 67) rfl dX3_look_67 ?_
                refine gi_get (pc := 68) (lo := 0) (hi := 500) hvx fL_X3_19 rfl (Nat.le_of_ble_eq_true rfl) rfl rfl dX3_look_68 (fun v113 v113l v113u v113w => ?_)
                have v113r : v3 = hx.2.1 34 2 := v3w
                have v113q : TI v113 v3.toInt := by rw [v113w.trans v113r.symm]; exact (ti_rfl v3)
                refine gi_bald (pc := 71) (lo := -128) (hi := 127) (len := 500) hvx v113q rfl (by omega) (by omega) (fun _ => rfl) dX3_look_71 (fun v114 v114l v114u v114w => ?_)
                have k115 := bd_e k103 (congrArg Int32.toInt v114w.symm)
                refine go_sipush (pc := 72) (v := 255) (by decide) dX3_look_72 ?_
                refine gx_iand (pc := 75) dX3_look_75 (fun v116 v116x => ?_)
                have v116l : 0 ≤ v116.toInt := by rw [v116x]; exact (ti_mask (ti_c (v := 255) (a := 255) (by decide)) (by omega)).1
                have v116u : v116.toInt ≤ 255 := by rw [v116x]; exact (ti_mask (ti_c (v := 255) (a := 255) (by decide)) (by omega)).2
                have k117 := bd_e k115 (so_iand (ti_rfl v114) (ti_c (v := 255) (a := 255) (by decide)) v116x)
                refine go_goto (pc := 76) (tgt := 80) (by decide) dX3_look_76 ?_
                have g118 : (0 : Int) ≤ (hx.2.1 34 1).toInt := (hvx.2.1 34 1).1
                have g119 : (hx.2.1 34 1).toInt ≤ 500 := (hvx.2.1 34 1).2
                have g120 : (0 : Int) ≤ (hx.2.1 34 2).toInt := (hvx.2.1 34 2).1
                have g121 : (hx.2.1 34 2).toInt ≤ 500 := (hvx.2.1 34 2).2
                have g122 : (0 : Int) ≤ (hx.2.1 34 7).toInt := (hvx.2.1 34 7).1
                have g123 : (hx.2.1 34 7).toInt ≤ 7 := (hvx.2.1 34 7).2
                have g124 : (hx.2.1 34 1).toInt = u34_1.toInt := by rw [← (show u34_1 = hx.2.1 34 1 from u34_1w)] <;> exact (ti_rfl u34_1)
                have g125 : (hx.2.1 34 7).toInt = u34_7.toInt := by rw [← (show u34_7 = hx.2.1 34 7 from u34_7w)] <;> exact (ti_rfl u34_7)
                have g126 : (hx.2.1 34 2).toInt = v3.toInt := by rw [← (show v3 = hx.2.1 34 2 from v3w)] <;> exact (ti_rfl v3)
                exact gi_iret (pc := 80) (ti_rfl v116) ⟨_, rfl, (by rw [show (v116 : Int32).toInt = v116.toInt from (ti_rfl v116)]; omega), (by rw [show (v116 : Int32).toInt = v116.toInt from (ti_rfl v116)]; omega), hvx, (by rw [show (v116 : Int32).toInt = v116.toInt from (ti_rfl v116)]; omega), (by omega), (by omega), (k117.symm.trans kf), fxx, prx⟩ hvx dX3_look_80
            ·
              have k127 := if_f k87 (fun z => z q88)
              refine go_aload_n (pc := 39) rfl dX3_look_39 ?_
              refine go_dup (pc := 40) rfl dX3_look_40 ?_
              refine gi_get (pc := 41) (lo := 0) (hi := 500) hvx fL_X3_19 rfl (Nat.le_of_ble_eq_true rfl) rfl rfl dX3_look_41 (fun v128 v128l v128u v128w => ?_)
              have v128r : v3 = hx.2.1 34 2 := v3w
              have v128q : TI v128 v3.toInt := by rw [v128w.trans v128r.symm]; exact (ti_rfl v3)
              refine go_iconst (pc := 44) (v := 1) (by decide) dX3_look_44 ?_
              refine gf_iadd (pc := 45) v128q (ti_c (v := 1) (a := 1) (by decide)) (by omega) (by omega) dX3_look_45 (fun v129 e130 => ?_)
              refine gi_put (pc := 46) (lo := 0) (hi := 500) hvx e130 (fP_X3_19 _) rfl (Nat.le_of_ble_eq_true rfl) rfl rfl (by omega) (by omega) rfl rfl (by decide) (by decide) (by decide) (by decide) dX3_look_46 (fun h131 hv131 hv131e => ?_)
              have pr131 : PR h → PR h131 := fun z => by rw [hv131e]; exact PR.put hvx (prx z) (by omega)
              have fx131 : FX KC0 h h131 := FX.pI fxx hv131e (by unfold KC0; omega)
              have k132 := bd_e k127 (st_I hv131e e130)
              refine go_goto (pc := 49) (tgt := 0) (by decide) dX3_look_49 ?_
              have g133 : (0 : Int) ≤ (h131.2.1 34 1).toInt := (hv131.2.1 34 1).1
              have g134 : (h131.2.1 34 1).toInt ≤ 500 := (hv131.2.1 34 1).2
              have g135 : (0 : Int) ≤ (h131.2.1 34 2).toInt := (hv131.2.1 34 2).1
              have g136 : (h131.2.1 34 2).toInt ≤ 500 := (hv131.2.1 34 2).2
              have g137 : (0 : Int) ≤ (h131.2.1 34 7).toInt := (hv131.2.1 34 7).1
              have g138 : (h131.2.1 34 7).toInt ≤ 7 := (hv131.2.1 34 7).2
              have g139 : (h131.2.1 34 1).toInt = u34_1.toInt := by rw [← (show u34_1 = h131.2.1 34 1 from (show u34_1 = h131.2.1 34 1 from by rw [hv131e]; exact (g_iI rfl u34_1w.symm).symm))] <;> exact (ti_rfl u34_1)
              have g140 : (h131.2.1 34 7).toInt = u34_7.toInt := by rw [← (show u34_7 = h131.2.1 34 7 from (show u34_7 = h131.2.1 34 7 from by rw [hv131e]; exact (g_iI rfl u34_7w.symm).symm))] <;> exact (ti_rfl u34_7)
              have g141 : (h131.2.1 34 2).toInt = (v3.toInt + 1) := by rw [← (show v129 = h131.2.1 34 2 from (show v129 = h131.2.1 34 2 from by rw [hv131e]; exact g_iS.symm))] <;> exact e130
              exact go_lv rfl (ih  h131 hv131 pr131 (by omega) (by omega) (by omega) (by omega) (by omega) (by omega) (by omega) (by omega) fx131 k132 (by omega))
  obtain ⟨u34_1, u34_1w⟩ : ∃ v : Int32, v = h.2.1 34 1 := ⟨_, rfl⟩
  have u34_1e : (h.2.1 34 1).toInt = u34_1.toInt := by rw [u34_1w]
  have u34_1l : 0 ≤ u34_1.toInt := by rw [u34_1w]; exact (hv.2.1 34 1).1
  have u34_1u : u34_1.toInt ≤ 500 := by rw [u34_1w]; exact (hv.2.1 34 1).2
  obtain ⟨u34_7, u34_7w⟩ : ∃ v : Int32, v = h.2.1 34 7 := ⟨_, rfl⟩
  have u34_7e : (h.2.1 34 7).toInt = u34_7.toInt := by rw [u34_7w]
  have u34_7l : 0 ≤ u34_7.toInt := by rw [u34_7w]; exact (hv.2.1 34 7).1
  have u34_7u : u34_7.toInt ≤ 7 := by rw [u34_7w]; exact (hv.2.1 34 7).2
  have k142 := bd_e k0 (congrArg Int32.toInt u34_1w.symm)
  have k143 := bd_e k142 (congrArg Int32.toInt u34_7w.symm)
  have g144 : (0 : Int) ≤ (h.2.1 34 1).toInt := (hv.2.1 34 1).1
  have g145 : (h.2.1 34 1).toInt ≤ 500 := (hv.2.1 34 1).2
  have g146 : (0 : Int) ≤ (h.2.1 34 2).toInt := (hv.2.1 34 2).1
  have g147 : (h.2.1 34 2).toInt ≤ 500 := (hv.2.1 34 2).2
  have g148 : (0 : Int) ≤ (h.2.1 34 7).toInt := (hv.2.1 34 7).1
  have g149 : (h.2.1 34 7).toInt ≤ 7 := (hv.2.1 34 7).2
  have g150 : (h.2.1 34 1).toInt = u34_1.toInt := by rw [← (show u34_1 = h.2.1 34 1 from u34_1w)] <;> exact (ti_rfl u34_1)
  have g151 : (h.2.1 34 7).toInt = u34_7.toInt := by rw [← (show u34_7 = h.2.1 34 7 from u34_7w)] <;> exact (ti_rfl u34_7)
  exact go_lv rfl ((key 1519)  h hv pr (by omega) (by omega) (by omega) (by omega) (by omega) (by omega) (by omega) (by omega) fx k143 (by omega))
def f_X3_take (s : ST) (a2 : Int) : ST :=
  bd2 (f_X3_look s) fun s11 v17 => bd (s11.1 34 2) fun u21 => if ¬ v17 = a2 then (bd (f_X3_blame s11 1 u21) fun s37 => s37) else (bd (sI s11 34 2 ((u21 + 1))) fun s64 => s64)
set_option maxHeartbeats 4000000 in
set_option maxRecDepth 100000 in
theorem s_X3_take_f (l : Launch) (d : Nat) {P : PP} {h : HP} (hv : Iv P h) (a2 : Int32) (a2l : 0 ≤ a2.toInt) (a2u : a2.toInt ≤ 255) : Mt l yX3_take cX3_take 2 none (d + 2) [.ref 34, .int a2] h 0 0 (fun r h' => r = none ∧ Iv P h' ∧ ((h'.2.1 34 1).toInt = (h.2.1 34 1).toInt) ∧ ((h'.2.1 34 7).toInt = (h.2.1 34 7).toInt) ∧ (st h' = f_X3_take (st h) a2.toInt) ∧ (FX KC0 h h') ∧ (PR h → PR h')) := by
  refine Mt_iv hv (by decide) (Nat.le_of_ble_eq_true rfl) ?_
  show Go l RX3 cX3_take 2 (g_rm (d + 2) 0 0) "take" none 117 0 0 (fun _ _ => True) (fun r h' => r = none ∧ Iv P h' ∧ ((h'.2.1 34 1).toInt = (h.2.1 34 1).toInt) ∧ ((h'.2.1 34 7).toInt = (h.2.1 34 7).toInt) ∧ (st h' = f_X3_take (st h) a2.toInt) ∧ (FX KC0 h h') ∧ (PR h → PR h')) 0 0 [(0, .ref 34), (1, .int a2)] [] h
  have pr : PR h → PR h := id
  have fx : FX KC0 h h := FX.rfl
  obtain ⟨fin, kf⟩ : ∃ z, z = f_X3_take (st h) a2.toInt := ⟨_, _root_.rfl⟩
  have k0 := kf
  unfold f_X3_take at k0
  obtain ⟨u34_1, u34_1w⟩ : ∃ v : Int32, v = h.2.1 34 1 := ⟨_, rfl⟩
  have u34_1e : (h.2.1 34 1).toInt = u34_1.toInt := by rw [u34_1w]
  have u34_1l : 0 ≤ u34_1.toInt := by rw [u34_1w]; exact (hv.2.1 34 1).1
  have u34_1u : u34_1.toInt ≤ 500 := by rw [u34_1w]; exact (hv.2.1 34 1).2
  obtain ⟨u34_7, u34_7w⟩ : ∃ v : Int32, v = h.2.1 34 7 := ⟨_, rfl⟩
  have u34_7e : (h.2.1 34 7).toInt = u34_7.toInt := by rw [u34_7w]
  have u34_7l : 0 ≤ u34_7.toInt := by rw [u34_7w]; exact (hv.2.1 34 7).1
  have u34_7u : u34_7.toInt ≤ 7 := by rw [u34_7w]; exact (hv.2.1 34 7).2
  have k1 := k0
  have k2 := k1
  refine go_aload_n (pc := 0) rfl dX3_take_0 ?_
  have g3 : (0 : Int) ≤ (h.2.1 34 1).toInt := (hv.2.1 34 1).1
  have g4 : (h.2.1 34 1).toInt ≤ 500 := (hv.2.1 34 1).2
  have g5 : (0 : Int) ≤ (h.2.1 34 2).toInt := (hv.2.1 34 2).1
  have g6 : (h.2.1 34 2).toInt ≤ 500 := (hv.2.1 34 2).2
  have g7 : (0 : Int) ≤ (h.2.1 34 7).toInt := (hv.2.1 34 7).1
  have g8 : (h.2.1 34 7).toInt ≤ 7 := (hv.2.1 34 7).2
  have g9 : (h.2.1 34 1).toInt = u34_1.toInt := by rw [← (show u34_1 = h.2.1 34 1 from u34_1w)] <;> exact (ti_rfl u34_1)
  have g10 : (h.2.1 34 7).toInt = u34_7.toInt := by rw [← (show u34_7 = h.2.1 34 7 from u34_7w)] <;> exact (ti_rfl u34_7)
  refine go_invV (pc := 1) (sl := 0) (s_X3_look_f l (d + 0) hv ) mL_X3_66 iM_X3_look sM_X3_look (hv.sh rfl) rfl rfl rfl (Nat.le_of_ble_eq_true rfl) (show d + 0 + 1 + 1 ≤ d + 2 by omega) (show 8 + (1 + 11) + 40 * (d + 0 + 1) ≤ 40 * (d + 2) by omega) (g_c0 hv.ln) (Nat.le_of_ble_eq_true rfl) dX3_take_1 ?_
  intro r h11 hq _
  obtain ⟨v17, rfl, v17l, v17u, hv11, f12, f13, f14, f15, f16, pt11⟩ := hq
  have pr11 : PR h → PR h11 := fun z => pt11 (pr z)
  have fx11 : FX KC0 h h11 := FX.tr fx f16
  have k18 := bd2_e k2 f15
  obtain ⟨u19, u19w⟩ : ∃ v : Int32, v = h11.2.1 34 1 := ⟨_, rfl⟩
  have u19e : (h11.2.1 34 1).toInt = u19.toInt := by rw [u19w]
  have u19l : 0 ≤ u19.toInt := by rw [u19w]; exact (hv11.2.1 34 1).1
  have u19u : u19.toInt ≤ 500 := by rw [u19w]; exact (hv11.2.1 34 1).2
  have k20 := k18
  obtain ⟨u21, u21w⟩ : ∃ v : Int32, v = h11.2.1 34 2 := ⟨_, rfl⟩
  have u21e : (h11.2.1 34 2).toInt = u21.toInt := by rw [u21w]
  have u21l : 0 ≤ u21.toInt := by rw [u21w]; exact (hv11.2.1 34 2).1
  have u21u : u21.toInt ≤ 500 := by rw [u21w]; exact (hv11.2.1 34 2).2
  have k22 := bd_e k20 (congrArg Int32.toInt u21w.symm)
  obtain ⟨u23, u23w⟩ : ∃ v : Int32, v = h11.2.1 34 7 := ⟨_, rfl⟩
  have u23e : (h11.2.1 34 7).toInt = u23.toInt := by rw [u23w]
  have u23l : 0 ≤ u23.toInt := by rw [u23w]; exact (hv11.2.1 34 7).1
  have u23u : u23.toInt ≤ 7 := by rw [u23w]; exact (hv11.2.1 34 7).2
  have k24 := k22
  refine go_iload_n (pc := 4) rfl dX3_take_4 ?_
  refine gf_icmp_ne (pc := 5) (tgt := 21) (ti_rfl v17) (ti_rfl a2) (by decide) dX3_take_5 (fun q25 => ?_) (fun q25 => ?_)
  ·
    have k26 := if_t k24 q25
    refine go_aload_n (pc := 21) rfl dX3_take_21 ?_
    refine go_iconst (pc := 22) (v := 1) (by decide) dX3_take_22 ?_
    refine go_aload_n (pc := 23) rfl dX3_take_23 ?_
    refine gi_get (pc := 24) (lo := 0) (hi := 500) hv11 fL_X3_19 rfl (Nat.le_of_ble_eq_true rfl) rfl rfl dX3_take_24 (fun v27 v27l v27u v27w => ?_)
    have v27r : u21 = h11.2.1 34 2 := u21w
    have v27q : TI v27 u21.toInt := by rw [v27w.trans v27r.symm]; exact (ti_rfl u21)
    have g28 : (0 : Int) ≤ (h11.2.1 34 1).toInt := (hv11.2.1 34 1).1
    have g29 : (h11.2.1 34 1).toInt ≤ 500 := (hv11.2.1 34 1).2
    have g30 : (0 : Int) ≤ (h11.2.1 34 2).toInt := (hv11.2.1 34 2).1
    have g31 : (h11.2.1 34 2).toInt ≤ 500 := (hv11.2.1 34 2).2
    have g32 : (0 : Int) ≤ (h11.2.1 34 7).toInt := (hv11.2.1 34 7).1
    have g33 : (h11.2.1 34 7).toInt ≤ 7 := (hv11.2.1 34 7).2
    have g34 : (h11.2.1 34 1).toInt = u19.toInt := by rw [← (show u19 = h11.2.1 34 1 from u19w)] <;> exact (ti_rfl u19)
    have g35 : (h11.2.1 34 2).toInt = u21.toInt := by rw [← (show u21 = h11.2.1 34 2 from u21w)] <;> exact (ti_rfl u21)
    have g36 : (h11.2.1 34 7).toInt = u23.toInt := by rw [← (show u23 = h11.2.1 34 7 from u23w)] <;> exact (ti_rfl u23)
    refine go_invV (pc := 27) (sl := 0) (s_X3_blame_f l (d + 0) hv11 1 (by rw [show (1 : Int32).toInt = 1 from (ti_c (v := 1) (a := 1) (by decide))]; omega) (by rw [show (1 : Int32).toInt = 1 from (ti_c (v := 1) (a := 1) (by decide))]; omega) v27 (by rw [show (v27 : Int32).toInt = u21.toInt from v27q]; omega) (by rw [show (v27 : Int32).toInt = u21.toInt from v27q]; omega)) mL_X3_101 iM_X3_blame sM_X3_blame (hv11.sh rfl) rfl rfl rfl (Nat.le_of_ble_eq_true rfl) (show d + 0 + 1 + 1 ≤ d + 2 by omega) (show 8 + (3 + 11) + 40 * (d + 0 + 1) ≤ 40 * (d + 2) by omega) (g_c0 hv11.ln) (Nat.le_of_ble_eq_true rfl) dX3_take_27 ?_
    intro r h37 hq _
    obtain ⟨rfl, hv37, f38, f39, f40, f41, f42, f43, pt37⟩ := hq
    have pr37 : PR h → PR h37 := fun z => pt37 (pr11 z)
    try rw [show (1 : Int32).toInt = 1 from (ti_c (v := 1) (a := 1) (by decide))] at f38
    try rw [show (v27 : Int32).toInt = u21.toInt from v27q] at f38
    try rw [show (1 : Int32).toInt = 1 from (ti_c (v := 1) (a := 1) (by decide))] at f39
    try rw [show (v27 : Int32).toInt = u21.toInt from v27q] at f39
    try rw [show (1 : Int32).toInt = 1 from (ti_c (v := 1) (a := 1) (by decide))] at f40
    try rw [show (v27 : Int32).toInt = u21.toInt from v27q] at f40
    try rw [show (1 : Int32).toInt = 1 from (ti_c (v := 1) (a := 1) (by decide))] at f41
    try rw [show (v27 : Int32).toInt = u21.toInt from v27q] at f41
    try rw [show (1 : Int32).toInt = 1 from (ti_c (v := 1) (a := 1) (by decide))] at f42
    try rw [show (v27 : Int32).toInt = u21.toInt from v27q] at f42
    try rw [show (1 : Int32).toInt = 1 from (ti_c (v := 1) (a := 1) (by decide))] at f43
    try rw [show (v27 : Int32).toInt = u21.toInt from v27q] at f43
    have fx37 : FX KC0 h h37 := FX.tr fx11 f43
    have k44 := bd_e k26 f42.symm
    obtain ⟨u45, u45w⟩ : ∃ v : Int32, v = h37.2.1 34 1 := ⟨_, rfl⟩
    have u45e : (h37.2.1 34 1).toInt = u45.toInt := by rw [u45w]
    have u45l : 0 ≤ u45.toInt := by rw [u45w]; exact (hv37.2.1 34 1).1
    have u45u : u45.toInt ≤ 500 := by rw [u45w]; exact (hv37.2.1 34 1).2
    have k46 := k44
    obtain ⟨u47, u47w⟩ : ∃ v : Int32, v = h37.2.1 34 2 := ⟨_, rfl⟩
    have u47e : (h37.2.1 34 2).toInt = u47.toInt := by rw [u47w]
    have u47l : 0 ≤ u47.toInt := by rw [u47w]; exact (hv37.2.1 34 2).1
    have u47u : u47.toInt ≤ 500 := by rw [u47w]; exact (hv37.2.1 34 2).2
    have k48 := k46
    obtain ⟨u49, u49w⟩ : ∃ v : Int32, v = h37.2.1 34 7 := ⟨_, rfl⟩
    have u49e : (h37.2.1 34 7).toInt = u49.toInt := by rw [u49w]
    have u49l : 0 ≤ u49.toInt := by rw [u49w]; exact (hv37.2.1 34 7).1
    have u49u : u49.toInt ≤ 7 := by rw [u49w]; exact (hv37.2.1 34 7).2
    have k50 := k48
    have g51 : (0 : Int) ≤ (h37.2.1 34 1).toInt := (hv37.2.1 34 1).1
    have g52 : (h37.2.1 34 1).toInt ≤ 500 := (hv37.2.1 34 1).2
    have g53 : (0 : Int) ≤ (h37.2.1 34 2).toInt := (hv37.2.1 34 2).1
    have g54 : (h37.2.1 34 2).toInt ≤ 500 := (hv37.2.1 34 2).2
    have g55 : (0 : Int) ≤ (h37.2.1 34 7).toInt := (hv37.2.1 34 7).1
    have g56 : (h37.2.1 34 7).toInt ≤ 7 := (hv37.2.1 34 7).2
    have g57 : (h37.2.1 34 1).toInt = u45.toInt := by rw [← (show u45 = h37.2.1 34 1 from u45w)] <;> exact (ti_rfl u45)
    have g58 : (h37.2.1 34 2).toInt = u47.toInt := by rw [← (show u47 = h37.2.1 34 2 from u47w)] <;> exact (ti_rfl u47)
    have g59 : (h37.2.1 34 7).toInt = u49.toInt := by rw [← (show u49 = h37.2.1 34 7 from u49w)] <;> exact (ti_rfl u49)
    exact gi_vret (pc := 30) ⟨rfl, hv37, (by omega), (by omega), (k50.symm.trans kf), fx37, pr37⟩ hv37 dX3_take_30
  ·
    have k60 := if_f k24 (fun z => z q25)
    refine go_aload_n (pc := 8) rfl dX3_take_8 ?_
    refine go_dup (pc := 9) rfl dX3_take_9 ?_
    refine gi_get (pc := 10) (lo := 0) (hi := 500) hv11 fL_X3_19 rfl (Nat.le_of_ble_eq_true rfl) rfl rfl dX3_take_10 (fun v61 v61l v61u v61w => ?_)
    have v61r : u21 = h11.2.1 34 2 := u21w
    have v61q : TI v61 u21.toInt := by rw [v61w.trans v61r.symm]; exact (ti_rfl u21)
    refine go_iconst (pc := 13) (v := 1) (by decide) dX3_take_13 ?_
    refine gf_iadd (pc := 14) v61q (ti_c (v := 1) (a := 1) (by decide)) (by omega) (by omega) dX3_take_14 (fun v62 e63 => ?_)
    refine gi_put (pc := 15) (lo := 0) (hi := 500) hv11 e63 (fP_X3_19 _) rfl (Nat.le_of_ble_eq_true rfl) rfl rfl (by omega) (by omega) rfl rfl (by decide) (by decide) (by decide) (by decide) dX3_take_15 (fun h64 hv64 hv64e => ?_)
    have pr64 : PR h → PR h64 := fun z => by rw [hv64e]; exact PR.put hv11 (pr11 z) (by omega)
    have fx64 : FX KC0 h h64 := FX.pI fx11 hv64e (by unfold KC0; omega)
    have k65 := bd_e k60 (st_I hv64e e63)
    refine go_goto (pc := 18) (tgt := 30) (by decide) dX3_take_18 ?_
    have g66 : (0 : Int) ≤ (h64.2.1 34 1).toInt := (hv64.2.1 34 1).1
    have g67 : (h64.2.1 34 1).toInt ≤ 500 := (hv64.2.1 34 1).2
    have g68 : (0 : Int) ≤ (h64.2.1 34 2).toInt := (hv64.2.1 34 2).1
    have g69 : (h64.2.1 34 2).toInt ≤ 500 := (hv64.2.1 34 2).2
    have g70 : (0 : Int) ≤ (h64.2.1 34 7).toInt := (hv64.2.1 34 7).1
    have g71 : (h64.2.1 34 7).toInt ≤ 7 := (hv64.2.1 34 7).2
    have g72 : (h64.2.1 34 1).toInt = u19.toInt := by rw [← (show u19 = h64.2.1 34 1 from (show u19 = h64.2.1 34 1 from by rw [hv64e]; exact (g_iI rfl u19w.symm).symm))] <;> exact (ti_rfl u19)
    have g73 : (h64.2.1 34 7).toInt = u23.toInt := by rw [← (show u23 = h64.2.1 34 7 from (show u23 = h64.2.1 34 7 from by rw [hv64e]; exact (g_iI rfl u23w.symm).symm))] <;> exact (ti_rfl u23)
    have g74 : (h64.2.1 34 2).toInt = (u21.toInt + 1) := by rw [← (show v62 = h64.2.1 34 2 from (show v62 = h64.2.1 34 2 from by rw [hv64e]; exact g_iS.symm))] <;> exact e63
    exact gi_vret (pc := 30) ⟨rfl, hv64, (by omega), (by omega), (k65.symm.trans kf), fx64, pr64⟩ hv64 dX3_take_30
def f_X3_readNumber_ : Nat → Nat → Int → Int → ST → ST × Int
  | 0, _, _, _, sx => (sx, 0)
  | n + 1, _, l1, l2, sx => bd (sx.1 34 1) fun u34_1 => bd (sx.1 34 7) fun u34_7 => bd (sx.1 34 2) fun v3 => if u34_1 ≤ v3 then (if (v3 - l1) ≤ 3 then ((sx, l2)) else (bd (f_X3_blame sx 2 l1) fun s33 => (s33, l2))) else (bd (sx.1 1 (v3).toNat) fun v67 => bd (f_X3_isDigit sx v67) fun v71 => if v71 = 0 then (if (v3 - l1) ≤ 3 then ((sx, l2)) else (bd (f_X3_blame sx 2 l1) fun s99 => (s99, l2))) else (if 3 ≤ (v3 - l1) then (bd (sI sx 34 2 ((v3 + 1))) fun s131 => f_X3_readNumber_ n 7 l1 l2 s131) else (bd (o_imul l2 10) fun v143 => bd (sx.1 1 (v3).toNat) fun v155 => bd (o_iadd v143 v155) fun v157 => bd (o_isub v157 48) fun v159 => bd (sI sx 34 2 ((v3 + 1))) fun s164 => f_X3_readNumber_ n 7 l1 v159 s164)))
def f_X3_readNumber (s : ST) : ST × Int :=
  bd (s.1 34 1) fun u34_1 => bd (s.1 34 7) fun u34_7 => bd (s.1 34 2) fun v177 => f_X3_readNumber_ 1519 7 v177 0 s
set_option maxHeartbeats 4000000 in
set_option maxRecDepth 100000 in
theorem s_X3_readNumber_f (l : Launch) (d : Nat) {P : PP} {h : HP} (hv : Iv P h)  : Mt l yX3_readNumber cX3_readNumber 3 (some .int) (d + 2) [.ref 34] h 0 0 (fun r h' => ∃ v : Int32, r = some (.int v) ∧ -2147483648 ≤ v.toInt ∧ v.toInt ≤ 2147483647 ∧ Iv P h' ∧ ((h'.2.1 34 1).toInt = (h.2.1 34 1).toInt) ∧ ((h'.2.1 34 7).toInt = (h.2.1 34 7).toInt) ∧ ((st h', v.toInt) = f_X3_readNumber (st h)) ∧ (FX KC0 h h') ∧ (PR h → PR h')) := by
  refine Mt_iv hv (by decide) (Nat.le_of_ble_eq_true rfl) ?_
  show Go l RX3 cX3_readNumber 3 (g_rm (d + 2) 0 0) "readNumber" (some .int) 117 0 0 (fun _ _ => True) (fun r h' => ∃ v : Int32, r = some (.int v) ∧ -2147483648 ≤ v.toInt ∧ v.toInt ≤ 2147483647 ∧ Iv P h' ∧ ((h'.2.1 34 1).toInt = (h.2.1 34 1).toInt) ∧ ((h'.2.1 34 7).toInt = (h.2.1 34 7).toInt) ∧ ((st h', v.toInt) = f_X3_readNumber (st h)) ∧ (FX KC0 h h') ∧ (PR h → PR h')) 0 0 [(0, .ref 34)] [] h
  have pr : PR h → PR h := id
  have fx : FX KC0 h h := FX.rfl
  obtain ⟨fin, kf⟩ : ∃ z, z = f_X3_readNumber (st h) := ⟨_, _root_.rfl⟩
  have k0 := kf
  unfold f_X3_readNumber at k0
  have key : ∀ n : Nat, (∀ (l1 : Int32) (l2 : Int32) (hx : HP), Iv P hx → 0 ≤ l1.toInt → l1.toInt ≤ 500 → (PR h → PR hx) → (hx.2.1 34 1).toInt = (h.2.1 34 1).toInt → (hx.2.1 34 7).toInt = (h.2.1 34 7).toInt → (0 : Int) ≤ (hx.2.1 34 1).toInt → (hx.2.1 34 1).toInt ≤ 500 → (0 : Int) ≤ (hx.2.1 34 2).toInt → (hx.2.1 34 2).toInt ≤ 500 → (0 : Int) ≤ (hx.2.1 34 7).toInt → (hx.2.1 34 7).toInt ≤ 7 → FX KC0 h hx → fin = f_X3_readNumber_ n 7 l1.toInt l2.toInt (st hx) → (3 * (500 - (hx.2.1 34 2).toInt) + 2 : Int) < n → Go l RX3 cX3_readNumber 3 (g_rm (d + 2) 0 0) "readNumber" (some .int) 117 0 0 (fun _ _ => True) (fun r h' => ∃ v : Int32, r = some (.int v) ∧ -2147483648 ≤ v.toInt ∧ v.toInt ≤ 2147483647 ∧ Iv P h' ∧ ((h'.2.1 34 1).toInt = (h.2.1 34 1).toInt) ∧ ((h'.2.1 34 7).toInt = (h.2.1 34 7).toInt) ∧ ((st h', v.toInt) = f_X3_readNumber (st h)) ∧ (FX KC0 h h') ∧ (PR h → PR h')) 0 7 [(0, .ref 34), (1, .int l1), (2, .int l2)] [] hx) := by
    intro n
    induction n with
    | zero => exact (by intros; omega)
    | succ n ih =>
      refine ?_
      ·
        intro l1 l2 hx hvx l1l l1u prx t0 t1 y0l y0u y1l y1u y2l y2u fxx kL hm
        obtain ⟨u34_1, u34_1w⟩ : ∃ v : Int32, v = hx.2.1 34 1 := ⟨_, rfl⟩
        have u34_1e : (hx.2.1 34 1).toInt = u34_1.toInt := by rw [u34_1w]
        have u34_1l : 0 ≤ u34_1.toInt := by rw [u34_1w]; exact (hvx.2.1 34 1).1
        have u34_1u : u34_1.toInt ≤ 500 := by rw [u34_1w]; exact (hvx.2.1 34 1).2
        obtain ⟨u34_7, u34_7w⟩ : ∃ v : Int32, v = hx.2.1 34 7 := ⟨_, rfl⟩
        have u34_7e : (hx.2.1 34 7).toInt = u34_7.toInt := by rw [u34_7w]
        have u34_7l : 0 ≤ u34_7.toInt := by rw [u34_7w]; exact (hvx.2.1 34 7).1
        have u34_7u : u34_7.toInt ≤ 7 := by rw [u34_7w]; exact (hvx.2.1 34 7).2
        rw [f_X3_readNumber_] at kL
        have k1 := bd_e kL (congrArg Int32.toInt u34_1w.symm)
        have k2 := bd_e k1 (congrArg Int32.toInt u34_7w.symm)
        refine go_aload_n (pc := 7) rfl dX3_readNumber_7 ?_
        refine gi_get (pc := 8) (lo := 0) (hi := 500) hvx fL_X3_19 rfl (Nat.le_of_ble_eq_true rfl) rfl rfl dX3_readNumber_8 (fun v3 v3l v3u v3w => ?_)
        have k4 := bd_e k2 (congrArg Int32.toInt v3w.symm)
        have g5 : (hx.2.1 34 2).toInt = v3.toInt := by rw [v3w]
        refine go_aload_n (pc := 11) rfl dX3_readNumber_11 ?_
        refine gi_get (pc := 12) (lo := 0) (hi := 500) hvx fL_X3_15 rfl (Nat.le_of_ble_eq_true rfl) rfl rfl dX3_readNumber_12 (fun v6 v6l v6u v6w => ?_)
        have v6r : u34_1 = hx.2.1 34 1 := u34_1w
        have v6q : TI v6 u34_1.toInt := by rw [v6w.trans v6r.symm]; exact (ti_rfl u34_1)
        refine gf_icmp_ge (pc := 15) (tgt := 74) (ti_rfl v3) v6q (by decide) dX3_readNumber_15 (fun q7 => ?_) (fun q7 => ?_)
        ·
          have k8 := if_t k4 q7
          refine go_aload_n (pc := 74) rfl dX3_readNumber_74 ?_
          refine gi_get (pc := 75) (lo := 0) (hi := 500) hvx fL_X3_19 rfl (Nat.le_of_ble_eq_true rfl) rfl rfl dX3_readNumber_75 (fun v9 v9l v9u v9w => ?_)
          have v9r : v3 = hx.2.1 34 2 := v3w
          have v9q : TI v9 v3.toInt := by rw [v9w.trans v9r.symm]; exact (ti_rfl v3)
          refine go_iload_n (pc := 78) rfl dX3_readNumber_78 ?_
          refine gf_isub (pc := 79) v9q (ti_rfl l1) (by omega) (by omega) dX3_readNumber_79 (fun v10 e11 => ?_)
          refine go_iconst (pc := 80) (v := 3) (by decide) dX3_readNumber_80 ?_
          refine gf_icmp_le (pc := 81) (tgt := 90) e11 (ti_c (v := 3) (a := 3) (by decide)) (by decide) dX3_readNumber_81 (fun q12 => ?_) (fun q12 => ?_)
          ·
            have k13 := if_t k8 q12
            refine go_iload_n (pc := 90) rfl dX3_readNumber_90 ?_
            have g14 : (0 : Int) ≤ (hx.2.1 34 1).toInt := (hvx.2.1 34 1).1
            have g15 : (hx.2.1 34 1).toInt ≤ 500 := (hvx.2.1 34 1).2
            have g16 : (0 : Int) ≤ (hx.2.1 34 2).toInt := (hvx.2.1 34 2).1
            have g17 : (hx.2.1 34 2).toInt ≤ 500 := (hvx.2.1 34 2).2
            have g18 : (0 : Int) ≤ (hx.2.1 34 7).toInt := (hvx.2.1 34 7).1
            have g19 : (hx.2.1 34 7).toInt ≤ 7 := (hvx.2.1 34 7).2
            have g20 : (hx.2.1 34 1).toInt = u34_1.toInt := by rw [← (show u34_1 = hx.2.1 34 1 from u34_1w)] <;> exact (ti_rfl u34_1)
            have g21 : (hx.2.1 34 7).toInt = u34_7.toInt := by rw [← (show u34_7 = hx.2.1 34 7 from u34_7w)] <;> exact (ti_rfl u34_7)
            have g22 : (hx.2.1 34 2).toInt = v3.toInt := by rw [← (show v3 = hx.2.1 34 2 from v3w)] <;> exact (ti_rfl v3)
            exact gi_iret (pc := 91) (ti_rfl l2) ⟨_, rfl, (ti_lo _), (ti_hi _), hvx, (by omega), (by omega), (k13.symm.trans kf), fxx, prx⟩ hvx dX3_readNumber_91
          ·
            have k23 := if_f k8 (Int.not_le.mpr q12)
            refine go_aload_n (pc := 84) rfl dX3_readNumber_84 ?_
            refine go_iconst (pc := 85) (v := 2) (by decide) dX3_readNumber_85 ?_
            refine go_iload_n (pc := 86) rfl dX3_readNumber_86 ?_
            have g24 : (0 : Int) ≤ (hx.2.1 34 1).toInt := (hvx.2.1 34 1).1
            have g25 : (hx.2.1 34 1).toInt ≤ 500 := (hvx.2.1 34 1).2
            have g26 : (0 : Int) ≤ (hx.2.1 34 2).toInt := (hvx.2.1 34 2).1
            have g27 : (hx.2.1 34 2).toInt ≤ 500 := (hvx.2.1 34 2).2
            have g28 : (0 : Int) ≤ (hx.2.1 34 7).toInt := (hvx.2.1 34 7).1
            have g29 : (hx.2.1 34 7).toInt ≤ 7 := (hvx.2.1 34 7).2
            have g30 : (hx.2.1 34 1).toInt = u34_1.toInt := by rw [← (show u34_1 = hx.2.1 34 1 from u34_1w)] <;> exact (ti_rfl u34_1)
            have g31 : (hx.2.1 34 7).toInt = u34_7.toInt := by rw [← (show u34_7 = hx.2.1 34 7 from u34_7w)] <;> exact (ti_rfl u34_7)
            have g32 : (hx.2.1 34 2).toInt = v3.toInt := by rw [← (show v3 = hx.2.1 34 2 from v3w)] <;> exact (ti_rfl v3)
            refine go_invV (pc := 87) (sl := 0) (s_X3_blame_f l (d + 0) hvx 2 (by rw [show (2 : Int32).toInt = 2 from (ti_c (v := 2) (a := 2) (by decide))]; omega) (by rw [show (2 : Int32).toInt = 2 from (ti_c (v := 2) (a := 2) (by decide))]; omega) l1 (by rw [show (l1 : Int32).toInt = l1.toInt from (ti_rfl l1)]; omega) (by rw [show (l1 : Int32).toInt = l1.toInt from (ti_rfl l1)]; omega)) mL_X3_101 iM_X3_blame sM_X3_blame (hvx.sh rfl) rfl rfl rfl (Nat.le_of_ble_eq_true rfl) (show d + 0 + 1 + 1 ≤ d + 2 by omega) (show 8 + (3 + 11) + 40 * (d + 0 + 1) ≤ 40 * (d + 2) by omega) (g_c0 hvx.ln) (Nat.le_of_ble_eq_true rfl) dX3_readNumber_87 ?_
            intro r h33 hq _
            obtain ⟨rfl, hv33, f34, f35, f36, f37, f38, f39, pt33⟩ := hq
            have pr33 : PR h → PR h33 := fun z => pt33 (prx z)
            try rw [show (2 : Int32).toInt = 2 from (ti_c (v := 2) (a := 2) (by decide))] at f34
            try rw [show (2 : Int32).toInt = 2 from (ti_c (v := 2) (a := 2) (by decide))] at f35
            try rw [show (2 : Int32).toInt = 2 from (ti_c (v := 2) (a := 2) (by decide))] at f36
            try rw [show (2 : Int32).toInt = 2 from (ti_c (v := 2) (a := 2) (by decide))] at f37
            try rw [show (2 : Int32).toInt = 2 from (ti_c (v := 2) (a := 2) (by decide))] at f38
            try rw [show (2 : Int32).toInt = 2 from (ti_c (v := 2) (a := 2) (by decide))] at f39
            have fx33 : FX KC0 h h33 := FX.tr fxx f39
            have k40 := bd_e k23 f38.symm
            obtain ⟨u41, u41w⟩ : ∃ v : Int32, v = h33.2.1 34 1 := ⟨_, rfl⟩
            have u41e : (h33.2.1 34 1).toInt = u41.toInt := by rw [u41w]
            have u41l : 0 ≤ u41.toInt := by rw [u41w]; exact (hv33.2.1 34 1).1
            have u41u : u41.toInt ≤ 500 := by rw [u41w]; exact (hv33.2.1 34 1).2
            have k42 := k40
            obtain ⟨u43, u43w⟩ : ∃ v : Int32, v = h33.2.1 34 2 := ⟨_, rfl⟩
            have u43e : (h33.2.1 34 2).toInt = u43.toInt := by rw [u43w]
            have u43l : 0 ≤ u43.toInt := by rw [u43w]; exact (hv33.2.1 34 2).1
            have u43u : u43.toInt ≤ 500 := by rw [u43w]; exact (hv33.2.1 34 2).2
            have k44 := k42
            obtain ⟨u45, u45w⟩ : ∃ v : Int32, v = h33.2.1 34 7 := ⟨_, rfl⟩
            have u45e : (h33.2.1 34 7).toInt = u45.toInt := by rw [u45w]
            have u45l : 0 ≤ u45.toInt := by rw [u45w]; exact (hv33.2.1 34 7).1
            have u45u : u45.toInt ≤ 7 := by rw [u45w]; exact (hv33.2.1 34 7).2
            have k46 := k44
            refine go_iload_n (pc := 90) rfl dX3_readNumber_90 ?_
            have g47 : (0 : Int) ≤ (h33.2.1 34 1).toInt := (hv33.2.1 34 1).1
            have g48 : (h33.2.1 34 1).toInt ≤ 500 := (hv33.2.1 34 1).2
            have g49 : (0 : Int) ≤ (h33.2.1 34 2).toInt := (hv33.2.1 34 2).1
            have g50 : (h33.2.1 34 2).toInt ≤ 500 := (hv33.2.1 34 2).2
            have g51 : (0 : Int) ≤ (h33.2.1 34 7).toInt := (hv33.2.1 34 7).1
            have g52 : (h33.2.1 34 7).toInt ≤ 7 := (hv33.2.1 34 7).2
            have g53 : (h33.2.1 34 1).toInt = u41.toInt := by rw [← (show u41 = h33.2.1 34 1 from u41w)] <;> exact (ti_rfl u41)
            have g54 : (h33.2.1 34 2).toInt = u43.toInt := by rw [← (show u43 = h33.2.1 34 2 from u43w)] <;> exact (ti_rfl u43)
            have g55 : (h33.2.1 34 7).toInt = u45.toInt := by rw [← (show u45 = h33.2.1 34 7 from u45w)] <;> exact (ti_rfl u45)
            exact gi_iret (pc := 91) (ti_rfl l2) ⟨_, rfl, (ti_lo _), (ti_hi _), hv33, (by omega), (by omega), (k46.symm.trans kf), fx33, pr33⟩ hv33 dX3_readNumber_91
        ·
          have k56 := if_f k4 (Int.not_le.mpr q7)
          refine go_aload_n (pc := 18) rfl dX3_readNumber_18 ?_
          have g57 : (0 : Int) ≤ (hx.2.1 34 1).toInt := (hvx.2.1 34 1).1
          have g58 : (hx.2.1 34 1).toInt ≤ 500 := (hvx.2.1 34 1).2
          have g59 : (0 : Int) ≤ (hx.2.1 34 2).toInt := (hvx.2.1 34 2).1
          have g60 : (hx.2.1 34 2).toInt ≤ 500 := (hvx.2.1 34 2).2
          have g61 : (0 : Int) ≤ (hx.2.1 34 7).toInt := (hvx.2.1 34 7).1
          have g62 : (hx.2.1 34 7).toInt ≤ 7 := (hvx.2.1 34 7).2
          have g63 : (hx.2.1 34 1).toInt = u34_1.toInt := by rw [← (show u34_1 = hx.2.1 34 1 from u34_1w)] <;> exact (ti_rfl u34_1)
          have g64 : (hx.2.1 34 7).toInt = u34_7.toInt := by rw [← (show u34_7 = hx.2.1 34 7 from u34_7w)] <;> exact (ti_rfl u34_7)
          have g65 : (hx.2.1 34 2).toInt = v3.toInt := by rw [← (show v3 = hx.2.1 34 2 from v3w)] <;> exact (ti_rfl v3)
          refine gi_getF (pc := 19) (q := 1) hvx fL_X3_9 rfl (Nat.le_of_ble_eq_true rfl) rfl (hvx.tx (by omega)) dX3_readNumber_19 ?_
          refine go_aload_n (pc := 22) rfl dX3_readNumber_22 ?_
          refine gi_get (pc := 23) (lo := 0) (hi := 500) hvx fL_X3_19 rfl (Nat.le_of_ble_eq_true rfl) rfl rfl dX3_readNumber_23 (fun v66 v66l v66u v66w => ?_)
          have v66r : v3 = hx.2.1 34 2 := v3w
          have v66q : TI v66 v3.toInt := by rw [v66w.trans v66r.symm]; exact (ti_rfl v3)
          refine gi_bald (pc := 26) (lo := -128) (hi := 127) (len := 500) hvx v66q rfl (by omega) (by omega) (fun _ => rfl) dX3_readNumber_26 (fun v67 v67l v67u v67w => ?_)
          have k68 := bd_e k56 (congrArg Int32.toInt v67w.symm)
          refine go_invS (pc := 27) (sl := 0) (s_X3_isDigit_f l (d + 0) hvx v67) mL_X3_210 iM_X3_isDigit rfl rfl (Nat.le_of_ble_eq_true rfl) (show d + 0 + 1 + 1 ≤ d + 2 by omega) (show 8 + (1 + 11) + 40 * (d + 0 + 1) ≤ 40 * (d + 2) by omega) (g_c0 hvx.ln) (Nat.le_of_ble_eq_true rfl) dX3_readNumber_27 ?_
          intro r h69 hq _
          obtain ⟨v71, rfl, v71l, v71u, rfl, f70⟩ := hq
          replace f70 : PE _ _ := f70
          have k72 := bd_e k68 f70.symm
          refine gf_if_eq (pc := 30) (tgt := 74) (ti_rfl v71) (by decide) dX3_readNumber_30 (fun q73 => ?_) (fun q73 => ?_)
          ·
            have k74 := if_t k72 q73
            refine go_aload_n (pc := 74) rfl dX3_readNumber_74 ?_
            refine gi_get (pc := 75) (lo := 0) (hi := 500) hvx fL_X3_19 rfl (Nat.le_of_ble_eq_true rfl) rfl rfl dX3_readNumber_75 (fun v75 v75l v75u v75w => ?_)
            have v75r : v3 = hx.2.1 34 2 := v3w
            have v75q : TI v75 v3.toInt := by rw [v75w.trans v75r.symm]; exact (ti_rfl v3)
            refine go_iload_n (pc := 78) rfl dX3_readNumber_78 ?_
            refine gf_isub (pc := 79) v75q (ti_rfl l1) (by omega) (by omega) dX3_readNumber_79 (fun v76 e77 => ?_)
            refine go_iconst (pc := 80) (v := 3) (by decide) dX3_readNumber_80 ?_
            refine gf_icmp_le (pc := 81) (tgt := 90) e77 (ti_c (v := 3) (a := 3) (by decide)) (by decide) dX3_readNumber_81 (fun q78 => ?_) (fun q78 => ?_)
            ·
              have k79 := if_t k74 q78
              refine go_iload_n (pc := 90) rfl dX3_readNumber_90 ?_
              have g80 : (0 : Int) ≤ (hx.2.1 34 1).toInt := (hvx.2.1 34 1).1
              have g81 : (hx.2.1 34 1).toInt ≤ 500 := (hvx.2.1 34 1).2
              have g82 : (0 : Int) ≤ (hx.2.1 34 2).toInt := (hvx.2.1 34 2).1
              have g83 : (hx.2.1 34 2).toInt ≤ 500 := (hvx.2.1 34 2).2
              have g84 : (0 : Int) ≤ (hx.2.1 34 7).toInt := (hvx.2.1 34 7).1
              have g85 : (hx.2.1 34 7).toInt ≤ 7 := (hvx.2.1 34 7).2
              have g86 : (hx.2.1 34 1).toInt = u34_1.toInt := by rw [← (show u34_1 = hx.2.1 34 1 from u34_1w)] <;> exact (ti_rfl u34_1)
              have g87 : (hx.2.1 34 7).toInt = u34_7.toInt := by rw [← (show u34_7 = hx.2.1 34 7 from u34_7w)] <;> exact (ti_rfl u34_7)
              have g88 : (hx.2.1 34 2).toInt = v3.toInt := by rw [← (show v3 = hx.2.1 34 2 from v3w)] <;> exact (ti_rfl v3)
              exact gi_iret (pc := 91) (ti_rfl l2) ⟨_, rfl, (ti_lo _), (ti_hi _), hvx, (by omega), (by omega), (k79.symm.trans kf), fxx, prx⟩ hvx dX3_readNumber_91
            ·
              have k89 := if_f k74 (Int.not_le.mpr q78)
              refine go_aload_n (pc := 84) rfl dX3_readNumber_84 ?_
              refine go_iconst (pc := 85) (v := 2) (by decide) dX3_readNumber_85 ?_
              refine go_iload_n (pc := 86) rfl dX3_readNumber_86 ?_
              have g90 : (0 : Int) ≤ (hx.2.1 34 1).toInt := (hvx.2.1 34 1).1
              have g91 : (hx.2.1 34 1).toInt ≤ 500 := (hvx.2.1 34 1).2
              have g92 : (0 : Int) ≤ (hx.2.1 34 2).toInt := (hvx.2.1 34 2).1
              have g93 : (hx.2.1 34 2).toInt ≤ 500 := (hvx.2.1 34 2).2
              have g94 : (0 : Int) ≤ (hx.2.1 34 7).toInt := (hvx.2.1 34 7).1
              have g95 : (hx.2.1 34 7).toInt ≤ 7 := (hvx.2.1 34 7).2
              have g96 : (hx.2.1 34 1).toInt = u34_1.toInt := by rw [← (show u34_1 = hx.2.1 34 1 from u34_1w)] <;> exact (ti_rfl u34_1)
              have g97 : (hx.2.1 34 7).toInt = u34_7.toInt := by rw [← (show u34_7 = hx.2.1 34 7 from u34_7w)] <;> exact (ti_rfl u34_7)
              have g98 : (hx.2.1 34 2).toInt = v3.toInt := by rw [← (show v3 = hx.2.1 34 2 from v3w)] <;> exact (ti_rfl v3)
              refine go_invV (pc := 87) (sl := 0) (s_X3_blame_f l (d + 0) hvx 2 (by rw [show (2 : Int32).toInt = 2 from (ti_c (v := 2) (a := 2) (by decide))]; omega) (by rw [show (2 : Int32).toInt = 2 from (ti_c (v := 2) (a := 2) (by decide))]; omega) l1 (by rw [show (l1 : Int32).toInt = l1.toInt from (ti_rfl l1)]; omega) (by rw [show (l1 : Int32).toInt = l1.toInt from (ti_rfl l1)]; omega)) mL_X3_101 iM_X3_blame sM_X3_blame (hvx.sh rfl) rfl rfl rfl (Nat.le_of_ble_eq_true rfl) (show d + 0 + 1 + 1 ≤ d + 2 by omega) (show 8 + (3 + 11) + 40 * (d + 0 + 1) ≤ 40 * (d + 2) by omega) (g_c0 hvx.ln) (Nat.le_of_ble_eq_true rfl) dX3_readNumber_87 ?_
              intro r h99 hq _
              obtain ⟨rfl, hv99, f100, f101, f102, f103, f104, f105, pt99⟩ := hq
              have pr99 : PR h → PR h99 := fun z => pt99 (prx z)
              try rw [show (2 : Int32).toInt = 2 from (ti_c (v := 2) (a := 2) (by decide))] at f100
              try rw [show (2 : Int32).toInt = 2 from (ti_c (v := 2) (a := 2) (by decide))] at f101
              try rw [show (2 : Int32).toInt = 2 from (ti_c (v := 2) (a := 2) (by decide))] at f102
              try rw [show (2 : Int32).toInt = 2 from (ti_c (v := 2) (a := 2) (by decide))] at f103
              try rw [show (2 : Int32).toInt = 2 from (ti_c (v := 2) (a := 2) (by decide))] at f104
              try rw [show (2 : Int32).toInt = 2 from (ti_c (v := 2) (a := 2) (by decide))] at f105
              have fx99 : FX KC0 h h99 := FX.tr fxx f105
              have k106 := bd_e k89 f104.symm
              obtain ⟨u107, u107w⟩ : ∃ v : Int32, v = h99.2.1 34 1 := ⟨_, rfl⟩
              have u107e : (h99.2.1 34 1).toInt = u107.toInt := by rw [u107w]
              have u107l : 0 ≤ u107.toInt := by rw [u107w]; exact (hv99.2.1 34 1).1
              have u107u : u107.toInt ≤ 500 := by rw [u107w]; exact (hv99.2.1 34 1).2
              have k108 := k106
              obtain ⟨u109, u109w⟩ : ∃ v : Int32, v = h99.2.1 34 2 := ⟨_, rfl⟩
              have u109e : (h99.2.1 34 2).toInt = u109.toInt := by rw [u109w]
              have u109l : 0 ≤ u109.toInt := by rw [u109w]; exact (hv99.2.1 34 2).1
              have u109u : u109.toInt ≤ 500 := by rw [u109w]; exact (hv99.2.1 34 2).2
              have k110 := k108
              obtain ⟨u111, u111w⟩ : ∃ v : Int32, v = h99.2.1 34 7 := ⟨_, rfl⟩
              have u111e : (h99.2.1 34 7).toInt = u111.toInt := by rw [u111w]
              have u111l : 0 ≤ u111.toInt := by rw [u111w]; exact (hv99.2.1 34 7).1
              have u111u : u111.toInt ≤ 7 := by rw [u111w]; exact (hv99.2.1 34 7).2
              have k112 := k110
              refine go_iload_n (pc := 90) rfl dX3_readNumber_90 ?_
              have g113 : (0 : Int) ≤ (h99.2.1 34 1).toInt := (hv99.2.1 34 1).1
              have g114 : (h99.2.1 34 1).toInt ≤ 500 := (hv99.2.1 34 1).2
              have g115 : (0 : Int) ≤ (h99.2.1 34 2).toInt := (hv99.2.1 34 2).1
              have g116 : (h99.2.1 34 2).toInt ≤ 500 := (hv99.2.1 34 2).2
              have g117 : (0 : Int) ≤ (h99.2.1 34 7).toInt := (hv99.2.1 34 7).1
              have g118 : (h99.2.1 34 7).toInt ≤ 7 := (hv99.2.1 34 7).2
              have g119 : (h99.2.1 34 1).toInt = u107.toInt := by rw [← (show u107 = h99.2.1 34 1 from u107w)] <;> exact (ti_rfl u107)
              have g120 : (h99.2.1 34 2).toInt = u109.toInt := by rw [← (show u109 = h99.2.1 34 2 from u109w)] <;> exact (ti_rfl u109)
              have g121 : (h99.2.1 34 7).toInt = u111.toInt := by rw [← (show u111 = h99.2.1 34 7 from u111w)] <;> exact (ti_rfl u111)
              exact gi_iret (pc := 91) (ti_rfl l2) ⟨_, rfl, (ti_lo _), (ti_hi _), hv99, (by omega), (by omega), (k112.symm.trans kf), fx99, pr99⟩ hv99 dX3_readNumber_91
          ·
            have k122 := if_f k72 q73
            refine go_aload_n (pc := 33) rfl dX3_readNumber_33 ?_
            refine gi_get (pc := 34) (lo := 0) (hi := 500) hvx fL_X3_19 rfl (Nat.le_of_ble_eq_true rfl) rfl rfl dX3_readNumber_34 (fun v123 v123l v123u v123w => ?_)
            have v123r : v3 = hx.2.1 34 2 := v3w
            have v123q : TI v123 v3.toInt := by rw [v123w.trans v123r.symm]; exact (ti_rfl v3)
            refine go_iload_n (pc := 37) rfl dX3_readNumber_37 ?_
            refine gf_isub (pc := 38) v123q (ti_rfl l1) (by omega) (by omega) dX3_readNumber_38 (fun v124 e125 => ?_)
            refine go_iconst (pc := 39) (v := 3) (by decide) dX3_readNumber_39 ?_
            refine gf_icmp_ge (pc := 40) (tgt := 61) e125 (ti_c (v := 3) (a := 3) (by decide)) (by decide) dX3_readNumber_40 (fun q126 => ?_) (fun q126 => ?_)
            ·
              have k127 := if_t k122 q126
              refine go_aload_n (pc := 61) rfl dX3_readNumber_61 ?_
              refine go_dup (pc := 62) rfl dX3_readNumber_62 ?_
              refine gi_get (pc := 63) (lo := 0) (hi := 500) hvx fL_X3_19 rfl (Nat.le_of_ble_eq_true rfl) rfl rfl dX3_readNumber_63 (fun v128 v128l v128u v128w => ?_)
              have v128r : v3 = hx.2.1 34 2 := v3w
              have v128q : TI v128 v3.toInt := by rw [v128w.trans v128r.symm]; exact (ti_rfl v3)
              refine go_iconst (pc := 66) (v := 1) (by decide) dX3_readNumber_66 ?_
              refine gf_iadd (pc := 67) v128q (ti_c (v := 1) (a := 1) (by decide)) (by omega) (by omega) dX3_readNumber_67 (fun v129 e130 => ?_)
              refine gi_put (pc := 68) (lo := 0) (hi := 500) hvx e130 (fP_X3_19 _) rfl (Nat.le_of_ble_eq_true rfl) rfl rfl (by omega) (by omega) rfl rfl (by decide) (by decide) (by decide) (by decide) dX3_readNumber_68 (fun h131 hv131 hv131e => ?_)
              have pr131 : PR h → PR h131 := fun z => by rw [hv131e]; exact PR.put hvx (prx z) (by omega)
              have fx131 : FX KC0 h h131 := FX.pI fxx hv131e (by unfold KC0; omega)
              have k132 := bd_e k127 (st_I hv131e e130)
              refine go_goto (pc := 71) (tgt := 7) (by decide) dX3_readNumber_71 ?_
              have g133 : (0 : Int) ≤ (h131.2.1 34 1).toInt := (hv131.2.1 34 1).1
              have g134 : (h131.2.1 34 1).toInt ≤ 500 := (hv131.2.1 34 1).2
              have g135 : (0 : Int) ≤ (h131.2.1 34 2).toInt := (hv131.2.1 34 2).1
              have g136 : (h131.2.1 34 2).toInt ≤ 500 := (hv131.2.1 34 2).2
              have g137 : (0 : Int) ≤ (h131.2.1 34 7).toInt := (hv131.2.1 34 7).1
              have g138 : (h131.2.1 34 7).toInt ≤ 7 := (hv131.2.1 34 7).2
              have g139 : (h131.2.1 34 1).toInt = u34_1.toInt := by rw [← (show u34_1 = h131.2.1 34 1 from (show u34_1 = h131.2.1 34 1 from by rw [hv131e]; exact (g_iI rfl u34_1w.symm).symm))] <;> exact (ti_rfl u34_1)
              have g140 : (h131.2.1 34 7).toInt = u34_7.toInt := by rw [← (show u34_7 = h131.2.1 34 7 from (show u34_7 = h131.2.1 34 7 from by rw [hv131e]; exact (g_iI rfl u34_7w.symm).symm))] <;> exact (ti_rfl u34_7)
              have g141 : (h131.2.1 34 2).toInt = (v3.toInt + 1) := by rw [← (show v129 = h131.2.1 34 2 from (show v129 = h131.2.1 34 2 from by rw [hv131e]; exact g_iS.symm))] <;> exact e130
              exact go_lv rfl (ih l1 l2 h131 hv131 (by omega) (by omega) pr131 (by omega) (by omega) (by omega) (by omega) (by omega) (by omega) (by omega) (by omega) fx131 k132 (by omega))
            ·
              have k142 := if_f k122 (Int.not_le.mpr q126)
              refine go_iload_n (pc := 43) rfl dX3_readNumber_43 ?_
              refine go_bipush (pc := 44) (v := 10) (by decide) dX3_readNumber_44 ?_
              refine gx_imul (pc := 46) dX3_readNumber_46 (fun v143 v143x => ?_)
              have k144 := bd_e k142 (so_imul (ti_rfl l2) (ti_c (v := 10) (a := 10) (by decide)) v143x)
              refine go_aload_n (pc := 47) rfl dX3_readNumber_47 ?_
              have g145 : (0 : Int) ≤ (hx.2.1 34 1).toInt := (hvx.2.1 34 1).1
              have g146 : (hx.2.1 34 1).toInt ≤ 500 := (hvx.2.1 34 1).2
              have g147 : (0 : Int) ≤ (hx.2.1 34 2).toInt := (hvx.2.1 34 2).1
              have g148 : (hx.2.1 34 2).toInt ≤ 500 := (hvx.2.1 34 2).2
              have g149 : (0 : Int) ≤ (hx.2.1 34 7).toInt := (hvx.2.1 34 7).1
              have g150 : (hx.2.1 34 7).toInt ≤ 7 := (hvx.2.1 34 7).2
              have g151 : (hx.2.1 34 1).toInt = u34_1.toInt := by rw [← (show u34_1 = hx.2.1 34 1 from u34_1w)] <;> exact (ti_rfl u34_1)
              have g152 : (hx.2.1 34 7).toInt = u34_7.toInt := by rw [← (show u34_7 = hx.2.1 34 7 from u34_7w)] <;> exact (ti_rfl u34_7)
              have g153 : (hx.2.1 34 2).toInt = v3.toInt := by rw [← (show v3 = hx.2.1 34 2 from v3w)] <;> exact (ti_rfl v3)
              refine gi_getF (pc := 48) (q := 1) hvx fL_X3_9 rfl (Nat.le_of_ble_eq_true rfl) rfl (hvx.tx (by omega)) dX3_readNumber_48 ?_
              refine go_aload_n (pc := 51) rfl dX3_readNumber_51 ?_
              refine gi_get (pc := 52) (lo := 0) (hi := 500) hvx fL_X3_19 rfl (Nat.le_of_ble_eq_true rfl) rfl rfl dX3_readNumber_52 (fun v154 v154l v154u v154w => ?_)
              have v154r : v3 = hx.2.1 34 2 := v3w
              have v154q : TI v154 v3.toInt := by rw [v154w.trans v154r.symm]; exact (ti_rfl v3)
              refine gi_bald (pc := 55) (lo := -128) (hi := 127) (len := 500) hvx v154q rfl (by omega) (by omega) (fun _ => rfl) dX3_readNumber_55 (fun v155 v155l v155u v155w => ?_)
              have k156 := bd_e k144 (congrArg Int32.toInt v155w.symm)
              refine gx_iadd (pc := 56) dX3_readNumber_56 (fun v157 v157x => ?_)
              have k158 := bd_e k156 (so_iadd (ti_rfl v143) (ti_rfl v155) v157x)
              refine go_bipush (pc := 57) (v := 48) (by decide) dX3_readNumber_57 ?_
              refine gx_isub (pc := 59) dX3_readNumber_59 (fun v159 v159x => ?_)
              have k160 := bd_e k158 (so_isub (ti_rfl v157) (ti_c (v := 48) (a := 48) (by decide)) v159x)
              refine go_istore_n (pc := 60) (Nat.le_of_ble_eq_true rfl) dX3_readNumber_60 (go_lv (lv2 := [(0, .ref 34), (1, .int l1), (2, .int v159)]) rfl ?_)
              refine go_aload_n (pc := 61) rfl dX3_readNumber_61 ?_
              refine go_dup (pc := 62) rfl dX3_readNumber_62 ?_
              refine gi_get (pc := 63) (lo := 0) (hi := 500) hvx fL_X3_19 rfl (Nat.le_of_ble_eq_true rfl) rfl rfl dX3_readNumber_63 (fun v161 v161l v161u v161w => ?_)
              have v161r : v3 = hx.2.1 34 2 := v3w
              have v161q : TI v161 v3.toInt := by rw [v161w.trans v161r.symm]; exact (ti_rfl v3)
              refine go_iconst (pc := 66) (v := 1) (by decide) dX3_readNumber_66 ?_
              refine gf_iadd (pc := 67) v161q (ti_c (v := 1) (a := 1) (by decide)) (by omega) (by omega) dX3_readNumber_67 (fun v162 e163 => ?_)
              refine gi_put (pc := 68) (lo := 0) (hi := 500) hvx e163 (fP_X3_19 _) rfl (Nat.le_of_ble_eq_true rfl) rfl rfl (by omega) (by omega) rfl rfl (by decide) (by decide) (by decide) (by decide) dX3_readNumber_68 (fun h164 hv164 hv164e => ?_)
              have pr164 : PR h → PR h164 := fun z => by rw [hv164e]; exact PR.put hvx (prx z) (by omega)
              have fx164 : FX KC0 h h164 := FX.pI fxx hv164e (by unfold KC0; omega)
              have k165 := bd_e k160 (st_I hv164e e163)
              refine go_goto (pc := 71) (tgt := 7) (by decide) dX3_readNumber_71 ?_
              have g166 : (0 : Int) ≤ (h164.2.1 34 1).toInt := (hv164.2.1 34 1).1
              have g167 : (h164.2.1 34 1).toInt ≤ 500 := (hv164.2.1 34 1).2
              have g168 : (0 : Int) ≤ (h164.2.1 34 2).toInt := (hv164.2.1 34 2).1
              have g169 : (h164.2.1 34 2).toInt ≤ 500 := (hv164.2.1 34 2).2
              have g170 : (0 : Int) ≤ (h164.2.1 34 7).toInt := (hv164.2.1 34 7).1
              have g171 : (h164.2.1 34 7).toInt ≤ 7 := (hv164.2.1 34 7).2
              have g172 : (h164.2.1 34 1).toInt = u34_1.toInt := by rw [← (show u34_1 = h164.2.1 34 1 from (show u34_1 = h164.2.1 34 1 from by rw [hv164e]; exact (g_iI rfl u34_1w.symm).symm))] <;> exact (ti_rfl u34_1)
              have g173 : (h164.2.1 34 7).toInt = u34_7.toInt := by rw [← (show u34_7 = h164.2.1 34 7 from (show u34_7 = h164.2.1 34 7 from by rw [hv164e]; exact (g_iI rfl u34_7w.symm).symm))] <;> exact (ti_rfl u34_7)
              have g174 : (h164.2.1 34 2).toInt = (v3.toInt + 1) := by rw [← (show v162 = h164.2.1 34 2 from (show v162 = h164.2.1 34 2 from by rw [hv164e]; exact g_iS.symm))] <;> exact e163
              exact go_lv rfl (ih l1 v159 h164 hv164 (by omega) (by omega) pr164 (by omega) (by omega) (by omega) (by omega) (by omega) (by omega) (by omega) (by omega) fx164 k165 (by omega))
  obtain ⟨u34_1, u34_1w⟩ : ∃ v : Int32, v = h.2.1 34 1 := ⟨_, rfl⟩
  have u34_1e : (h.2.1 34 1).toInt = u34_1.toInt := by rw [u34_1w]
  have u34_1l : 0 ≤ u34_1.toInt := by rw [u34_1w]; exact (hv.2.1 34 1).1
  have u34_1u : u34_1.toInt ≤ 500 := by rw [u34_1w]; exact (hv.2.1 34 1).2
  obtain ⟨u34_7, u34_7w⟩ : ∃ v : Int32, v = h.2.1 34 7 := ⟨_, rfl⟩
  have u34_7e : (h.2.1 34 7).toInt = u34_7.toInt := by rw [u34_7w]
  have u34_7l : 0 ≤ u34_7.toInt := by rw [u34_7w]; exact (hv.2.1 34 7).1
  have u34_7u : u34_7.toInt ≤ 7 := by rw [u34_7w]; exact (hv.2.1 34 7).2
  have k175 := bd_e k0 (congrArg Int32.toInt u34_1w.symm)
  have k176 := bd_e k175 (congrArg Int32.toInt u34_7w.symm)
  refine go_aload_n (pc := 0) rfl dX3_readNumber_0 ?_
  refine gi_get (pc := 1) (lo := 0) (hi := 500) hv fL_X3_19 rfl (Nat.le_of_ble_eq_true rfl) rfl rfl dX3_readNumber_1 (fun v177 v177l v177u v177w => ?_)
  have k178 := bd_e k176 (congrArg Int32.toInt v177w.symm)
  have g179 : (h.2.1 34 2).toInt = v177.toInt := by rw [v177w]
  refine go_istore_n (pc := 4) (Nat.le_of_ble_eq_true rfl) dX3_readNumber_4 (go_lv (lv2 := [(0, .ref 34), (1, .int v177)]) rfl ?_)
  refine go_iconst (pc := 5) (v := 0) (by decide) dX3_readNumber_5 ?_
  refine go_istore_n (pc := 6) (Nat.le_of_ble_eq_true rfl) dX3_readNumber_6 (go_lv (lv2 := [(0, .ref 34), (1, .int v177), (2, .int 0)]) rfl ?_)
  have z180 : (0 : Int32).toInt = 0 := (ti_c (v := 0) (a := 0) (by decide))
  have g181 : (0 : Int) ≤ (h.2.1 34 1).toInt := (hv.2.1 34 1).1
  have g182 : (h.2.1 34 1).toInt ≤ 500 := (hv.2.1 34 1).2
  have g183 : (0 : Int) ≤ (h.2.1 34 2).toInt := (hv.2.1 34 2).1
  have g184 : (h.2.1 34 2).toInt ≤ 500 := (hv.2.1 34 2).2
  have g185 : (0 : Int) ≤ (h.2.1 34 7).toInt := (hv.2.1 34 7).1
  have g186 : (h.2.1 34 7).toInt ≤ 7 := (hv.2.1 34 7).2
  have g187 : (h.2.1 34 1).toInt = u34_1.toInt := by rw [← (show u34_1 = h.2.1 34 1 from u34_1w)] <;> exact (ti_rfl u34_1)
  have g188 : (h.2.1 34 7).toInt = u34_7.toInt := by rw [← (show u34_7 = h.2.1 34 7 from u34_7w)] <;> exact (ti_rfl u34_7)
  have g189 : (h.2.1 34 2).toInt = v177.toInt := by rw [← (show v177 = h.2.1 34 2 from v177w)] <;> exact (ti_rfl v177)
  exact go_lv rfl ((key 1519) v177 0 h hv (by omega) (by omega) pr (by omega) (by omega) (by omega) (by omega) (by omega) (by omega) (by omega) (by omega) fx (by rw [show (0 : Int32).toInt = 0 from (ti_c (v := 0) (a := 0) (by decide))]; exact k178) (by omega))
def f_X3_readOperand (s : ST) : ST × Int :=
  bd2 (f_X3_look s) fun s11 v17 => bd (s11.1 34 2) fun u21 => bd (f_X3_isDigit s11 v17) fun v27 => if v27 = 0 then (bd (f_X3_nameOf s11 v17) fun v34 => if ¬ v34 = (-1) then (bd (sI s11 34 2 ((u21 + 1))) fun s41 => (s41, v34)) else (bd (f_X3_blame s11 1 u21) fun s63 => (s63, v34))) else (bd2 (f_X3_readNumber s11) fun s96 v101 => bd (o_iadd 10 v101) fun v109 => (s96, v109))
set_option maxHeartbeats 4000000 in
set_option maxRecDepth 100000 in
theorem s_X3_readOperand_f (l : Launch) (d : Nat) {P : PP} {h : HP} (hv : Iv P h)  : Mt l yX3_readOperand cX3_readOperand 3 (some .int) (d + 3) [.ref 34] h 0 0 (fun r h' => ∃ v : Int32, r = some (.int v) ∧ -2147483648 ≤ v.toInt ∧ v.toInt ≤ 2147483647 ∧ Iv P h' ∧ ((h'.2.1 34 1).toInt = (h.2.1 34 1).toInt) ∧ ((h'.2.1 34 7).toInt = (h.2.1 34 7).toInt) ∧ ((st h', v.toInt) = f_X3_readOperand (st h)) ∧ (FX KC0 h h') ∧ (PR h → PR h')) := by
  refine Mt_iv hv (by decide) (Nat.le_of_ble_eq_true rfl) ?_
  show Go l RX3 cX3_readOperand 3 (g_rm (d + 3) 0 0) "readOperand" (some .int) 117 0 0 (fun _ _ => True) (fun r h' => ∃ v : Int32, r = some (.int v) ∧ -2147483648 ≤ v.toInt ∧ v.toInt ≤ 2147483647 ∧ Iv P h' ∧ ((h'.2.1 34 1).toInt = (h.2.1 34 1).toInt) ∧ ((h'.2.1 34 7).toInt = (h.2.1 34 7).toInt) ∧ ((st h', v.toInt) = f_X3_readOperand (st h)) ∧ (FX KC0 h h') ∧ (PR h → PR h')) 0 0 [(0, .ref 34)] [] h
  have pr : PR h → PR h := id
  have fx : FX KC0 h h := FX.rfl
  obtain ⟨fin, kf⟩ : ∃ z, z = f_X3_readOperand (st h) := ⟨_, _root_.rfl⟩
  have k0 := kf
  unfold f_X3_readOperand at k0
  obtain ⟨u34_1, u34_1w⟩ : ∃ v : Int32, v = h.2.1 34 1 := ⟨_, rfl⟩
  have u34_1e : (h.2.1 34 1).toInt = u34_1.toInt := by rw [u34_1w]
  have u34_1l : 0 ≤ u34_1.toInt := by rw [u34_1w]; exact (hv.2.1 34 1).1
  have u34_1u : u34_1.toInt ≤ 500 := by rw [u34_1w]; exact (hv.2.1 34 1).2
  obtain ⟨u34_7, u34_7w⟩ : ∃ v : Int32, v = h.2.1 34 7 := ⟨_, rfl⟩
  have u34_7e : (h.2.1 34 7).toInt = u34_7.toInt := by rw [u34_7w]
  have u34_7l : 0 ≤ u34_7.toInt := by rw [u34_7w]; exact (hv.2.1 34 7).1
  have u34_7u : u34_7.toInt ≤ 7 := by rw [u34_7w]; exact (hv.2.1 34 7).2
  have k1 := k0
  have k2 := k1
  refine go_aload_n (pc := 0) rfl dX3_readOperand_0 ?_
  have g3 : (0 : Int) ≤ (h.2.1 34 1).toInt := (hv.2.1 34 1).1
  have g4 : (h.2.1 34 1).toInt ≤ 500 := (hv.2.1 34 1).2
  have g5 : (0 : Int) ≤ (h.2.1 34 2).toInt := (hv.2.1 34 2).1
  have g6 : (h.2.1 34 2).toInt ≤ 500 := (hv.2.1 34 2).2
  have g7 : (0 : Int) ≤ (h.2.1 34 7).toInt := (hv.2.1 34 7).1
  have g8 : (h.2.1 34 7).toInt ≤ 7 := (hv.2.1 34 7).2
  have g9 : (h.2.1 34 1).toInt = u34_1.toInt := by rw [← (show u34_1 = h.2.1 34 1 from u34_1w)] <;> exact (ti_rfl u34_1)
  have g10 : (h.2.1 34 7).toInt = u34_7.toInt := by rw [← (show u34_7 = h.2.1 34 7 from u34_7w)] <;> exact (ti_rfl u34_7)
  refine go_invV (pc := 1) (sl := 0) (s_X3_look_f l (d + 1) hv ) mL_X3_66 iM_X3_look sM_X3_look (hv.sh rfl) rfl rfl rfl (Nat.le_of_ble_eq_true rfl) (show d + 1 + 1 + 1 ≤ d + 3 by omega) (show 8 + (1 + 11) + 40 * (d + 1 + 1) ≤ 40 * (d + 3) by omega) (g_c0 hv.ln) (Nat.le_of_ble_eq_true rfl) dX3_readOperand_1 ?_
  intro r h11 hq _
  obtain ⟨v17, rfl, v17l, v17u, hv11, f12, f13, f14, f15, f16, pt11⟩ := hq
  have pr11 : PR h → PR h11 := fun z => pt11 (pr z)
  have fx11 : FX KC0 h h11 := FX.tr fx f16
  have k18 := bd2_e k2 f15
  obtain ⟨u19, u19w⟩ : ∃ v : Int32, v = h11.2.1 34 1 := ⟨_, rfl⟩
  have u19e : (h11.2.1 34 1).toInt = u19.toInt := by rw [u19w]
  have u19l : 0 ≤ u19.toInt := by rw [u19w]; exact (hv11.2.1 34 1).1
  have u19u : u19.toInt ≤ 500 := by rw [u19w]; exact (hv11.2.1 34 1).2
  have k20 := k18
  obtain ⟨u21, u21w⟩ : ∃ v : Int32, v = h11.2.1 34 2 := ⟨_, rfl⟩
  have u21e : (h11.2.1 34 2).toInt = u21.toInt := by rw [u21w]
  have u21l : 0 ≤ u21.toInt := by rw [u21w]; exact (hv11.2.1 34 2).1
  have u21u : u21.toInt ≤ 500 := by rw [u21w]; exact (hv11.2.1 34 2).2
  have k22 := bd_e k20 (congrArg Int32.toInt u21w.symm)
  obtain ⟨u23, u23w⟩ : ∃ v : Int32, v = h11.2.1 34 7 := ⟨_, rfl⟩
  have u23e : (h11.2.1 34 7).toInt = u23.toInt := by rw [u23w]
  have u23l : 0 ≤ u23.toInt := by rw [u23w]; exact (hv11.2.1 34 7).1
  have u23u : u23.toInt ≤ 7 := by rw [u23w]; exact (hv11.2.1 34 7).2
  have k24 := k22
  refine go_istore_n (pc := 4) (Nat.le_of_ble_eq_true rfl) dX3_readOperand_4 (go_lv (lv2 := [(0, .ref 34), (1, .int v17)]) rfl ?_)
  refine go_iload_n (pc := 5) rfl dX3_readOperand_5 ?_
  refine go_invS (pc := 6) (sl := 0) (s_X3_isDigit_f l (d + 1) hv11 v17) mL_X3_210 iM_X3_isDigit rfl rfl (Nat.le_of_ble_eq_true rfl) (show d + 1 + 1 + 1 ≤ d + 3 by omega) (show 8 + (1 + 11) + 40 * (d + 1 + 1) ≤ 40 * (d + 3) by omega) (g_c0 hv11.ln) (Nat.le_of_ble_eq_true rfl) dX3_readOperand_6 ?_
  intro r h25 hq _
  obtain ⟨v27, rfl, v27l, v27u, rfl, f26⟩ := hq
  replace f26 : PE _ _ := f26
  have k28 := bd_e k24 f26.symm
  refine gf_if_eq (pc := 9) (tgt := 20) (ti_rfl v27) (by decide) dX3_readOperand_9 (fun q29 => ?_) (fun q29 => ?_)
  ·
    have k30 := if_t k28 q29
    refine go_iload_n (pc := 20) rfl dX3_readOperand_20 ?_
    refine go_invS (pc := 21) (sl := 0) (s_X3_nameOf_f l (d + 1) hv11 v17) mL_X3_137 iM_X3_nameOf rfl rfl (Nat.le_of_ble_eq_true rfl) (show d + 1 + 1 + 1 ≤ d + 3 by omega) (show 8 + (1 + 11) + 40 * (d + 1 + 1) ≤ 40 * (d + 3) by omega) (g_c0 hv11.ln) (Nat.le_of_ble_eq_true rfl) dX3_readOperand_21 ?_
    intro r h31 hq _
    obtain ⟨v34, rfl, v34l, v34u, rfl, f32, f33⟩ := hq
    replace f33 : PE _ _ := f33
    have k35 := bd_e k30 f33.symm
    refine go_istore_n (pc := 24) (Nat.le_of_ble_eq_true rfl) dX3_readOperand_24 (go_lv (lv2 := [(0, .ref 34), (1, .int v17), (2, .int v34)]) rfl ?_)
    refine go_iload_n (pc := 25) rfl dX3_readOperand_25 ?_
    refine go_iconst (pc := 26) (v := (-1)) (by decide) dX3_readOperand_26 ?_
    refine gf_icmp_ne (pc := 27) (tgt := 42) (ti_rfl v34) (ti_c (v := (-1)) (a := (-1)) (by decide)) (by decide) dX3_readOperand_27 (fun q36 => ?_) (fun q36 => ?_)
    ·
      have k37 := if_t k35 q36
      refine go_aload_n (pc := 42) rfl dX3_readOperand_42 ?_
      refine go_dup (pc := 43) rfl dX3_readOperand_43 ?_
      refine gi_get (pc := 44) (lo := 0) (hi := 500) hv11 fL_X3_19 rfl (Nat.le_of_ble_eq_true rfl) rfl rfl dX3_readOperand_44 (fun v38 v38l v38u v38w => ?_)
      have v38r : u21 = h11.2.1 34 2 := u21w
      have v38q : TI v38 u21.toInt := by rw [v38w.trans v38r.symm]; exact (ti_rfl u21)
      refine go_iconst (pc := 47) (v := 1) (by decide) dX3_readOperand_47 ?_
      refine gf_iadd (pc := 48) v38q (ti_c (v := 1) (a := 1) (by decide)) (by omega) (by omega) dX3_readOperand_48 (fun v39 e40 => ?_)
      refine gi_put (pc := 49) (lo := 0) (hi := 500) hv11 e40 (fP_X3_19 _) rfl (Nat.le_of_ble_eq_true rfl) rfl rfl (by omega) (by omega) rfl rfl (by decide) (by decide) (by decide) (by decide) dX3_readOperand_49 (fun h41 hv41 hv41e => ?_)
      have pr41 : PR h → PR h41 := fun z => by rw [hv41e]; exact PR.put hv11 (pr11 z) (by omega)
      have fx41 : FX KC0 h h41 := FX.pI fx11 hv41e (by unfold KC0; omega)
      have k42 := bd_e k37 (st_I hv41e e40)
      refine go_iload_n (pc := 52) rfl dX3_readOperand_52 ?_
      have g43 : (0 : Int) ≤ (h41.2.1 34 1).toInt := (hv41.2.1 34 1).1
      have g44 : (h41.2.1 34 1).toInt ≤ 500 := (hv41.2.1 34 1).2
      have g45 : (0 : Int) ≤ (h41.2.1 34 2).toInt := (hv41.2.1 34 2).1
      have g46 : (h41.2.1 34 2).toInt ≤ 500 := (hv41.2.1 34 2).2
      have g47 : (0 : Int) ≤ (h41.2.1 34 7).toInt := (hv41.2.1 34 7).1
      have g48 : (h41.2.1 34 7).toInt ≤ 7 := (hv41.2.1 34 7).2
      have g49 : (h41.2.1 34 1).toInt = u19.toInt := by rw [← (show u19 = h41.2.1 34 1 from (show u19 = h41.2.1 34 1 from by rw [hv41e]; exact (g_iI rfl u19w.symm).symm))] <;> exact (ti_rfl u19)
      have g50 : (h41.2.1 34 7).toInt = u23.toInt := by rw [← (show u23 = h41.2.1 34 7 from (show u23 = h41.2.1 34 7 from by rw [hv41e]; exact (g_iI rfl u23w.symm).symm))] <;> exact (ti_rfl u23)
      have g51 : (h41.2.1 34 2).toInt = (u21.toInt + 1) := by rw [← (show v39 = h41.2.1 34 2 from (show v39 = h41.2.1 34 2 from by rw [hv41e]; exact g_iS.symm))] <;> exact e40
      exact gi_iret (pc := 53) (ti_rfl v34) ⟨_, rfl, (ti_lo _), (ti_hi _), hv41, (by omega), (by omega), (k42.symm.trans kf), fx41, pr41⟩ hv41 dX3_readOperand_53
    ·
      have k52 := if_f k35 (fun z => z q36)
      refine go_aload_n (pc := 30) rfl dX3_readOperand_30 ?_
      refine go_iconst (pc := 31) (v := 1) (by decide) dX3_readOperand_31 ?_
      refine go_aload_n (pc := 32) rfl dX3_readOperand_32 ?_
      refine gi_get (pc := 33) (lo := 0) (hi := 500) hv11 fL_X3_19 rfl (Nat.le_of_ble_eq_true rfl) rfl rfl dX3_readOperand_33 (fun v53 v53l v53u v53w => ?_)
      have v53r : u21 = h11.2.1 34 2 := u21w
      have v53q : TI v53 u21.toInt := by rw [v53w.trans v53r.symm]; exact (ti_rfl u21)
      have g54 : (0 : Int) ≤ (h11.2.1 34 1).toInt := (hv11.2.1 34 1).1
      have g55 : (h11.2.1 34 1).toInt ≤ 500 := (hv11.2.1 34 1).2
      have g56 : (0 : Int) ≤ (h11.2.1 34 2).toInt := (hv11.2.1 34 2).1
      have g57 : (h11.2.1 34 2).toInt ≤ 500 := (hv11.2.1 34 2).2
      have g58 : (0 : Int) ≤ (h11.2.1 34 7).toInt := (hv11.2.1 34 7).1
      have g59 : (h11.2.1 34 7).toInt ≤ 7 := (hv11.2.1 34 7).2
      have g60 : (h11.2.1 34 1).toInt = u19.toInt := by rw [← (show u19 = h11.2.1 34 1 from u19w)] <;> exact (ti_rfl u19)
      have g61 : (h11.2.1 34 2).toInt = u21.toInt := by rw [← (show u21 = h11.2.1 34 2 from u21w)] <;> exact (ti_rfl u21)
      have g62 : (h11.2.1 34 7).toInt = u23.toInt := by rw [← (show u23 = h11.2.1 34 7 from u23w)] <;> exact (ti_rfl u23)
      refine go_invV (pc := 36) (sl := 0) (s_X3_blame_f l (d + 1) hv11 1 (by rw [show (1 : Int32).toInt = 1 from (ti_c (v := 1) (a := 1) (by decide))]; omega) (by rw [show (1 : Int32).toInt = 1 from (ti_c (v := 1) (a := 1) (by decide))]; omega) v53 (by rw [show (v53 : Int32).toInt = u21.toInt from v53q]; omega) (by rw [show (v53 : Int32).toInt = u21.toInt from v53q]; omega)) mL_X3_101 iM_X3_blame sM_X3_blame (hv11.sh rfl) rfl rfl rfl (Nat.le_of_ble_eq_true rfl) (show d + 1 + 1 + 1 ≤ d + 3 by omega) (show 8 + (3 + 11) + 40 * (d + 1 + 1) ≤ 40 * (d + 3) by omega) (g_c0 hv11.ln) (Nat.le_of_ble_eq_true rfl) dX3_readOperand_36 ?_
      intro r h63 hq _
      obtain ⟨rfl, hv63, f64, f65, f66, f67, f68, f69, pt63⟩ := hq
      have pr63 : PR h → PR h63 := fun z => pt63 (pr11 z)
      try rw [show (1 : Int32).toInt = 1 from (ti_c (v := 1) (a := 1) (by decide))] at f64
      try rw [show (v53 : Int32).toInt = u21.toInt from v53q] at f64
      try rw [show (1 : Int32).toInt = 1 from (ti_c (v := 1) (a := 1) (by decide))] at f65
      try rw [show (v53 : Int32).toInt = u21.toInt from v53q] at f65
      try rw [show (1 : Int32).toInt = 1 from (ti_c (v := 1) (a := 1) (by decide))] at f66
      try rw [show (v53 : Int32).toInt = u21.toInt from v53q] at f66
      try rw [show (1 : Int32).toInt = 1 from (ti_c (v := 1) (a := 1) (by decide))] at f67
      try rw [show (v53 : Int32).toInt = u21.toInt from v53q] at f67
      try rw [show (1 : Int32).toInt = 1 from (ti_c (v := 1) (a := 1) (by decide))] at f68
      try rw [show (v53 : Int32).toInt = u21.toInt from v53q] at f68
      try rw [show (1 : Int32).toInt = 1 from (ti_c (v := 1) (a := 1) (by decide))] at f69
      try rw [show (v53 : Int32).toInt = u21.toInt from v53q] at f69
      have fx63 : FX KC0 h h63 := FX.tr fx11 f69
      have k70 := bd_e k52 f68.symm
      obtain ⟨u71, u71w⟩ : ∃ v : Int32, v = h63.2.1 34 1 := ⟨_, rfl⟩
      have u71e : (h63.2.1 34 1).toInt = u71.toInt := by rw [u71w]
      have u71l : 0 ≤ u71.toInt := by rw [u71w]; exact (hv63.2.1 34 1).1
      have u71u : u71.toInt ≤ 500 := by rw [u71w]; exact (hv63.2.1 34 1).2
      have k72 := k70
      obtain ⟨u73, u73w⟩ : ∃ v : Int32, v = h63.2.1 34 2 := ⟨_, rfl⟩
      have u73e : (h63.2.1 34 2).toInt = u73.toInt := by rw [u73w]
      have u73l : 0 ≤ u73.toInt := by rw [u73w]; exact (hv63.2.1 34 2).1
      have u73u : u73.toInt ≤ 500 := by rw [u73w]; exact (hv63.2.1 34 2).2
      have k74 := k72
      obtain ⟨u75, u75w⟩ : ∃ v : Int32, v = h63.2.1 34 7 := ⟨_, rfl⟩
      have u75e : (h63.2.1 34 7).toInt = u75.toInt := by rw [u75w]
      have u75l : 0 ≤ u75.toInt := by rw [u75w]; exact (hv63.2.1 34 7).1
      have u75u : u75.toInt ≤ 7 := by rw [u75w]; exact (hv63.2.1 34 7).2
      have k76 := k74
      refine go_goto (pc := 39) (tgt := 52) (by decide) dX3_readOperand_39 ?_
      refine go_iload_n (pc := 52) rfl dX3_readOperand_52 ?_
      have g77 : (0 : Int) ≤ (h63.2.1 34 1).toInt := (hv63.2.1 34 1).1
      have g78 : (h63.2.1 34 1).toInt ≤ 500 := (hv63.2.1 34 1).2
      have g79 : (0 : Int) ≤ (h63.2.1 34 2).toInt := (hv63.2.1 34 2).1
      have g80 : (h63.2.1 34 2).toInt ≤ 500 := (hv63.2.1 34 2).2
      have g81 : (0 : Int) ≤ (h63.2.1 34 7).toInt := (hv63.2.1 34 7).1
      have g82 : (h63.2.1 34 7).toInt ≤ 7 := (hv63.2.1 34 7).2
      have g83 : (h63.2.1 34 1).toInt = u71.toInt := by rw [← (show u71 = h63.2.1 34 1 from u71w)] <;> exact (ti_rfl u71)
      have g84 : (h63.2.1 34 2).toInt = u73.toInt := by rw [← (show u73 = h63.2.1 34 2 from u73w)] <;> exact (ti_rfl u73)
      have g85 : (h63.2.1 34 7).toInt = u75.toInt := by rw [← (show u75 = h63.2.1 34 7 from u75w)] <;> exact (ti_rfl u75)
      exact gi_iret (pc := 53) (ti_rfl v34) ⟨_, rfl, (ti_lo _), (ti_hi _), hv63, (by omega), (by omega), (k76.symm.trans kf), fx63, pr63⟩ hv63 dX3_readOperand_53
  ·
    have k86 := if_f k28 q29
    refine go_bipush (pc := 12) (v := 10) (by decide) dX3_readOperand_12 ?_
    refine go_aload_n (pc := 14) rfl dX3_readOperand_14 ?_
    have g87 : (0 : Int) ≤ (h11.2.1 34 1).toInt := (hv11.2.1 34 1).1
    have g88 : (h11.2.1 34 1).toInt ≤ 500 := (hv11.2.1 34 1).2
    have g89 : (0 : Int) ≤ (h11.2.1 34 2).toInt := (hv11.2.1 34 2).1
    have g90 : (h11.2.1 34 2).toInt ≤ 500 := (hv11.2.1 34 2).2
    have g91 : (0 : Int) ≤ (h11.2.1 34 7).toInt := (hv11.2.1 34 7).1
    have g92 : (h11.2.1 34 7).toInt ≤ 7 := (hv11.2.1 34 7).2
    have g93 : (h11.2.1 34 1).toInt = u19.toInt := by rw [← (show u19 = h11.2.1 34 1 from u19w)] <;> exact (ti_rfl u19)
    have g94 : (h11.2.1 34 2).toInt = u21.toInt := by rw [← (show u21 = h11.2.1 34 2 from u21w)] <;> exact (ti_rfl u21)
    have g95 : (h11.2.1 34 7).toInt = u23.toInt := by rw [← (show u23 = h11.2.1 34 7 from u23w)] <;> exact (ti_rfl u23)
    refine go_invV (pc := 15) (sl := 0) (s_X3_readNumber_f l (d + 0) hv11 ) mL_X3_213 iM_X3_readNumber sM_X3_readNumber (hv11.sh rfl) rfl rfl rfl (Nat.le_of_ble_eq_true rfl) (show d + 0 + 2 + 1 ≤ d + 3 by omega) (show 8 + (3 + 11) + 40 * (d + 0 + 2) ≤ 40 * (d + 3) by omega) (g_c0 hv11.ln) (Nat.le_of_ble_eq_true rfl) dX3_readOperand_15 ?_
    intro r h96 hq _
    obtain ⟨v101, rfl, v101l, v101u, hv96, f97, f98, f99, f100, pt96⟩ := hq
    have pr96 : PR h → PR h96 := fun z => pt96 (pr11 z)
    have fx96 : FX KC0 h h96 := FX.tr fx11 f100
    have k102 := bd2_e k86 f99
    obtain ⟨u103, u103w⟩ : ∃ v : Int32, v = h96.2.1 34 1 := ⟨_, rfl⟩
    have u103e : (h96.2.1 34 1).toInt = u103.toInt := by rw [u103w]
    have u103l : 0 ≤ u103.toInt := by rw [u103w]; exact (hv96.2.1 34 1).1
    have u103u : u103.toInt ≤ 500 := by rw [u103w]; exact (hv96.2.1 34 1).2
    have k104 := k102
    obtain ⟨u105, u105w⟩ : ∃ v : Int32, v = h96.2.1 34 2 := ⟨_, rfl⟩
    have u105e : (h96.2.1 34 2).toInt = u105.toInt := by rw [u105w]
    have u105l : 0 ≤ u105.toInt := by rw [u105w]; exact (hv96.2.1 34 2).1
    have u105u : u105.toInt ≤ 500 := by rw [u105w]; exact (hv96.2.1 34 2).2
    have k106 := k104
    obtain ⟨u107, u107w⟩ : ∃ v : Int32, v = h96.2.1 34 7 := ⟨_, rfl⟩
    have u107e : (h96.2.1 34 7).toInt = u107.toInt := by rw [u107w]
    have u107l : 0 ≤ u107.toInt := by rw [u107w]; exact (hv96.2.1 34 7).1
    have u107u : u107.toInt ≤ 7 := by rw [u107w]; exact (hv96.2.1 34 7).2
    have k108 := k106
    refine gx_iadd (pc := 18) dX3_readOperand_18 (fun v109 v109x => ?_)
    have k110 := bd_e k108 (so_iadd (ti_c (v := 10) (a := 10) (by decide)) (ti_rfl v101) v109x)
    have g111 : (0 : Int) ≤ (h96.2.1 34 1).toInt := (hv96.2.1 34 1).1
    have g112 : (h96.2.1 34 1).toInt ≤ 500 := (hv96.2.1 34 1).2
    have g113 : (0 : Int) ≤ (h96.2.1 34 2).toInt := (hv96.2.1 34 2).1
    have g114 : (h96.2.1 34 2).toInt ≤ 500 := (hv96.2.1 34 2).2
    have g115 : (0 : Int) ≤ (h96.2.1 34 7).toInt := (hv96.2.1 34 7).1
    have g116 : (h96.2.1 34 7).toInt ≤ 7 := (hv96.2.1 34 7).2
    have g117 : (h96.2.1 34 1).toInt = u103.toInt := by rw [← (show u103 = h96.2.1 34 1 from u103w)] <;> exact (ti_rfl u103)
    have g118 : (h96.2.1 34 2).toInt = u105.toInt := by rw [← (show u105 = h96.2.1 34 2 from u105w)] <;> exact (ti_rfl u105)
    have g119 : (h96.2.1 34 7).toInt = u107.toInt := by rw [← (show u107 = h96.2.1 34 7 from u107w)] <;> exact (ti_rfl u107)
    exact gi_iret (pc := 19) (ti_rfl v109) ⟨_, rfl, (ti_lo _), (ti_hi _), hv96, (by omega), (by omega), (k110.symm.trans kf), fx96, pr96⟩ hv96 dX3_readOperand_19

