theorem hpN : hz10.1.length = 117 := by decide +kernel
theorem hpS : hz10.1 = [(7, 8), (9, 500), (0, 20), (10, 5), (10, 40), (10, 40), (10, 40), (10, 40), (10, 40), (10, 40), (10, 40), (10, 40), (10, 40), (10, 40), (10, 40), (10, 40), (10, 40), (10, 40), (0, 20), (10, 5), (10, 40), (10, 40), (10, 40), (10, 40), (10, 40), (10, 40), (10, 40), (10, 40), (10, 40), (10, 40), (10, 40), (10, 40), (10, 40), (10, 40), (3, 11), (9, 0), (5, 9), (10, 128), (10, 128), (10, 128), (10, 128), (10, 128), (10, 128), (10, 128), (10, 5), (10, 7), (10, 7), (12, 7), (6, 2), (4, 13), (11, 5), (10, 30), (11, 13), (11, 13), (10, 585), (11, 40), (11, 40), (1, 7), (11, 7605), (11, 40), (11, 40), (11, 5), (11, 45), (11, 45), (2, 13), (10, 4), (10, 186), (10, 31), (10, 500), (10, 500), (8, 60), (9, 500), (9, 500), (10, 2), (10, 2), (10, 2), (10, 2), (10, 260), (10, 260), (10, 260), (10, 260), (10, 260), (10, 260), (10, 260), (10, 260), (10, 260), (10, 260), (10, 260), (10, 260), (10, 520), (10, 560), (10, 560), (10, 560), (10, 80), (10, 10), (10, 80), (10, 80), (10, 80), (10, 80), (10, 80), (10, 10), (12, 10), (12, 10), (10, 11115), (11, 40), (11, 40), (11, 40), (11, 5), (10, 30), (10, 19), (10, 585), (11, 40), (10, 19), (10, 4), (10, 192), (10, 500), (10, 500)] := by decide +kernel
theorem hpi_0_1 : hz10.2.1 0 1 = 0 := by decide +kernel
theorem hpi_0_2 : hz10.2.1 0 2 = 0 := by decide +kernel
theorem hpi_2_0 : hz10.2.1 2 0 = 0 := by decide +kernel
theorem hpi_2_1 : hz10.2.1 2 1 = 0 := by decide +kernel
theorem hpi_2_3 : hz10.2.1 2 3 = 0 := by decide +kernel
theorem hpi_2_4 : hz10.2.1 2 4 = 0 := by decide +kernel
theorem hpi_64_6 : hz10.2.1 64 6 = (-1) := by decide +kernel
theorem hpi_70_2 : hz10.2.1 70 2 = 0 := by decide +kernel
theorem hpi_70_29 : hz10.2.1 70 29 = 0 := by decide +kernel
theorem hpi_70_30 : hz10.2.1 70 30 = 0 := by decide +kernel
theorem hpi_70_5 : hz10.2.1 70 5 = 0 := by decide +kernel
theorem hpl_2_2 : hz10.2.2.1 2 2 = 0 := by decide +kernel
theorem hpr_0_0 : hz10.2.2.2 0 0 = .ref 1 := by decide +kernel
theorem hpr_0_3 : hz10.2.2.2 0 3 = .ref 2 := by decide +kernel
theorem hpr_0_4 : hz10.2.2.2 0 4 = .ref 18 := by decide +kernel
theorem hpr_0_5 : hz10.2.2.2 0 5 = .ref 34 := by decide +kernel
theorem hpr_0_7 : hz10.2.2.2 0 7 = .ref 64 := by decide +kernel
theorem hpr_34_5 : hz10.2.2.2 34 5 = .ref 36 := by decide +kernel
theorem hpr_70_0 : hz10.2.2.2 70 0 = .ref 71 := by decide +kernel
theorem hpr_70_10 : hz10.2.2.2 70 10 = .ref 76 := by decide +kernel
theorem hpr_70_7 : hz10.2.2.2 70 7 = .ref 73 := by decide +kernel
theorem hpr_70_8 : hz10.2.2.2 70 8 = .ref 74 := by decide +kernel
theorem hpr_70_9 : hz10.2.2.2 70 9 = .ref 75 := by decide +kernel
set_option maxHeartbeats 4000000 in
set_option maxRecDepth 100000 in
theorem k11_X7_putFour (l : Launch) (xs : Nat → Int32) : Mt l yX7_putFour cX7_putFour 3 none 1 [.ref 0, .int (xs 1)] (hz10) 0 0 (fun r h' => r = none ∧ h' = hI (hI (hI (hI (hI (hI (hI (hI hz10 1 0 (vp_nar .byte ((((xs 1).toUInt32 >>> ((24 : Int32).toUInt32 &&& Int32.toUInt32 31)).toInt32).toInt8.toInt32))) 0 1 1) 1 1 (vp_nar .byte ((((xs 1).toUInt32 >>> ((16 : Int32).toUInt32 &&& Int32.toUInt32 31)).toInt32).toInt8.toInt32))) 0 1 2) 1 2 (vp_nar .byte ((((xs 1).toUInt32 >>> ((8 : Int32).toUInt32 &&& Int32.toUInt32 31)).toInt32).toInt8.toInt32))) 0 1 3) 1 3 (vp_nar .byte ((((xs 1).toUInt32 >>> ((0 : Int32).toUInt32 &&& Int32.toUInt32 31)).toInt32).toInt8.toInt32))) 0 1 4) := by
  refine Mt_ofn 117 hpN (by decide) (Nat.le_of_ble_eq_true rfl) ?_
  show Go l RX7 cX7_putFour 3 (g_rm 1 0 0) "putFour" none 117 0 0 _ _ 0 0 [(0, .ref 0), (1, .int (xs 1))] [] (hz10)
  refine go_bipush (pc := 0) (v := 24) (by decide) dX7_putFour_0 ?_
  refine go_istore_n (pc := 2) (Nat.le_of_ble_eq_true rfl) dX7_putFour_2 (go_lv (lv2 := [(0, .ref 0), (1, .int (xs 1)), (2, .int 24)]) rfl ?_)
  refine go_iload_n (pc := 3) rfl dX7_putFour_3 ?_
  refine go_if_lt (pc := 4) (tgt := 46) (by decide) dX7_putFour_4 (fun q => absurd q (by decide)) (fun _ => ?_)
  refine go_aload_n (pc := 7) rfl dX7_putFour_7 ?_
  refine go_getI (pc := 8) fL_X7_13 (g_sh hpS rfl) (Nat.le_of_ble_eq_true rfl) rfl dX7_putFour_8 (go_topi (y := 0) hpi_0_1 ?_)
  refine go_sipush (pc := 11) (v := 500) (by decide) dX7_putFour_11 ?_
  refine go_icmp_ge (pc := 14) (tgt := 46) (by decide) dX7_putFour_14 (fun q => absurd q (by decide)) (fun _ => ?_)
  refine go_aload_n (pc := 17) rfl dX7_putFour_17 ?_
  refine go_getR (pc := 18) (v := .ref 1) fL_X7_9 (g_sh hpS rfl) (Nat.le_of_ble_eq_true rfl) rfl hpr_0_0 dX7_putFour_18 ?_
  refine go_aload_n (pc := 21) rfl dX7_putFour_21 ?_
  refine go_getI (pc := 22) fL_X7_13 (g_sh hpS rfl) (Nat.le_of_ble_eq_true rfl) rfl dX7_putFour_22 (go_topi (y := 0) hpi_0_1 ?_)
  refine go_iload_n (pc := 25) rfl dX7_putFour_25 ?_
  refine go_iload_n (pc := 26) rfl dX7_putFour_26 ?_
  refine go_iushr (pc := 27) dX7_putFour_27 ?_
  refine go_i2b (pc := 28) dX7_putFour_28 ?_
  refine go_bastj (pc := 29) (j := 0) (g_sh hpS rfl) (by decide +kernel) (by decide +kernel) dX7_putFour_29 ?_
  refine go_aload_n (pc := 30) rfl dX7_putFour_30 ?_
  refine go_dup (pc := 31) rfl dX7_putFour_31 ?_
  refine go_getI (pc := 32) fL_X7_13 (g_shI (g_sh hpS rfl)) (Nat.le_of_ble_eq_true rfl) rfl dX7_putFour_32 (go_topi (y := 0) (g_iI rfl hpi_0_1) ?_)
  refine go_iconst (pc := 35) (v := 1) (by decide) dX7_putFour_35 ?_
  refine go_iadd (pc := 36) dX7_putFour_36 (go_topi (y := 1) (by decide) ?_)
  refine go_putI (pc := 37) (fP_X7_13 _) (g_shI (g_sh hpS rfl)) (Nat.le_of_ble_eq_true rfl) rfl (fun _ => rfl) (fun _ => rfl) dX7_putFour_37 ?_
  refine go_iincv (pc := 40) (y := 16) (Nat.le_of_ble_eq_true rfl) rfl (by decide) dX7_putFour_40 (go_lv (lv2 := [(0, .ref 0), (1, .int (xs 1)), (2, .int 16)]) rfl ?_)
  refine go_goto (pc := 43) (tgt := 3) (by decide) dX7_putFour_43 ?_
  refine go_iload_n (pc := 3) rfl dX7_putFour_3 ?_
  refine go_if_lt (pc := 4) (tgt := 46) (by decide) dX7_putFour_4 (fun q => absurd q (by decide)) (fun _ => ?_)
  refine go_aload_n (pc := 7) rfl dX7_putFour_7 ?_
  refine go_getI (pc := 8) fL_X7_13 (g_shI (g_shI (g_sh hpS rfl))) (Nat.le_of_ble_eq_true rfl) rfl dX7_putFour_8 (go_topi (y := 1) g_iS ?_)
  refine go_sipush (pc := 11) (v := 500) (by decide) dX7_putFour_11 ?_
  refine go_icmp_ge (pc := 14) (tgt := 46) (by decide) dX7_putFour_14 (fun q => absurd q (by decide)) (fun _ => ?_)
  refine go_aload_n (pc := 17) rfl dX7_putFour_17 ?_
  refine go_getR (pc := 18) (v := .ref 1) fL_X7_9 (g_shI (g_shI (g_sh hpS rfl))) (Nat.le_of_ble_eq_true rfl) rfl (g_rI (g_rI hpr_0_0)) dX7_putFour_18 ?_
  refine go_aload_n (pc := 21) rfl dX7_putFour_21 ?_
  refine go_getI (pc := 22) fL_X7_13 (g_shI (g_shI (g_sh hpS rfl))) (Nat.le_of_ble_eq_true rfl) rfl dX7_putFour_22 (go_topi (y := 1) g_iS ?_)
  refine go_iload_n (pc := 25) rfl dX7_putFour_25 ?_
  refine go_iload_n (pc := 26) rfl dX7_putFour_26 ?_
  refine go_iushr (pc := 27) dX7_putFour_27 ?_
  refine go_i2b (pc := 28) dX7_putFour_28 ?_
  refine go_bastj (pc := 29) (j := 1) (g_shI (g_shI (g_sh hpS rfl))) (by decide +kernel) (by decide +kernel) dX7_putFour_29 ?_
  refine go_aload_n (pc := 30) rfl dX7_putFour_30 ?_
  refine go_dup (pc := 31) rfl dX7_putFour_31 ?_
  refine go_getI (pc := 32) fL_X7_13 (g_shI (g_shI (g_shI (g_sh hpS rfl)))) (Nat.le_of_ble_eq_true rfl) rfl dX7_putFour_32 (go_topi (y := 1) (g_iI rfl g_iS) ?_)
  refine go_iconst (pc := 35) (v := 1) (by decide) dX7_putFour_35 ?_
  refine go_iadd (pc := 36) dX7_putFour_36 (go_topi (y := 2) (by decide) ?_)
  refine go_putI (pc := 37) (fP_X7_13 _) (g_shI (g_shI (g_shI (g_sh hpS rfl)))) (Nat.le_of_ble_eq_true rfl) rfl (fun _ => rfl) (fun _ => rfl) dX7_putFour_37 ?_
  refine go_iincv (pc := 40) (y := 8) (Nat.le_of_ble_eq_true rfl) rfl (by decide) dX7_putFour_40 (go_lv (lv2 := [(0, .ref 0), (1, .int (xs 1)), (2, .int 8)]) rfl ?_)
  refine go_goto (pc := 43) (tgt := 3) (by decide) dX7_putFour_43 ?_
  refine go_iload_n (pc := 3) rfl dX7_putFour_3 ?_
  refine go_if_lt (pc := 4) (tgt := 46) (by decide) dX7_putFour_4 (fun q => absurd q (by decide)) (fun _ => ?_)
  refine go_aload_n (pc := 7) rfl dX7_putFour_7 ?_
  refine go_getI (pc := 8) fL_X7_13 (g_shI (g_shI (g_shI (g_shI (g_sh hpS rfl))))) (Nat.le_of_ble_eq_true rfl) rfl dX7_putFour_8 (go_topi (y := 2) g_iS ?_)
  refine go_sipush (pc := 11) (v := 500) (by decide) dX7_putFour_11 ?_
  refine go_icmp_ge (pc := 14) (tgt := 46) (by decide) dX7_putFour_14 (fun q => absurd q (by decide)) (fun _ => ?_)
  refine go_aload_n (pc := 17) rfl dX7_putFour_17 ?_
  refine go_getR (pc := 18) (v := .ref 1) fL_X7_9 (g_shI (g_shI (g_shI (g_shI (g_sh hpS rfl))))) (Nat.le_of_ble_eq_true rfl) rfl (g_rI (g_rI (g_rI (g_rI hpr_0_0)))) dX7_putFour_18 ?_
  refine go_aload_n (pc := 21) rfl dX7_putFour_21 ?_
  refine go_getI (pc := 22) fL_X7_13 (g_shI (g_shI (g_shI (g_shI (g_sh hpS rfl))))) (Nat.le_of_ble_eq_true rfl) rfl dX7_putFour_22 (go_topi (y := 2) g_iS ?_)
  refine go_iload_n (pc := 25) rfl dX7_putFour_25 ?_
  refine go_iload_n (pc := 26) rfl dX7_putFour_26 ?_
  refine go_iushr (pc := 27) dX7_putFour_27 ?_
  refine go_i2b (pc := 28) dX7_putFour_28 ?_
  refine go_bastj (pc := 29) (j := 2) (g_shI (g_shI (g_shI (g_shI (g_sh hpS rfl))))) (by decide +kernel) (by decide +kernel) dX7_putFour_29 ?_
  refine go_aload_n (pc := 30) rfl dX7_putFour_30 ?_
  refine go_dup (pc := 31) rfl dX7_putFour_31 ?_
  refine go_getI (pc := 32) fL_X7_13 (g_shI (g_shI (g_shI (g_shI (g_shI (g_sh hpS rfl)))))) (Nat.le_of_ble_eq_true rfl) rfl dX7_putFour_32 (go_topi (y := 2) (g_iI rfl g_iS) ?_)
  refine go_iconst (pc := 35) (v := 1) (by decide) dX7_putFour_35 ?_
  refine go_iadd (pc := 36) dX7_putFour_36 (go_topi (y := 3) (by decide) ?_)
  refine go_putI (pc := 37) (fP_X7_13 _) (g_shI (g_shI (g_shI (g_shI (g_shI (g_sh hpS rfl)))))) (Nat.le_of_ble_eq_true rfl) rfl (fun _ => rfl) (fun _ => rfl) dX7_putFour_37 ?_
  refine go_iincv (pc := 40) (y := 0) (Nat.le_of_ble_eq_true rfl) rfl (by decide) dX7_putFour_40 (go_lv (lv2 := [(0, .ref 0), (1, .int (xs 1)), (2, .int 0)]) rfl ?_)
  refine go_goto (pc := 43) (tgt := 3) (by decide) dX7_putFour_43 ?_
  refine go_iload_n (pc := 3) rfl dX7_putFour_3 ?_
  refine go_if_lt (pc := 4) (tgt := 46) (by decide) dX7_putFour_4 (fun q => absurd q (by decide)) (fun _ => ?_)
  refine go_aload_n (pc := 7) rfl dX7_putFour_7 ?_
  refine go_getI (pc := 8) fL_X7_13 (g_shI (g_shI (g_shI (g_shI (g_shI (g_shI (g_sh hpS rfl))))))) (Nat.le_of_ble_eq_true rfl) rfl dX7_putFour_8 (go_topi (y := 3) g_iS ?_)
  refine go_sipush (pc := 11) (v := 500) (by decide) dX7_putFour_11 ?_
  refine go_icmp_ge (pc := 14) (tgt := 46) (by decide) dX7_putFour_14 (fun q => absurd q (by decide)) (fun _ => ?_)
  refine go_aload_n (pc := 17) rfl dX7_putFour_17 ?_
  refine go_getR (pc := 18) (v := .ref 1) fL_X7_9 (g_shI (g_shI (g_shI (g_shI (g_shI (g_shI (g_sh hpS rfl))))))) (Nat.le_of_ble_eq_true rfl) rfl (g_rI (g_rI (g_rI (g_rI (g_rI (g_rI hpr_0_0)))))) dX7_putFour_18 ?_
  refine go_aload_n (pc := 21) rfl dX7_putFour_21 ?_
  refine go_getI (pc := 22) fL_X7_13 (g_shI (g_shI (g_shI (g_shI (g_shI (g_shI (g_sh hpS rfl))))))) (Nat.le_of_ble_eq_true rfl) rfl dX7_putFour_22 (go_topi (y := 3) g_iS ?_)
  refine go_iload_n (pc := 25) rfl dX7_putFour_25 ?_
  refine go_iload_n (pc := 26) rfl dX7_putFour_26 ?_
  refine go_iushr (pc := 27) dX7_putFour_27 ?_
  refine go_i2b (pc := 28) dX7_putFour_28 ?_
  refine go_bastj (pc := 29) (j := 3) (g_shI (g_shI (g_shI (g_shI (g_shI (g_shI (g_sh hpS rfl))))))) (by decide +kernel) (by decide +kernel) dX7_putFour_29 ?_
  refine go_aload_n (pc := 30) rfl dX7_putFour_30 ?_
  refine go_dup (pc := 31) rfl dX7_putFour_31 ?_
  refine go_getI (pc := 32) fL_X7_13 (g_shI (g_shI (g_shI (g_shI (g_shI (g_shI (g_shI (g_sh hpS rfl)))))))) (Nat.le_of_ble_eq_true rfl) rfl dX7_putFour_32 (go_topi (y := 3) (g_iI rfl g_iS) ?_)
  refine go_iconst (pc := 35) (v := 1) (by decide) dX7_putFour_35 ?_
  refine go_iadd (pc := 36) dX7_putFour_36 (go_topi (y := 4) (by decide) ?_)
  refine go_putI (pc := 37) (fP_X7_13 _) (g_shI (g_shI (g_shI (g_shI (g_shI (g_shI (g_shI (g_sh hpS rfl)))))))) (Nat.le_of_ble_eq_true rfl) rfl (fun _ => rfl) (fun _ => rfl) dX7_putFour_37 ?_
  refine go_iincv (pc := 40) (y := (-8)) (Nat.le_of_ble_eq_true rfl) rfl (by decide) dX7_putFour_40 (go_lv (lv2 := [(0, .ref 0), (1, .int (xs 1)), (2, .int (-8))]) rfl ?_)
  refine go_goto (pc := 43) (tgt := 3) (by decide) dX7_putFour_43 ?_
  refine go_iload_n (pc := 3) rfl dX7_putFour_3 ?_
  refine go_if_lt (pc := 4) (tgt := 46) (by decide) dX7_putFour_4 (fun _ => ?_) (fun q => absurd q (by decide))
  exact go_vret (pc := 46) (⟨rfl, rfl⟩) (g_lnI (g_lnI (g_lnI (g_lnI (g_lnI (g_lnI (g_lnI (g_lnI hpN)))))))) (Nat.le_of_ble_eq_true rfl) dX7_putFour_46
set_option maxHeartbeats 4000000 in
set_option maxRecDepth 100000 in
theorem k12_X7_putFour (l : Launch) (xs : Nat → Int32) : Mt l yX7_putFour cX7_putFour 3 none 1 [.ref 0, .int (xs 2)] (hI (hI (hI (hI (hI (hI (hI (hI hz10 1 0 (vp_nar .byte ((((xs 1).toUInt32 >>> ((24 : Int32).toUInt32 &&& Int32.toUInt32 31)).toInt32).toInt8.toInt32))) 0 1 1) 1 1 (vp_nar .byte ((((xs 1).toUInt32 >>> ((16 : Int32).toUInt32 &&& Int32.toUInt32 31)).toInt32).toInt8.toInt32))) 0 1 2) 1 2 (vp_nar .byte ((((xs 1).toUInt32 >>> ((8 : Int32).toUInt32 &&& Int32.toUInt32 31)).toInt32).toInt8.toInt32))) 0 1 3) 1 3 (vp_nar .byte ((((xs 1).toUInt32 >>> ((0 : Int32).toUInt32 &&& Int32.toUInt32 31)).toInt32).toInt8.toInt32))) 0 1 4) 0 0 (fun r h' => r = none ∧ h' = hI (hI (hI (hI (hI (hI (hI (hI (hI (hI (hI (hI (hI (hI (hI (hI hz10 1 0 (vp_nar .byte ((((xs 1).toUInt32 >>> ((24 : Int32).toUInt32 &&& Int32.toUInt32 31)).toInt32).toInt8.toInt32))) 0 1 1) 1 1 (vp_nar .byte ((((xs 1).toUInt32 >>> ((16 : Int32).toUInt32 &&& Int32.toUInt32 31)).toInt32).toInt8.toInt32))) 0 1 2) 1 2 (vp_nar .byte ((((xs 1).toUInt32 >>> ((8 : Int32).toUInt32 &&& Int32.toUInt32 31)).toInt32).toInt8.toInt32))) 0 1 3) 1 3 (vp_nar .byte ((((xs 1).toUInt32 >>> ((0 : Int32).toUInt32 &&& Int32.toUInt32 31)).toInt32).toInt8.toInt32))) 0 1 4) 1 4 (vp_nar .byte ((((xs 2).toUInt32 >>> ((24 : Int32).toUInt32 &&& Int32.toUInt32 31)).toInt32).toInt8.toInt32))) 0 1 5) 1 5 (vp_nar .byte ((((xs 2).toUInt32 >>> ((16 : Int32).toUInt32 &&& Int32.toUInt32 31)).toInt32).toInt8.toInt32))) 0 1 6) 1 6 (vp_nar .byte ((((xs 2).toUInt32 >>> ((8 : Int32).toUInt32 &&& Int32.toUInt32 31)).toInt32).toInt8.toInt32))) 0 1 7) 1 7 (vp_nar .byte ((((xs 2).toUInt32 >>> ((0 : Int32).toUInt32 &&& Int32.toUInt32 31)).toInt32).toInt8.toInt32))) 0 1 8) := by
  refine Mt_ofn 117 (g_lnI (g_lnI (g_lnI (g_lnI (g_lnI (g_lnI (g_lnI (g_lnI hpN)))))))) (by decide) (Nat.le_of_ble_eq_true rfl) ?_
  show Go l RX7 cX7_putFour 3 (g_rm 1 0 0) "putFour" none 117 0 0 _ _ 0 0 [(0, .ref 0), (1, .int (xs 2))] [] (hI (hI (hI (hI (hI (hI (hI (hI hz10 1 0 (vp_nar .byte ((((xs 1).toUInt32 >>> ((24 : Int32).toUInt32 &&& Int32.toUInt32 31)).toInt32).toInt8.toInt32))) 0 1 1) 1 1 (vp_nar .byte ((((xs 1).toUInt32 >>> ((16 : Int32).toUInt32 &&& Int32.toUInt32 31)).toInt32).toInt8.toInt32))) 0 1 2) 1 2 (vp_nar .byte ((((xs 1).toUInt32 >>> ((8 : Int32).toUInt32 &&& Int32.toUInt32 31)).toInt32).toInt8.toInt32))) 0 1 3) 1 3 (vp_nar .byte ((((xs 1).toUInt32 >>> ((0 : Int32).toUInt32 &&& Int32.toUInt32 31)).toInt32).toInt8.toInt32))) 0 1 4)
  refine go_bipush (pc := 0) (v := 24) (by decide) dX7_putFour_0 ?_
  refine go_istore_n (pc := 2) (Nat.le_of_ble_eq_true rfl) dX7_putFour_2 (go_lv (lv2 := [(0, .ref 0), (1, .int (xs 2)), (2, .int 24)]) rfl ?_)
  refine go_iload_n (pc := 3) rfl dX7_putFour_3 ?_
  refine go_if_lt (pc := 4) (tgt := 46) (by decide) dX7_putFour_4 (fun q => absurd q (by decide)) (fun _ => ?_)
  refine go_aload_n (pc := 7) rfl dX7_putFour_7 ?_
  refine go_getI (pc := 8) fL_X7_13 (g_shI (g_shI (g_shI (g_shI (g_shI (g_shI (g_shI (g_shI (g_sh hpS rfl))))))))) (Nat.le_of_ble_eq_true rfl) rfl dX7_putFour_8 (go_topi (y := 4) g_iS ?_)
  refine go_sipush (pc := 11) (v := 500) (by decide) dX7_putFour_11 ?_
  refine go_icmp_ge (pc := 14) (tgt := 46) (by decide) dX7_putFour_14 (fun q => absurd q (by decide)) (fun _ => ?_)
  refine go_aload_n (pc := 17) rfl dX7_putFour_17 ?_
  refine go_getR (pc := 18) (v := .ref 1) fL_X7_9 (g_shI (g_shI (g_shI (g_shI (g_shI (g_shI (g_shI (g_shI (g_sh hpS rfl))))))))) (Nat.le_of_ble_eq_true rfl) rfl (g_rI (g_rI (g_rI (g_rI (g_rI (g_rI (g_rI (g_rI hpr_0_0)))))))) dX7_putFour_18 ?_
  refine go_aload_n (pc := 21) rfl dX7_putFour_21 ?_
  refine go_getI (pc := 22) fL_X7_13 (g_shI (g_shI (g_shI (g_shI (g_shI (g_shI (g_shI (g_shI (g_sh hpS rfl))))))))) (Nat.le_of_ble_eq_true rfl) rfl dX7_putFour_22 (go_topi (y := 4) g_iS ?_)
  refine go_iload_n (pc := 25) rfl dX7_putFour_25 ?_
  refine go_iload_n (pc := 26) rfl dX7_putFour_26 ?_
  refine go_iushr (pc := 27) dX7_putFour_27 ?_
  refine go_i2b (pc := 28) dX7_putFour_28 ?_
  refine go_bastj (pc := 29) (j := 4) (g_shI (g_shI (g_shI (g_shI (g_shI (g_shI (g_shI (g_shI (g_sh hpS rfl))))))))) (by decide +kernel) (by decide +kernel) dX7_putFour_29 ?_
  refine go_aload_n (pc := 30) rfl dX7_putFour_30 ?_
  refine go_dup (pc := 31) rfl dX7_putFour_31 ?_
  refine go_getI (pc := 32) fL_X7_13 (g_shI (g_shI (g_shI (g_shI (g_shI (g_shI (g_shI (g_shI (g_shI (g_sh hpS rfl)))))))))) (Nat.le_of_ble_eq_true rfl) rfl dX7_putFour_32 (go_topi (y := 4) (g_iI rfl g_iS) ?_)
  refine go_iconst (pc := 35) (v := 1) (by decide) dX7_putFour_35 ?_
  refine go_iadd (pc := 36) dX7_putFour_36 (go_topi (y := 5) (by decide) ?_)
  refine go_putI (pc := 37) (fP_X7_13 _) (g_shI (g_shI (g_shI (g_shI (g_shI (g_shI (g_shI (g_shI (g_shI (g_sh hpS rfl)))))))))) (Nat.le_of_ble_eq_true rfl) rfl (fun _ => rfl) (fun _ => rfl) dX7_putFour_37 ?_
  refine go_iincv (pc := 40) (y := 16) (Nat.le_of_ble_eq_true rfl) rfl (by decide) dX7_putFour_40 (go_lv (lv2 := [(0, .ref 0), (1, .int (xs 2)), (2, .int 16)]) rfl ?_)
  refine go_goto (pc := 43) (tgt := 3) (by decide) dX7_putFour_43 ?_
  refine go_iload_n (pc := 3) rfl dX7_putFour_3 ?_
  refine go_if_lt (pc := 4) (tgt := 46) (by decide) dX7_putFour_4 (fun q => absurd q (by decide)) (fun _ => ?_)
  refine go_aload_n (pc := 7) rfl dX7_putFour_7 ?_
  refine go_getI (pc := 8) fL_X7_13 (g_shI (g_shI (g_shI (g_shI (g_shI (g_shI (g_shI (g_shI (g_shI (g_shI (g_sh hpS rfl))))))))))) (Nat.le_of_ble_eq_true rfl) rfl dX7_putFour_8 (go_topi (y := 5) g_iS ?_)
  refine go_sipush (pc := 11) (v := 500) (by decide) dX7_putFour_11 ?_
  refine go_icmp_ge (pc := 14) (tgt := 46) (by decide) dX7_putFour_14 (fun q => absurd q (by decide)) (fun _ => ?_)
  refine go_aload_n (pc := 17) rfl dX7_putFour_17 ?_
  refine go_getR (pc := 18) (v := .ref 1) fL_X7_9 (g_shI (g_shI (g_shI (g_shI (g_shI (g_shI (g_shI (g_shI (g_shI (g_shI (g_sh hpS rfl))))))))))) (Nat.le_of_ble_eq_true rfl) rfl (g_rI (g_rI (g_rI (g_rI (g_rI (g_rI (g_rI (g_rI (g_rI (g_rI hpr_0_0)))))))))) dX7_putFour_18 ?_
  refine go_aload_n (pc := 21) rfl dX7_putFour_21 ?_
  refine go_getI (pc := 22) fL_X7_13 (g_shI (g_shI (g_shI (g_shI (g_shI (g_shI (g_shI (g_shI (g_shI (g_shI (g_sh hpS rfl))))))))))) (Nat.le_of_ble_eq_true rfl) rfl dX7_putFour_22 (go_topi (y := 5) g_iS ?_)
  refine go_iload_n (pc := 25) rfl dX7_putFour_25 ?_
  refine go_iload_n (pc := 26) rfl dX7_putFour_26 ?_
  refine go_iushr (pc := 27) dX7_putFour_27 ?_
  refine go_i2b (pc := 28) dX7_putFour_28 ?_
  refine go_bastj (pc := 29) (j := 5) (g_shI (g_shI (g_shI (g_shI (g_shI (g_shI (g_shI (g_shI (g_shI (g_shI (g_sh hpS rfl))))))))))) (by decide +kernel) (by decide +kernel) dX7_putFour_29 ?_
  refine go_aload_n (pc := 30) rfl dX7_putFour_30 ?_
  refine go_dup (pc := 31) rfl dX7_putFour_31 ?_
  refine go_getI (pc := 32) fL_X7_13 (g_shI (g_shI (g_shI (g_shI (g_shI (g_shI (g_shI (g_shI (g_shI (g_shI (g_shI (g_sh hpS rfl)))))))))))) (Nat.le_of_ble_eq_true rfl) rfl dX7_putFour_32 (go_topi (y := 5) (g_iI rfl g_iS) ?_)
  refine go_iconst (pc := 35) (v := 1) (by decide) dX7_putFour_35 ?_
  refine go_iadd (pc := 36) dX7_putFour_36 (go_topi (y := 6) (by decide) ?_)
  refine go_putI (pc := 37) (fP_X7_13 _) (g_shI (g_shI (g_shI (g_shI (g_shI (g_shI (g_shI (g_shI (g_shI (g_shI (g_shI (g_sh hpS rfl)))))))))))) (Nat.le_of_ble_eq_true rfl) rfl (fun _ => rfl) (fun _ => rfl) dX7_putFour_37 ?_
  refine go_iincv (pc := 40) (y := 8) (Nat.le_of_ble_eq_true rfl) rfl (by decide) dX7_putFour_40 (go_lv (lv2 := [(0, .ref 0), (1, .int (xs 2)), (2, .int 8)]) rfl ?_)
  refine go_goto (pc := 43) (tgt := 3) (by decide) dX7_putFour_43 ?_
  refine go_iload_n (pc := 3) rfl dX7_putFour_3 ?_
  refine go_if_lt (pc := 4) (tgt := 46) (by decide) dX7_putFour_4 (fun q => absurd q (by decide)) (fun _ => ?_)
  refine go_aload_n (pc := 7) rfl dX7_putFour_7 ?_
  refine go_getI (pc := 8) fL_X7_13 (g_shI (g_shI (g_shI (g_shI (g_shI (g_shI (g_shI (g_shI (g_shI (g_shI (g_shI (g_shI (g_sh hpS rfl))))))))))))) (Nat.le_of_ble_eq_true rfl) rfl dX7_putFour_8 (go_topi (y := 6) g_iS ?_)
  refine go_sipush (pc := 11) (v := 500) (by decide) dX7_putFour_11 ?_
  refine go_icmp_ge (pc := 14) (tgt := 46) (by decide) dX7_putFour_14 (fun q => absurd q (by decide)) (fun _ => ?_)
  refine go_aload_n (pc := 17) rfl dX7_putFour_17 ?_
  refine go_getR (pc := 18) (v := .ref 1) fL_X7_9 (g_shI (g_shI (g_shI (g_shI (g_shI (g_shI (g_shI (g_shI (g_shI (g_shI (g_shI (g_shI (g_sh hpS rfl))))))))))))) (Nat.le_of_ble_eq_true rfl) rfl (g_rI (g_rI (g_rI (g_rI (g_rI (g_rI (g_rI (g_rI (g_rI (g_rI (g_rI (g_rI hpr_0_0)))))))))))) dX7_putFour_18 ?_
  refine go_aload_n (pc := 21) rfl dX7_putFour_21 ?_
  refine go_getI (pc := 22) fL_X7_13 (g_shI (g_shI (g_shI (g_shI (g_shI (g_shI (g_shI (g_shI (g_shI (g_shI (g_shI (g_shI (g_sh hpS rfl))))))))))))) (Nat.le_of_ble_eq_true rfl) rfl dX7_putFour_22 (go_topi (y := 6) g_iS ?_)
  refine go_iload_n (pc := 25) rfl dX7_putFour_25 ?_
  refine go_iload_n (pc := 26) rfl dX7_putFour_26 ?_
  refine go_iushr (pc := 27) dX7_putFour_27 ?_
  refine go_i2b (pc := 28) dX7_putFour_28 ?_
  refine go_bastj (pc := 29) (j := 6) (g_shI (g_shI (g_shI (g_shI (g_shI (g_shI (g_shI (g_shI (g_shI (g_shI (g_shI (g_shI (g_sh hpS rfl))))))))))))) (by decide +kernel) (by decide +kernel) dX7_putFour_29 ?_
  refine go_aload_n (pc := 30) rfl dX7_putFour_30 ?_
  refine go_dup (pc := 31) rfl dX7_putFour_31 ?_
  refine go_getI (pc := 32) fL_X7_13 (g_shI (g_shI (g_shI (g_shI (g_shI (g_shI (g_shI (g_shI (g_shI (g_shI (g_shI (g_shI (g_shI (g_sh hpS rfl)))))))))))))) (Nat.le_of_ble_eq_true rfl) rfl dX7_putFour_32 (go_topi (y := 6) (g_iI rfl g_iS) ?_)
  refine go_iconst (pc := 35) (v := 1) (by decide) dX7_putFour_35 ?_
  refine go_iadd (pc := 36) dX7_putFour_36 (go_topi (y := 7) (by decide) ?_)
  refine go_putI (pc := 37) (fP_X7_13 _) (g_shI (g_shI (g_shI (g_shI (g_shI (g_shI (g_shI (g_shI (g_shI (g_shI (g_shI (g_shI (g_shI (g_sh hpS rfl)))))))))))))) (Nat.le_of_ble_eq_true rfl) rfl (fun _ => rfl) (fun _ => rfl) dX7_putFour_37 ?_
  refine go_iincv (pc := 40) (y := 0) (Nat.le_of_ble_eq_true rfl) rfl (by decide) dX7_putFour_40 (go_lv (lv2 := [(0, .ref 0), (1, .int (xs 2)), (2, .int 0)]) rfl ?_)
  refine go_goto (pc := 43) (tgt := 3) (by decide) dX7_putFour_43 ?_
  refine go_iload_n (pc := 3) rfl dX7_putFour_3 ?_
  refine go_if_lt (pc := 4) (tgt := 46) (by decide) dX7_putFour_4 (fun q => absurd q (by decide)) (fun _ => ?_)
  refine go_aload_n (pc := 7) rfl dX7_putFour_7 ?_
  refine go_getI (pc := 8) fL_X7_13 (g_shI (g_shI (g_shI (g_shI (g_shI (g_shI (g_shI (g_shI (g_shI (g_shI (g_shI (g_shI (g_shI (g_shI (g_sh hpS rfl))))))))))))))) (Nat.le_of_ble_eq_true rfl) rfl dX7_putFour_8 (go_topi (y := 7) g_iS ?_)
  refine go_sipush (pc := 11) (v := 500) (by decide) dX7_putFour_11 ?_
  refine go_icmp_ge (pc := 14) (tgt := 46) (by decide) dX7_putFour_14 (fun q => absurd q (by decide)) (fun _ => ?_)
  refine go_aload_n (pc := 17) rfl dX7_putFour_17 ?_
  refine go_getR (pc := 18) (v := .ref 1) fL_X7_9 (g_shI (g_shI (g_shI (g_shI (g_shI (g_shI (g_shI (g_shI (g_shI (g_shI (g_shI (g_shI (g_shI (g_shI (g_sh hpS rfl))))))))))))))) (Nat.le_of_ble_eq_true rfl) rfl (g_rI (g_rI (g_rI (g_rI (g_rI (g_rI (g_rI (g_rI (g_rI (g_rI (g_rI (g_rI (g_rI (g_rI hpr_0_0)))))))))))))) dX7_putFour_18 ?_
  refine go_aload_n (pc := 21) rfl dX7_putFour_21 ?_
  refine go_getI (pc := 22) fL_X7_13 (g_shI (g_shI (g_shI (g_shI (g_shI (g_shI (g_shI (g_shI (g_shI (g_shI (g_shI (g_shI (g_shI (g_shI (g_sh hpS rfl))))))))))))))) (Nat.le_of_ble_eq_true rfl) rfl dX7_putFour_22 (go_topi (y := 7) g_iS ?_)
  refine go_iload_n (pc := 25) rfl dX7_putFour_25 ?_
  refine go_iload_n (pc := 26) rfl dX7_putFour_26 ?_
  refine go_iushr (pc := 27) dX7_putFour_27 ?_
  refine go_i2b (pc := 28) dX7_putFour_28 ?_
  refine go_bastj (pc := 29) (j := 7) (g_shI (g_shI (g_shI (g_shI (g_shI (g_shI (g_shI (g_shI (g_shI (g_shI (g_shI (g_shI (g_shI (g_shI (g_sh hpS rfl))))))))))))))) (by decide +kernel) (by decide +kernel) dX7_putFour_29 ?_
  refine go_aload_n (pc := 30) rfl dX7_putFour_30 ?_
  refine go_dup (pc := 31) rfl dX7_putFour_31 ?_
  refine go_getI (pc := 32) fL_X7_13 (g_shI (g_shI (g_shI (g_shI (g_shI (g_shI (g_shI (g_shI (g_shI (g_shI (g_shI (g_shI (g_shI (g_shI (g_shI (g_sh hpS rfl)))))))))))))))) (Nat.le_of_ble_eq_true rfl) rfl dX7_putFour_32 (go_topi (y := 7) (g_iI rfl g_iS) ?_)
  refine go_iconst (pc := 35) (v := 1) (by decide) dX7_putFour_35 ?_
  refine go_iadd (pc := 36) dX7_putFour_36 (go_topi (y := 8) (by decide) ?_)
  refine go_putI (pc := 37) (fP_X7_13 _) (g_shI (g_shI (g_shI (g_shI (g_shI (g_shI (g_shI (g_shI (g_shI (g_shI (g_shI (g_shI (g_shI (g_shI (g_shI (g_sh hpS rfl)))))))))))))))) (Nat.le_of_ble_eq_true rfl) rfl (fun _ => rfl) (fun _ => rfl) dX7_putFour_37 ?_
  refine go_iincv (pc := 40) (y := (-8)) (Nat.le_of_ble_eq_true rfl) rfl (by decide) dX7_putFour_40 (go_lv (lv2 := [(0, .ref 0), (1, .int (xs 2)), (2, .int (-8))]) rfl ?_)
  refine go_goto (pc := 43) (tgt := 3) (by decide) dX7_putFour_43 ?_
  refine go_iload_n (pc := 3) rfl dX7_putFour_3 ?_
  refine go_if_lt (pc := 4) (tgt := 46) (by decide) dX7_putFour_4 (fun _ => ?_) (fun q => absurd q (by decide))
  exact go_vret (pc := 46) (⟨rfl, rfl⟩) (g_lnI (g_lnI (g_lnI (g_lnI (g_lnI (g_lnI (g_lnI (g_lnI (g_lnI (g_lnI (g_lnI (g_lnI (g_lnI (g_lnI (g_lnI (g_lnI hpN)))))))))))))))) (Nat.le_of_ble_eq_true rfl) dX7_putFour_46
set_option maxHeartbeats 4000000 in
set_option maxRecDepth 100000 in
theorem k13_X7_putFour (l : Launch) (xs : Nat → Int32) : Mt l yX7_putFour cX7_putFour 3 none 1 [.ref 0, .int (xs 3)] (hI (hI (hI (hI (hI (hI (hI (hI (hI (hI (hI (hI (hI (hI (hI (hI hz10 1 0 (vp_nar .byte ((((xs 1).toUInt32 >>> ((24 : Int32).toUInt32 &&& Int32.toUInt32 31)).toInt32).toInt8.toInt32))) 0 1 1) 1 1 (vp_nar .byte ((((xs 1).toUInt32 >>> ((16 : Int32).toUInt32 &&& Int32.toUInt32 31)).toInt32).toInt8.toInt32))) 0 1 2) 1 2 (vp_nar .byte ((((xs 1).toUInt32 >>> ((8 : Int32).toUInt32 &&& Int32.toUInt32 31)).toInt32).toInt8.toInt32))) 0 1 3) 1 3 (vp_nar .byte ((((xs 1).toUInt32 >>> ((0 : Int32).toUInt32 &&& Int32.toUInt32 31)).toInt32).toInt8.toInt32))) 0 1 4) 1 4 (vp_nar .byte ((((xs 2).toUInt32 >>> ((24 : Int32).toUInt32 &&& Int32.toUInt32 31)).toInt32).toInt8.toInt32))) 0 1 5) 1 5 (vp_nar .byte ((((xs 2).toUInt32 >>> ((16 : Int32).toUInt32 &&& Int32.toUInt32 31)).toInt32).toInt8.toInt32))) 0 1 6) 1 6 (vp_nar .byte ((((xs 2).toUInt32 >>> ((8 : Int32).toUInt32 &&& Int32.toUInt32 31)).toInt32).toInt8.toInt32))) 0 1 7) 1 7 (vp_nar .byte ((((xs 2).toUInt32 >>> ((0 : Int32).toUInt32 &&& Int32.toUInt32 31)).toInt32).toInt8.toInt32))) 0 1 8) 0 0 (fun r h' => r = none ∧ h' = hI (hI (hI (hI (hI (hI (hI (hI (hI (hI (hI (hI (hI (hI (hI (hI (hI (hI (hI (hI (hI (hI (hI (hI hz10 1 0 (vp_nar .byte ((((xs 1).toUInt32 >>> ((24 : Int32).toUInt32 &&& Int32.toUInt32 31)).toInt32).toInt8.toInt32))) 0 1 1) 1 1 (vp_nar .byte ((((xs 1).toUInt32 >>> ((16 : Int32).toUInt32 &&& Int32.toUInt32 31)).toInt32).toInt8.toInt32))) 0 1 2) 1 2 (vp_nar .byte ((((xs 1).toUInt32 >>> ((8 : Int32).toUInt32 &&& Int32.toUInt32 31)).toInt32).toInt8.toInt32))) 0 1 3) 1 3 (vp_nar .byte ((((xs 1).toUInt32 >>> ((0 : Int32).toUInt32 &&& Int32.toUInt32 31)).toInt32).toInt8.toInt32))) 0 1 4) 1 4 (vp_nar .byte ((((xs 2).toUInt32 >>> ((24 : Int32).toUInt32 &&& Int32.toUInt32 31)).toInt32).toInt8.toInt32))) 0 1 5) 1 5 (vp_nar .byte ((((xs 2).toUInt32 >>> ((16 : Int32).toUInt32 &&& Int32.toUInt32 31)).toInt32).toInt8.toInt32))) 0 1 6) 1 6 (vp_nar .byte ((((xs 2).toUInt32 >>> ((8 : Int32).toUInt32 &&& Int32.toUInt32 31)).toInt32).toInt8.toInt32))) 0 1 7) 1 7 (vp_nar .byte ((((xs 2).toUInt32 >>> ((0 : Int32).toUInt32 &&& Int32.toUInt32 31)).toInt32).toInt8.toInt32))) 0 1 8) 1 8 (vp_nar .byte ((((xs 3).toUInt32 >>> ((24 : Int32).toUInt32 &&& Int32.toUInt32 31)).toInt32).toInt8.toInt32))) 0 1 9) 1 9 (vp_nar .byte ((((xs 3).toUInt32 >>> ((16 : Int32).toUInt32 &&& Int32.toUInt32 31)).toInt32).toInt8.toInt32))) 0 1 10) 1 10 (vp_nar .byte ((((xs 3).toUInt32 >>> ((8 : Int32).toUInt32 &&& Int32.toUInt32 31)).toInt32).toInt8.toInt32))) 0 1 11) 1 11 (vp_nar .byte ((((xs 3).toUInt32 >>> ((0 : Int32).toUInt32 &&& Int32.toUInt32 31)).toInt32).toInt8.toInt32))) 0 1 12) := by
  refine Mt_ofn 117 (g_lnI (g_lnI (g_lnI (g_lnI (g_lnI (g_lnI (g_lnI (g_lnI (g_lnI (g_lnI (g_lnI (g_lnI (g_lnI (g_lnI (g_lnI (g_lnI hpN)))))))))))))))) (by decide) (Nat.le_of_ble_eq_true rfl) ?_
  show Go l RX7 cX7_putFour 3 (g_rm 1 0 0) "putFour" none 117 0 0 _ _ 0 0 [(0, .ref 0), (1, .int (xs 3))] [] (hI (hI (hI (hI (hI (hI (hI (hI (hI (hI (hI (hI (hI (hI (hI (hI hz10 1 0 (vp_nar .byte ((((xs 1).toUInt32 >>> ((24 : Int32).toUInt32 &&& Int32.toUInt32 31)).toInt32).toInt8.toInt32))) 0 1 1) 1 1 (vp_nar .byte ((((xs 1).toUInt32 >>> ((16 : Int32).toUInt32 &&& Int32.toUInt32 31)).toInt32).toInt8.toInt32))) 0 1 2) 1 2 (vp_nar .byte ((((xs 1).toUInt32 >>> ((8 : Int32).toUInt32 &&& Int32.toUInt32 31)).toInt32).toInt8.toInt32))) 0 1 3) 1 3 (vp_nar .byte ((((xs 1).toUInt32 >>> ((0 : Int32).toUInt32 &&& Int32.toUInt32 31)).toInt32).toInt8.toInt32))) 0 1 4) 1 4 (vp_nar .byte ((((xs 2).toUInt32 >>> ((24 : Int32).toUInt32 &&& Int32.toUInt32 31)).toInt32).toInt8.toInt32))) 0 1 5) 1 5 (vp_nar .byte ((((xs 2).toUInt32 >>> ((16 : Int32).toUInt32 &&& Int32.toUInt32 31)).toInt32).toInt8.toInt32))) 0 1 6) 1 6 (vp_nar .byte ((((xs 2).toUInt32 >>> ((8 : Int32).toUInt32 &&& Int32.toUInt32 31)).toInt32).toInt8.toInt32))) 0 1 7) 1 7 (vp_nar .byte ((((xs 2).toUInt32 >>> ((0 : Int32).toUInt32 &&& Int32.toUInt32 31)).toInt32).toInt8.toInt32))) 0 1 8)
  refine go_bipush (pc := 0) (v := 24) (by decide) dX7_putFour_0 ?_
  refine go_istore_n (pc := 2) (Nat.le_of_ble_eq_true rfl) dX7_putFour_2 (go_lv (lv2 := [(0, .ref 0), (1, .int (xs 3)), (2, .int 24)]) rfl ?_)
  refine go_iload_n (pc := 3) rfl dX7_putFour_3 ?_
  refine go_if_lt (pc := 4) (tgt := 46) (by decide) dX7_putFour_4 (fun q => absurd q (by decide)) (fun _ => ?_)
  refine go_aload_n (pc := 7) rfl dX7_putFour_7 ?_
  refine go_getI (pc := 8) fL_X7_13 (g_shI (g_shI (g_shI (g_shI (g_shI (g_shI (g_shI (g_shI (g_shI (g_shI (g_shI (g_shI (g_shI (g_shI (g_shI (g_shI (g_sh hpS rfl))))))))))))))))) (Nat.le_of_ble_eq_true rfl) rfl dX7_putFour_8 (go_topi (y := 8) g_iS ?_)
  refine go_sipush (pc := 11) (v := 500) (by decide) dX7_putFour_11 ?_
  refine go_icmp_ge (pc := 14) (tgt := 46) (by decide) dX7_putFour_14 (fun q => absurd q (by decide)) (fun _ => ?_)
  refine go_aload_n (pc := 17) rfl dX7_putFour_17 ?_
  refine go_getR (pc := 18) (v := .ref 1) fL_X7_9 (g_shI (g_shI (g_shI (g_shI (g_shI (g_shI (g_shI (g_shI (g_shI (g_shI (g_shI (g_shI (g_shI (g_shI (g_shI (g_shI (g_sh hpS rfl))))))))))))))))) (Nat.le_of_ble_eq_true rfl) rfl (g_rI (g_rI (g_rI (g_rI (g_rI (g_rI (g_rI (g_rI (g_rI (g_rI (g_rI (g_rI (g_rI (g_rI (g_rI (g_rI hpr_0_0)))))))))))))))) dX7_putFour_18 ?_
  refine go_aload_n (pc := 21) rfl dX7_putFour_21 ?_
  refine go_getI (pc := 22) fL_X7_13 (g_shI (g_shI (g_shI (g_shI (g_shI (g_shI (g_shI (g_shI (g_shI (g_shI (g_shI (g_shI (g_shI (g_shI (g_shI (g_shI (g_sh hpS rfl))))))))))))))))) (Nat.le_of_ble_eq_true rfl) rfl dX7_putFour_22 (go_topi (y := 8) g_iS ?_)
  refine go_iload_n (pc := 25) rfl dX7_putFour_25 ?_
  refine go_iload_n (pc := 26) rfl dX7_putFour_26 ?_
  refine go_iushr (pc := 27) dX7_putFour_27 ?_
  refine go_i2b (pc := 28) dX7_putFour_28 ?_
  refine go_bastj (pc := 29) (j := 8) (g_shI (g_shI (g_shI (g_shI (g_shI (g_shI (g_shI (g_shI (g_shI (g_shI (g_shI (g_shI (g_shI (g_shI (g_shI (g_shI (g_sh hpS rfl))))))))))))))))) (by decide +kernel) (by decide +kernel) dX7_putFour_29 ?_
  refine go_aload_n (pc := 30) rfl dX7_putFour_30 ?_
  refine go_dup (pc := 31) rfl dX7_putFour_31 ?_
  refine go_getI (pc := 32) fL_X7_13 (g_shI (g_shI (g_shI (g_shI (g_shI (g_shI (g_shI (g_shI (g_shI (g_shI (g_shI (g_shI (g_shI (g_shI (g_shI (g_shI (g_shI (g_sh hpS rfl)))))))))))))))))) (Nat.le_of_ble_eq_true rfl) rfl dX7_putFour_32 (go_topi (y := 8) (g_iI rfl g_iS) ?_)
  refine go_iconst (pc := 35) (v := 1) (by decide) dX7_putFour_35 ?_
  refine go_iadd (pc := 36) dX7_putFour_36 (go_topi (y := 9) (by decide) ?_)
  refine go_putI (pc := 37) (fP_X7_13 _) (g_shI (g_shI (g_shI (g_shI (g_shI (g_shI (g_shI (g_shI (g_shI (g_shI (g_shI (g_shI (g_shI (g_shI (g_shI (g_shI (g_shI (g_sh hpS rfl)))))))))))))))))) (Nat.le_of_ble_eq_true rfl) rfl (fun _ => rfl) (fun _ => rfl) dX7_putFour_37 ?_
  refine go_iincv (pc := 40) (y := 16) (Nat.le_of_ble_eq_true rfl) rfl (by decide) dX7_putFour_40 (go_lv (lv2 := [(0, .ref 0), (1, .int (xs 3)), (2, .int 16)]) rfl ?_)
  refine go_goto (pc := 43) (tgt := 3) (by decide) dX7_putFour_43 ?_
  refine go_iload_n (pc := 3) rfl dX7_putFour_3 ?_
  refine go_if_lt (pc := 4) (tgt := 46) (by decide) dX7_putFour_4 (fun q => absurd q (by decide)) (fun _ => ?_)
  refine go_aload_n (pc := 7) rfl dX7_putFour_7 ?_
  refine go_getI (pc := 8) fL_X7_13 (g_shI (g_shI (g_shI (g_shI (g_shI (g_shI (g_shI (g_shI (g_shI (g_shI (g_shI (g_shI (g_shI (g_shI (g_shI (g_shI (g_shI (g_shI (g_sh hpS rfl))))))))))))))))))) (Nat.le_of_ble_eq_true rfl) rfl dX7_putFour_8 (go_topi (y := 9) g_iS ?_)
  refine go_sipush (pc := 11) (v := 500) (by decide) dX7_putFour_11 ?_
  refine go_icmp_ge (pc := 14) (tgt := 46) (by decide) dX7_putFour_14 (fun q => absurd q (by decide)) (fun _ => ?_)
  refine go_aload_n (pc := 17) rfl dX7_putFour_17 ?_
  refine go_getR (pc := 18) (v := .ref 1) fL_X7_9 (g_shI (g_shI (g_shI (g_shI (g_shI (g_shI (g_shI (g_shI (g_shI (g_shI (g_shI (g_shI (g_shI (g_shI (g_shI (g_shI (g_shI (g_shI (g_sh hpS rfl))))))))))))))))))) (Nat.le_of_ble_eq_true rfl) rfl (g_rI (g_rI (g_rI (g_rI (g_rI (g_rI (g_rI (g_rI (g_rI (g_rI (g_rI (g_rI (g_rI (g_rI (g_rI (g_rI (g_rI (g_rI hpr_0_0)))))))))))))))))) dX7_putFour_18 ?_
  refine go_aload_n (pc := 21) rfl dX7_putFour_21 ?_
  refine go_getI (pc := 22) fL_X7_13 (g_shI (g_shI (g_shI (g_shI (g_shI (g_shI (g_shI (g_shI (g_shI (g_shI (g_shI (g_shI (g_shI (g_shI (g_shI (g_shI (g_shI (g_shI (g_sh hpS rfl))))))))))))))))))) (Nat.le_of_ble_eq_true rfl) rfl dX7_putFour_22 (go_topi (y := 9) g_iS ?_)
  refine go_iload_n (pc := 25) rfl dX7_putFour_25 ?_
  refine go_iload_n (pc := 26) rfl dX7_putFour_26 ?_
  refine go_iushr (pc := 27) dX7_putFour_27 ?_
  refine go_i2b (pc := 28) dX7_putFour_28 ?_
  refine go_bastj (pc := 29) (j := 9) (g_shI (g_shI (g_shI (g_shI (g_shI (g_shI (g_shI (g_shI (g_shI (g_shI (g_shI (g_shI (g_shI (g_shI (g_shI (g_shI (g_shI (g_shI (g_sh hpS rfl))))))))))))))))))) (by decide +kernel) (by decide +kernel) dX7_putFour_29 ?_
  refine go_aload_n (pc := 30) rfl dX7_putFour_30 ?_
  refine go_dup (pc := 31) rfl dX7_putFour_31 ?_
  refine go_getI (pc := 32) fL_X7_13 (g_shI (g_shI (g_shI (g_shI (g_shI (g_shI (g_shI (g_shI (g_shI (g_shI (g_shI (g_shI (g_shI (g_shI (g_shI (g_shI (g_shI (g_shI (g_shI (g_sh hpS rfl)))))))))))))))))))) (Nat.le_of_ble_eq_true rfl) rfl dX7_putFour_32 (go_topi (y := 9) (g_iI rfl g_iS) ?_)
  refine go_iconst (pc := 35) (v := 1) (by decide) dX7_putFour_35 ?_
  refine go_iadd (pc := 36) dX7_putFour_36 (go_topi (y := 10) (by decide) ?_)
  refine go_putI (pc := 37) (fP_X7_13 _) (g_shI (g_shI (g_shI (g_shI (g_shI (g_shI (g_shI (g_shI (g_shI (g_shI (g_shI (g_shI (g_shI (g_shI (g_shI (g_shI (g_shI (g_shI (g_shI (g_sh hpS rfl)))))))))))))))))))) (Nat.le_of_ble_eq_true rfl) rfl (fun _ => rfl) (fun _ => rfl) dX7_putFour_37 ?_
  refine go_iincv (pc := 40) (y := 8) (Nat.le_of_ble_eq_true rfl) rfl (by decide) dX7_putFour_40 (go_lv (lv2 := [(0, .ref 0), (1, .int (xs 3)), (2, .int 8)]) rfl ?_)
  refine go_goto (pc := 43) (tgt := 3) (by decide) dX7_putFour_43 ?_
  refine go_iload_n (pc := 3) rfl dX7_putFour_3 ?_
  refine go_if_lt (pc := 4) (tgt := 46) (by decide) dX7_putFour_4 (fun q => absurd q (by decide)) (fun _ => ?_)
  refine go_aload_n (pc := 7) rfl dX7_putFour_7 ?_
  refine go_getI (pc := 8) fL_X7_13 (g_shI (g_shI (g_shI (g_shI (g_shI (g_shI (g_shI (g_shI (g_shI (g_shI (g_shI (g_shI (g_shI (g_shI (g_shI (g_shI (g_shI (g_shI (g_shI (g_shI (g_sh hpS rfl))))))))))))))))))))) (Nat.le_of_ble_eq_true rfl) rfl dX7_putFour_8 (go_topi (y := 10) g_iS ?_)
  refine go_sipush (pc := 11) (v := 500) (by decide) dX7_putFour_11 ?_
  refine go_icmp_ge (pc := 14) (tgt := 46) (by decide) dX7_putFour_14 (fun q => absurd q (by decide)) (fun _ => ?_)
  refine go_aload_n (pc := 17) rfl dX7_putFour_17 ?_
  refine go_getR (pc := 18) (v := .ref 1) fL_X7_9 (g_shI (g_shI (g_shI (g_shI (g_shI (g_shI (g_shI (g_shI (g_shI (g_shI (g_shI (g_shI (g_shI (g_shI (g_shI (g_shI (g_shI (g_shI (g_shI (g_shI (g_sh hpS rfl))))))))))))))))))))) (Nat.le_of_ble_eq_true rfl) rfl (g_rI (g_rI (g_rI (g_rI (g_rI (g_rI (g_rI (g_rI (g_rI (g_rI (g_rI (g_rI (g_rI (g_rI (g_rI (g_rI (g_rI (g_rI (g_rI (g_rI hpr_0_0)))))))))))))))))))) dX7_putFour_18 ?_
  refine go_aload_n (pc := 21) rfl dX7_putFour_21 ?_
  refine go_getI (pc := 22) fL_X7_13 (g_shI (g_shI (g_shI (g_shI (g_shI (g_shI (g_shI (g_shI (g_shI (g_shI (g_shI (g_shI (g_shI (g_shI (g_shI (g_shI (g_shI (g_shI (g_shI (g_shI (g_sh hpS rfl))))))))))))))))))))) (Nat.le_of_ble_eq_true rfl) rfl dX7_putFour_22 (go_topi (y := 10) g_iS ?_)
  refine go_iload_n (pc := 25) rfl dX7_putFour_25 ?_
  refine go_iload_n (pc := 26) rfl dX7_putFour_26 ?_
  refine go_iushr (pc := 27) dX7_putFour_27 ?_
  refine go_i2b (pc := 28) dX7_putFour_28 ?_
  refine go_bastj (pc := 29) (j := 10) (g_shI (g_shI (g_shI (g_shI (g_shI (g_shI (g_shI (g_shI (g_shI (g_shI (g_shI (g_shI (g_shI (g_shI (g_shI (g_shI (g_shI (g_shI (g_shI (g_shI (g_sh hpS rfl))))))))))))))))))))) (by decide +kernel) (by decide +kernel) dX7_putFour_29 ?_
  refine go_aload_n (pc := 30) rfl dX7_putFour_30 ?_
  refine go_dup (pc := 31) rfl dX7_putFour_31 ?_
  refine go_getI (pc := 32) fL_X7_13 (g_shI (g_shI (g_shI (g_shI (g_shI (g_shI (g_shI (g_shI (g_shI (g_shI (g_shI (g_shI (g_shI (g_shI (g_shI (g_shI (g_shI (g_shI (g_shI (g_shI (g_shI (g_sh hpS rfl)))))))))))))))))))))) (Nat.le_of_ble_eq_true rfl) rfl dX7_putFour_32 (go_topi (y := 10) (g_iI rfl g_iS) ?_)
  refine go_iconst (pc := 35) (v := 1) (by decide) dX7_putFour_35 ?_
  refine go_iadd (pc := 36) dX7_putFour_36 (go_topi (y := 11) (by decide) ?_)
  refine go_putI (pc := 37) (fP_X7_13 _) (g_shI (g_shI (g_shI (g_shI (g_shI (g_shI (g_shI (g_shI (g_shI (g_shI (g_shI (g_shI (g_shI (g_shI (g_shI (g_shI (g_shI (g_shI (g_shI (g_shI (g_shI (g_sh hpS rfl)))))))))))))))))))))) (Nat.le_of_ble_eq_true rfl) rfl (fun _ => rfl) (fun _ => rfl) dX7_putFour_37 ?_
  refine go_iincv (pc := 40) (y := 0) (Nat.le_of_ble_eq_true rfl) rfl (by decide) dX7_putFour_40 (go_lv (lv2 := [(0, .ref 0), (1, .int (xs 3)), (2, .int 0)]) rfl ?_)
  refine go_goto (pc := 43) (tgt := 3) (by decide) dX7_putFour_43 ?_
  refine go_iload_n (pc := 3) rfl dX7_putFour_3 ?_
  refine go_if_lt (pc := 4) (tgt := 46) (by decide) dX7_putFour_4 (fun q => absurd q (by decide)) (fun _ => ?_)
  refine go_aload_n (pc := 7) rfl dX7_putFour_7 ?_
  refine go_getI (pc := 8) fL_X7_13 (g_shI (g_shI (g_shI (g_shI (g_shI (g_shI (g_shI (g_shI (g_shI (g_shI (g_shI (g_shI (g_shI (g_shI (g_shI (g_shI (g_shI (g_shI (g_shI (g_shI (g_shI (g_shI (g_sh hpS rfl))))))))))))))))))))))) (Nat.le_of_ble_eq_true rfl) rfl dX7_putFour_8 (go_topi (y := 11) g_iS ?_)
  refine go_sipush (pc := 11) (v := 500) (by decide) dX7_putFour_11 ?_
  refine go_icmp_ge (pc := 14) (tgt := 46) (by decide) dX7_putFour_14 (fun q => absurd q (by decide)) (fun _ => ?_)
  refine go_aload_n (pc := 17) rfl dX7_putFour_17 ?_
  refine go_getR (pc := 18) (v := .ref 1) fL_X7_9 (g_shI (g_shI (g_shI (g_shI (g_shI (g_shI (g_shI (g_shI (g_shI (g_shI (g_shI (g_shI (g_shI (g_shI (g_shI (g_shI (g_shI (g_shI (g_shI (g_shI (g_shI (g_shI (g_sh hpS rfl))))))))))))))))))))))) (Nat.le_of_ble_eq_true rfl) rfl (g_rI (g_rI (g_rI (g_rI (g_rI (g_rI (g_rI (g_rI (g_rI (g_rI (g_rI (g_rI (g_rI (g_rI (g_rI (g_rI (g_rI (g_rI (g_rI (g_rI (g_rI (g_rI hpr_0_0)))))))))))))))))))))) dX7_putFour_18 ?_
  refine go_aload_n (pc := 21) rfl dX7_putFour_21 ?_
  refine go_getI (pc := 22) fL_X7_13 (g_shI (g_shI (g_shI (g_shI (g_shI (g_shI (g_shI (g_shI (g_shI (g_shI (g_shI (g_shI (g_shI (g_shI (g_shI (g_shI (g_shI (g_shI (g_shI (g_shI (g_shI (g_shI (g_sh hpS rfl))))))))))))))))))))))) (Nat.le_of_ble_eq_true rfl) rfl dX7_putFour_22 (go_topi (y := 11) g_iS ?_)
  refine go_iload_n (pc := 25) rfl dX7_putFour_25 ?_
  refine go_iload_n (pc := 26) rfl dX7_putFour_26 ?_
  refine go_iushr (pc := 27) dX7_putFour_27 ?_
  refine go_i2b (pc := 28) dX7_putFour_28 ?_
  refine go_bastj (pc := 29) (j := 11) (g_shI (g_shI (g_shI (g_shI (g_shI (g_shI (g_shI (g_shI (g_shI (g_shI (g_shI (g_shI (g_shI (g_shI (g_shI (g_shI (g_shI (g_shI (g_shI (g_shI (g_shI (g_shI (g_sh hpS rfl))))))))))))))))))))))) (by decide +kernel) (by decide +kernel) dX7_putFour_29 ?_
  refine go_aload_n (pc := 30) rfl dX7_putFour_30 ?_
  refine go_dup (pc := 31) rfl dX7_putFour_31 ?_
  refine go_getI (pc := 32) fL_X7_13 (g_shI (g_shI (g_shI (g_shI (g_shI (g_shI (g_shI (g_shI (g_shI (g_shI (g_shI (g_shI (g_shI (g_shI (g_shI (g_shI (g_shI (g_shI (g_shI (g_shI (g_shI (g_shI (g_shI (g_sh hpS rfl)))))))))))))))))))))))) (Nat.le_of_ble_eq_true rfl) rfl dX7_putFour_32 (go_topi (y := 11) (g_iI rfl g_iS) ?_)
  refine go_iconst (pc := 35) (v := 1) (by decide) dX7_putFour_35 ?_
  refine go_iadd (pc := 36) dX7_putFour_36 (go_topi (y := 12) (by decide) ?_)
  refine go_putI (pc := 37) (fP_X7_13 _) (g_shI (g_shI (g_shI (g_shI (g_shI (g_shI (g_shI (g_shI (g_shI (g_shI (g_shI (g_shI (g_shI (g_shI (g_shI (g_shI (g_shI (g_shI (g_shI (g_shI (g_shI (g_shI (g_shI (g_sh hpS rfl)))))))))))))))))))))))) (Nat.le_of_ble_eq_true rfl) rfl (fun _ => rfl) (fun _ => rfl) dX7_putFour_37 ?_
  refine go_iincv (pc := 40) (y := (-8)) (Nat.le_of_ble_eq_true rfl) rfl (by decide) dX7_putFour_40 (go_lv (lv2 := [(0, .ref 0), (1, .int (xs 3)), (2, .int (-8))]) rfl ?_)
  refine go_goto (pc := 43) (tgt := 3) (by decide) dX7_putFour_43 ?_
  refine go_iload_n (pc := 3) rfl dX7_putFour_3 ?_
  refine go_if_lt (pc := 4) (tgt := 46) (by decide) dX7_putFour_4 (fun _ => ?_) (fun q => absurd q (by decide))
  exact go_vret (pc := 46) (⟨rfl, rfl⟩) (g_lnI (g_lnI (g_lnI (g_lnI (g_lnI (g_lnI (g_lnI (g_lnI (g_lnI (g_lnI (g_lnI (g_lnI (g_lnI (g_lnI (g_lnI (g_lnI (g_lnI (g_lnI (g_lnI (g_lnI (g_lnI (g_lnI (g_lnI (g_lnI hpN)))))))))))))))))))))))) (Nat.le_of_ble_eq_true rfl) dX7_putFour_46
set_option maxHeartbeats 4000000 in
set_option maxRecDepth 100000 in
theorem k14_X7_putFour (l : Launch) (xs : Nat → Int32) : Mt l yX7_putFour cX7_putFour 3 none 1 [.ref 0, .int (xs 4)] (hI (hI (hI (hI (hI (hI (hI (hI (hI (hI (hI (hI (hI (hI (hI (hI (hI (hI (hI (hI (hI (hI (hI (hI hz10 1 0 (vp_nar .byte ((((xs 1).toUInt32 >>> ((24 : Int32).toUInt32 &&& Int32.toUInt32 31)).toInt32).toInt8.toInt32))) 0 1 1) 1 1 (vp_nar .byte ((((xs 1).toUInt32 >>> ((16 : Int32).toUInt32 &&& Int32.toUInt32 31)).toInt32).toInt8.toInt32))) 0 1 2) 1 2 (vp_nar .byte ((((xs 1).toUInt32 >>> ((8 : Int32).toUInt32 &&& Int32.toUInt32 31)).toInt32).toInt8.toInt32))) 0 1 3) 1 3 (vp_nar .byte ((((xs 1).toUInt32 >>> ((0 : Int32).toUInt32 &&& Int32.toUInt32 31)).toInt32).toInt8.toInt32))) 0 1 4) 1 4 (vp_nar .byte ((((xs 2).toUInt32 >>> ((24 : Int32).toUInt32 &&& Int32.toUInt32 31)).toInt32).toInt8.toInt32))) 0 1 5) 1 5 (vp_nar .byte ((((xs 2).toUInt32 >>> ((16 : Int32).toUInt32 &&& Int32.toUInt32 31)).toInt32).toInt8.toInt32))) 0 1 6) 1 6 (vp_nar .byte ((((xs 2).toUInt32 >>> ((8 : Int32).toUInt32 &&& Int32.toUInt32 31)).toInt32).toInt8.toInt32))) 0 1 7) 1 7 (vp_nar .byte ((((xs 2).toUInt32 >>> ((0 : Int32).toUInt32 &&& Int32.toUInt32 31)).toInt32).toInt8.toInt32))) 0 1 8) 1 8 (vp_nar .byte ((((xs 3).toUInt32 >>> ((24 : Int32).toUInt32 &&& Int32.toUInt32 31)).toInt32).toInt8.toInt32))) 0 1 9) 1 9 (vp_nar .byte ((((xs 3).toUInt32 >>> ((16 : Int32).toUInt32 &&& Int32.toUInt32 31)).toInt32).toInt8.toInt32))) 0 1 10) 1 10 (vp_nar .byte ((((xs 3).toUInt32 >>> ((8 : Int32).toUInt32 &&& Int32.toUInt32 31)).toInt32).toInt8.toInt32))) 0 1 11) 1 11 (vp_nar .byte ((((xs 3).toUInt32 >>> ((0 : Int32).toUInt32 &&& Int32.toUInt32 31)).toInt32).toInt8.toInt32))) 0 1 12) 0 0 (fun r h' => r = none ∧ h' = hI (hI (hI (hI (hI (hI (hI (hI (hI (hI (hI (hI (hI (hI (hI (hI (hI (hI (hI (hI (hI (hI (hI (hI (hI (hI (hI (hI (hI (hI (hI (hI hz10 1 0 (vp_nar .byte ((((xs 1).toUInt32 >>> ((24 : Int32).toUInt32 &&& Int32.toUInt32 31)).toInt32).toInt8.toInt32))) 0 1 1) 1 1 (vp_nar .byte ((((xs 1).toUInt32 >>> ((16 : Int32).toUInt32 &&& Int32.toUInt32 31)).toInt32).toInt8.toInt32))) 0 1 2) 1 2 (vp_nar .byte ((((xs 1).toUInt32 >>> ((8 : Int32).toUInt32 &&& Int32.toUInt32 31)).toInt32).toInt8.toInt32))) 0 1 3) 1 3 (vp_nar .byte ((((xs 1).toUInt32 >>> ((0 : Int32).toUInt32 &&& Int32.toUInt32 31)).toInt32).toInt8.toInt32))) 0 1 4) 1 4 (vp_nar .byte ((((xs 2).toUInt32 >>> ((24 : Int32).toUInt32 &&& Int32.toUInt32 31)).toInt32).toInt8.toInt32))) 0 1 5) 1 5 (vp_nar .byte ((((xs 2).toUInt32 >>> ((16 : Int32).toUInt32 &&& Int32.toUInt32 31)).toInt32).toInt8.toInt32))) 0 1 6) 1 6 (vp_nar .byte ((((xs 2).toUInt32 >>> ((8 : Int32).toUInt32 &&& Int32.toUInt32 31)).toInt32).toInt8.toInt32))) 0 1 7) 1 7 (vp_nar .byte ((((xs 2).toUInt32 >>> ((0 : Int32).toUInt32 &&& Int32.toUInt32 31)).toInt32).toInt8.toInt32))) 0 1 8) 1 8 (vp_nar .byte ((((xs 3).toUInt32 >>> ((24 : Int32).toUInt32 &&& Int32.toUInt32 31)).toInt32).toInt8.toInt32))) 0 1 9) 1 9 (vp_nar .byte ((((xs 3).toUInt32 >>> ((16 : Int32).toUInt32 &&& Int32.toUInt32 31)).toInt32).toInt8.toInt32))) 0 1 10) 1 10 (vp_nar .byte ((((xs 3).toUInt32 >>> ((8 : Int32).toUInt32 &&& Int32.toUInt32 31)).toInt32).toInt8.toInt32))) 0 1 11) 1 11 (vp_nar .byte ((((xs 3).toUInt32 >>> ((0 : Int32).toUInt32 &&& Int32.toUInt32 31)).toInt32).toInt8.toInt32))) 0 1 12) 1 12 (vp_nar .byte ((((xs 4).toUInt32 >>> ((24 : Int32).toUInt32 &&& Int32.toUInt32 31)).toInt32).toInt8.toInt32))) 0 1 13) 1 13 (vp_nar .byte ((((xs 4).toUInt32 >>> ((16 : Int32).toUInt32 &&& Int32.toUInt32 31)).toInt32).toInt8.toInt32))) 0 1 14) 1 14 (vp_nar .byte ((((xs 4).toUInt32 >>> ((8 : Int32).toUInt32 &&& Int32.toUInt32 31)).toInt32).toInt8.toInt32))) 0 1 15) 1 15 (vp_nar .byte ((((xs 4).toUInt32 >>> ((0 : Int32).toUInt32 &&& Int32.toUInt32 31)).toInt32).toInt8.toInt32))) 0 1 16) := by
  refine Mt_ofn 117 (g_lnI (g_lnI (g_lnI (g_lnI (g_lnI (g_lnI (g_lnI (g_lnI (g_lnI (g_lnI (g_lnI (g_lnI (g_lnI (g_lnI (g_lnI (g_lnI (g_lnI (g_lnI (g_lnI (g_lnI (g_lnI (g_lnI (g_lnI (g_lnI hpN)))))))))))))))))))))))) (by decide) (Nat.le_of_ble_eq_true rfl) ?_
  show Go l RX7 cX7_putFour 3 (g_rm 1 0 0) "putFour" none 117 0 0 _ _ 0 0 [(0, .ref 0), (1, .int (xs 4))] [] (hI (hI (hI (hI (hI (hI (hI (hI (hI (hI (hI (hI (hI (hI (hI (hI (hI (hI (hI (hI (hI (hI (hI (hI hz10 1 0 (vp_nar .byte ((((xs 1).toUInt32 >>> ((24 : Int32).toUInt32 &&& Int32.toUInt32 31)).toInt32).toInt8.toInt32))) 0 1 1) 1 1 (vp_nar .byte ((((xs 1).toUInt32 >>> ((16 : Int32).toUInt32 &&& Int32.toUInt32 31)).toInt32).toInt8.toInt32))) 0 1 2) 1 2 (vp_nar .byte ((((xs 1).toUInt32 >>> ((8 : Int32).toUInt32 &&& Int32.toUInt32 31)).toInt32).toInt8.toInt32))) 0 1 3) 1 3 (vp_nar .byte ((((xs 1).toUInt32 >>> ((0 : Int32).toUInt32 &&& Int32.toUInt32 31)).toInt32).toInt8.toInt32))) 0 1 4) 1 4 (vp_nar .byte ((((xs 2).toUInt32 >>> ((24 : Int32).toUInt32 &&& Int32.toUInt32 31)).toInt32).toInt8.toInt32))) 0 1 5) 1 5 (vp_nar .byte ((((xs 2).toUInt32 >>> ((16 : Int32).toUInt32 &&& Int32.toUInt32 31)).toInt32).toInt8.toInt32))) 0 1 6) 1 6 (vp_nar .byte ((((xs 2).toUInt32 >>> ((8 : Int32).toUInt32 &&& Int32.toUInt32 31)).toInt32).toInt8.toInt32))) 0 1 7) 1 7 (vp_nar .byte ((((xs 2).toUInt32 >>> ((0 : Int32).toUInt32 &&& Int32.toUInt32 31)).toInt32).toInt8.toInt32))) 0 1 8) 1 8 (vp_nar .byte ((((xs 3).toUInt32 >>> ((24 : Int32).toUInt32 &&& Int32.toUInt32 31)).toInt32).toInt8.toInt32))) 0 1 9) 1 9 (vp_nar .byte ((((xs 3).toUInt32 >>> ((16 : Int32).toUInt32 &&& Int32.toUInt32 31)).toInt32).toInt8.toInt32))) 0 1 10) 1 10 (vp_nar .byte ((((xs 3).toUInt32 >>> ((8 : Int32).toUInt32 &&& Int32.toUInt32 31)).toInt32).toInt8.toInt32))) 0 1 11) 1 11 (vp_nar .byte ((((xs 3).toUInt32 >>> ((0 : Int32).toUInt32 &&& Int32.toUInt32 31)).toInt32).toInt8.toInt32))) 0 1 12)
  refine go_bipush (pc := 0) (v := 24) (by decide) dX7_putFour_0 ?_
  refine go_istore_n (pc := 2) (Nat.le_of_ble_eq_true rfl) dX7_putFour_2 (go_lv (lv2 := [(0, .ref 0), (1, .int (xs 4)), (2, .int 24)]) rfl ?_)
  refine go_iload_n (pc := 3) rfl dX7_putFour_3 ?_
  refine go_if_lt (pc := 4) (tgt := 46) (by decide) dX7_putFour_4 (fun q => absurd q (by decide)) (fun _ => ?_)
  refine go_aload_n (pc := 7) rfl dX7_putFour_7 ?_
  refine go_getI (pc := 8) fL_X7_13 (g_shI (g_shI (g_shI (g_shI (g_shI (g_shI (g_shI (g_shI (g_shI (g_shI (g_shI (g_shI (g_shI (g_shI (g_shI (g_shI (g_shI (g_shI (g_shI (g_shI (g_shI (g_shI (g_shI (g_shI (g_sh hpS rfl))))))))))))))))))))))))) (Nat.le_of_ble_eq_true rfl) rfl dX7_putFour_8 (go_topi (y := 12) g_iS ?_)
  refine go_sipush (pc := 11) (v := 500) (by decide) dX7_putFour_11 ?_
  refine go_icmp_ge (pc := 14) (tgt := 46) (by decide) dX7_putFour_14 (fun q => absurd q (by decide)) (fun _ => ?_)
  refine go_aload_n (pc := 17) rfl dX7_putFour_17 ?_
  refine go_getR (pc := 18) (v := .ref 1) fL_X7_9 (g_shI (g_shI (g_shI (g_shI (g_shI (g_shI (g_shI (g_shI (g_shI (g_shI (g_shI (g_shI (g_shI (g_shI (g_shI (g_shI (g_shI (g_shI (g_shI (g_shI (g_shI (g_shI (g_shI (g_shI (g_sh hpS rfl))))))))))))))))))))))))) (Nat.le_of_ble_eq_true rfl) rfl (g_rI (g_rI (g_rI (g_rI (g_rI (g_rI (g_rI (g_rI (g_rI (g_rI (g_rI (g_rI (g_rI (g_rI (g_rI (g_rI (g_rI (g_rI (g_rI (g_rI (g_rI (g_rI (g_rI (g_rI hpr_0_0)))))))))))))))))))))))) dX7_putFour_18 ?_
  refine go_aload_n (pc := 21) rfl dX7_putFour_21 ?_
  refine go_getI (pc := 22) fL_X7_13 (g_shI (g_shI (g_shI (g_shI (g_shI (g_shI (g_shI (g_shI (g_shI (g_shI (g_shI (g_shI (g_shI (g_shI (g_shI (g_shI (g_shI (g_shI (g_shI (g_shI (g_shI (g_shI (g_shI (g_shI (g_sh hpS rfl))))))))))))))))))))))))) (Nat.le_of_ble_eq_true rfl) rfl dX7_putFour_22 (go_topi (y := 12) g_iS ?_)
  refine go_iload_n (pc := 25) rfl dX7_putFour_25 ?_
  refine go_iload_n (pc := 26) rfl dX7_putFour_26 ?_
  refine go_iushr (pc := 27) dX7_putFour_27 ?_
  refine go_i2b (pc := 28) dX7_putFour_28 ?_
  refine go_bastj (pc := 29) (j := 12) (g_shI (g_shI (g_shI (g_shI (g_shI (g_shI (g_shI (g_shI (g_shI (g_shI (g_shI (g_shI (g_shI (g_shI (g_shI (g_shI (g_shI (g_shI (g_shI (g_shI (g_shI (g_shI (g_shI (g_shI (g_sh hpS rfl))))))))))))))))))))))))) (by decide +kernel) (by decide +kernel) dX7_putFour_29 ?_
  refine go_aload_n (pc := 30) rfl dX7_putFour_30 ?_
  refine go_dup (pc := 31) rfl dX7_putFour_31 ?_
  refine go_getI (pc := 32) fL_X7_13 (g_shI (g_shI (g_shI (g_shI (g_shI (g_shI (g_shI (g_shI (g_shI (g_shI (g_shI (g_shI (g_shI (g_shI (g_shI (g_shI (g_shI (g_shI (g_shI (g_shI (g_shI (g_shI (g_shI (g_shI (g_shI (g_sh hpS rfl)))))))))))))))))))))))))) (Nat.le_of_ble_eq_true rfl) rfl dX7_putFour_32 (go_topi (y := 12) (g_iI rfl g_iS) ?_)
  refine go_iconst (pc := 35) (v := 1) (by decide) dX7_putFour_35 ?_
  refine go_iadd (pc := 36) dX7_putFour_36 (go_topi (y := 13) (by decide) ?_)
  refine go_putI (pc := 37) (fP_X7_13 _) (g_shI (g_shI (g_shI (g_shI (g_shI (g_shI (g_shI (g_shI (g_shI (g_shI (g_shI (g_shI (g_shI (g_shI (g_shI (g_shI (g_shI (g_shI (g_shI (g_shI (g_shI (g_shI (g_shI (g_shI (g_shI (g_sh hpS rfl)))))))))))))))))))))))))) (Nat.le_of_ble_eq_true rfl) rfl (fun _ => rfl) (fun _ => rfl) dX7_putFour_37 ?_
  refine go_iincv (pc := 40) (y := 16) (Nat.le_of_ble_eq_true rfl) rfl (by decide) dX7_putFour_40 (go_lv (lv2 := [(0, .ref 0), (1, .int (xs 4)), (2, .int 16)]) rfl ?_)
  refine go_goto (pc := 43) (tgt := 3) (by decide) dX7_putFour_43 ?_
  refine go_iload_n (pc := 3) rfl dX7_putFour_3 ?_
  refine go_if_lt (pc := 4) (tgt := 46) (by decide) dX7_putFour_4 (fun q => absurd q (by decide)) (fun _ => ?_)
  refine go_aload_n (pc := 7) rfl dX7_putFour_7 ?_
  refine go_getI (pc := 8) fL_X7_13 (g_shI (g_shI (g_shI (g_shI (g_shI (g_shI (g_shI (g_shI (g_shI (g_shI (g_shI (g_shI (g_shI (g_shI (g_shI (g_shI (g_shI (g_shI (g_shI (g_shI (g_shI (g_shI (g_shI (g_shI (g_shI (g_shI (g_sh hpS rfl))))))))))))))))))))))))))) (Nat.le_of_ble_eq_true rfl) rfl dX7_putFour_8 (go_topi (y := 13) g_iS ?_)
  refine go_sipush (pc := 11) (v := 500) (by decide) dX7_putFour_11 ?_
  refine go_icmp_ge (pc := 14) (tgt := 46) (by decide) dX7_putFour_14 (fun q => absurd q (by decide)) (fun _ => ?_)
  refine go_aload_n (pc := 17) rfl dX7_putFour_17 ?_
  refine go_getR (pc := 18) (v := .ref 1) fL_X7_9 (g_shI (g_shI (g_shI (g_shI (g_shI (g_shI (g_shI (g_shI (g_shI (g_shI (g_shI (g_shI (g_shI (g_shI (g_shI (g_shI (g_shI (g_shI (g_shI (g_shI (g_shI (g_shI (g_shI (g_shI (g_shI (g_shI (g_sh hpS rfl))))))))))))))))))))))))))) (Nat.le_of_ble_eq_true rfl) rfl (g_rI (g_rI (g_rI (g_rI (g_rI (g_rI (g_rI (g_rI (g_rI (g_rI (g_rI (g_rI (g_rI (g_rI (g_rI (g_rI (g_rI (g_rI (g_rI (g_rI (g_rI (g_rI (g_rI (g_rI (g_rI (g_rI hpr_0_0)))))))))))))))))))))))))) dX7_putFour_18 ?_
  refine go_aload_n (pc := 21) rfl dX7_putFour_21 ?_
  refine go_getI (pc := 22) fL_X7_13 (g_shI (g_shI (g_shI (g_shI (g_shI (g_shI (g_shI (g_shI (g_shI (g_shI (g_shI (g_shI (g_shI (g_shI (g_shI (g_shI (g_shI (g_shI (g_shI (g_shI (g_shI (g_shI (g_shI (g_shI (g_shI (g_shI (g_sh hpS rfl))))))))))))))))))))))))))) (Nat.le_of_ble_eq_true rfl) rfl dX7_putFour_22 (go_topi (y := 13) g_iS ?_)
  refine go_iload_n (pc := 25) rfl dX7_putFour_25 ?_
  refine go_iload_n (pc := 26) rfl dX7_putFour_26 ?_
  refine go_iushr (pc := 27) dX7_putFour_27 ?_
  refine go_i2b (pc := 28) dX7_putFour_28 ?_
  refine go_bastj (pc := 29) (j := 13) (g_shI (g_shI (g_shI (g_shI (g_shI (g_shI (g_shI (g_shI (g_shI (g_shI (g_shI (g_shI (g_shI (g_shI (g_shI (g_shI (g_shI (g_shI (g_shI (g_shI (g_shI (g_shI (g_shI (g_shI (g_shI (g_shI (g_sh hpS rfl))))))))))))))))))))))))))) (by decide +kernel) (by decide +kernel) dX7_putFour_29 ?_
  refine go_aload_n (pc := 30) rfl dX7_putFour_30 ?_
  refine go_dup (pc := 31) rfl dX7_putFour_31 ?_
  refine go_getI (pc := 32) fL_X7_13 (g_shI (g_shI (g_shI (g_shI (g_shI (g_shI (g_shI (g_shI (g_shI (g_shI (g_shI (g_shI (g_shI (g_shI (g_shI (g_shI (g_shI (g_shI (g_shI (g_shI (g_shI (g_shI (g_shI (g_shI (g_shI (g_shI (g_shI (g_sh hpS rfl)))))))))))))))))))))))))))) (Nat.le_of_ble_eq_true rfl) rfl dX7_putFour_32 (go_topi (y := 13) (g_iI rfl g_iS) ?_)
  refine go_iconst (pc := 35) (v := 1) (by decide) dX7_putFour_35 ?_
  refine go_iadd (pc := 36) dX7_putFour_36 (go_topi (y := 14) (by decide) ?_)
  refine go_putI (pc := 37) (fP_X7_13 _) (g_shI (g_shI (g_shI (g_shI (g_shI (g_shI (g_shI (g_shI (g_shI (g_shI (g_shI (g_shI (g_shI (g_shI (g_shI (g_shI (g_shI (g_shI (g_shI (g_shI (g_shI (g_shI (g_shI (g_shI (g_shI (g_shI (g_shI (g_sh hpS rfl)))))))))))))))))))))))))))) (Nat.le_of_ble_eq_true rfl) rfl (fun _ => rfl) (fun _ => rfl) dX7_putFour_37 ?_
  refine go_iincv (pc := 40) (y := 8) (Nat.le_of_ble_eq_true rfl) rfl (by decide) dX7_putFour_40 (go_lv (lv2 := [(0, .ref 0), (1, .int (xs 4)), (2, .int 8)]) rfl ?_)
  refine go_goto (pc := 43) (tgt := 3) (by decide) dX7_putFour_43 ?_
  refine go_iload_n (pc := 3) rfl dX7_putFour_3 ?_
  refine go_if_lt (pc := 4) (tgt := 46) (by decide) dX7_putFour_4 (fun q => absurd q (by decide)) (fun _ => ?_)
  refine go_aload_n (pc := 7) rfl dX7_putFour_7 ?_
  refine go_getI (pc := 8) fL_X7_13 (g_shI (g_shI (g_shI (g_shI (g_shI (g_shI (g_shI (g_shI (g_shI (g_shI (g_shI (g_shI (g_shI (g_shI (g_shI (g_shI (g_shI (g_shI (g_shI (g_shI (g_shI (g_shI (g_shI (g_shI (g_shI (g_shI (g_shI (g_shI (g_sh hpS rfl))))))))))))))))))))))))))))) (Nat.le_of_ble_eq_true rfl) rfl dX7_putFour_8 (go_topi (y := 14) g_iS ?_)
  refine go_sipush (pc := 11) (v := 500) (by decide) dX7_putFour_11 ?_
  refine go_icmp_ge (pc := 14) (tgt := 46) (by decide) dX7_putFour_14 (fun q => absurd q (by decide)) (fun _ => ?_)
  refine go_aload_n (pc := 17) rfl dX7_putFour_17 ?_
  refine go_getR (pc := 18) (v := .ref 1) fL_X7_9 (g_shI (g_shI (g_shI (g_shI (g_shI (g_shI (g_shI (g_shI (g_shI (g_shI (g_shI (g_shI (g_shI (g_shI (g_shI (g_shI (g_shI (g_shI (g_shI (g_shI (g_shI (g_shI (g_shI (g_shI (g_shI (g_shI (g_shI (g_shI (g_sh hpS rfl))))))))))))))))))))))))))))) (Nat.le_of_ble_eq_true rfl) rfl (g_rI (g_rI (g_rI (g_rI (g_rI (g_rI (g_rI (g_rI (g_rI (g_rI (g_rI (g_rI (g_rI (g_rI (g_rI (g_rI (g_rI (g_rI (g_rI (g_rI (g_rI (g_rI (g_rI (g_rI (g_rI (g_rI (g_rI (g_rI hpr_0_0)))))))))))))))))))))))))))) dX7_putFour_18 ?_
  refine go_aload_n (pc := 21) rfl dX7_putFour_21 ?_
  refine go_getI (pc := 22) fL_X7_13 (g_shI (g_shI (g_shI (g_shI (g_shI (g_shI (g_shI (g_shI (g_shI (g_shI (g_shI (g_shI (g_shI (g_shI (g_shI (g_shI (g_shI (g_shI (g_shI (g_shI (g_shI (g_shI (g_shI (g_shI (g_shI (g_shI (g_shI (g_shI (g_sh hpS rfl))))))))))))))))))))))))))))) (Nat.le_of_ble_eq_true rfl) rfl dX7_putFour_22 (go_topi (y := 14) g_iS ?_)
  refine go_iload_n (pc := 25) rfl dX7_putFour_25 ?_
  refine go_iload_n (pc := 26) rfl dX7_putFour_26 ?_
  refine go_iushr (pc := 27) dX7_putFour_27 ?_
  refine go_i2b (pc := 28) dX7_putFour_28 ?_
  refine go_bastj (pc := 29) (j := 14) (g_shI (g_shI (g_shI (g_shI (g_shI (g_shI (g_shI (g_shI (g_shI (g_shI (g_shI (g_shI (g_shI (g_shI (g_shI (g_shI (g_shI (g_shI (g_shI (g_shI (g_shI (g_shI (g_shI (g_shI (g_shI (g_shI (g_shI (g_shI (g_sh hpS rfl))))))))))))))))))))))))))))) (by decide +kernel) (by decide +kernel) dX7_putFour_29 ?_
  refine go_aload_n (pc := 30) rfl dX7_putFour_30 ?_
  refine go_dup (pc := 31) rfl dX7_putFour_31 ?_
  refine go_getI (pc := 32) fL_X7_13 (g_shI (g_shI (g_shI (g_shI (g_shI (g_shI (g_shI (g_shI (g_shI (g_shI (g_shI (g_shI (g_shI (g_shI (g_shI (g_shI (g_shI (g_shI (g_shI (g_shI (g_shI (g_shI (g_shI (g_shI (g_shI (g_shI (g_shI (g_shI (g_shI (g_sh hpS rfl)))))))))))))))))))))))))))))) (Nat.le_of_ble_eq_true rfl) rfl dX7_putFour_32 (go_topi (y := 14) (g_iI rfl g_iS) ?_)
  refine go_iconst (pc := 35) (v := 1) (by decide) dX7_putFour_35 ?_
  refine go_iadd (pc := 36) dX7_putFour_36 (go_topi (y := 15) (by decide) ?_)
  refine go_putI (pc := 37) (fP_X7_13 _) (g_shI (g_shI (g_shI (g_shI (g_shI (g_shI (g_shI (g_shI (g_shI (g_shI (g_shI (g_shI (g_shI (g_shI (g_shI (g_shI (g_shI (g_shI (g_shI (g_shI (g_shI (g_shI (g_shI (g_shI (g_shI (g_shI (g_shI (g_shI (g_shI (g_sh hpS rfl)))))))))))))))))))))))))))))) (Nat.le_of_ble_eq_true rfl) rfl (fun _ => rfl) (fun _ => rfl) dX7_putFour_37 ?_
  refine go_iincv (pc := 40) (y := 0) (Nat.le_of_ble_eq_true rfl) rfl (by decide) dX7_putFour_40 (go_lv (lv2 := [(0, .ref 0), (1, .int (xs 4)), (2, .int 0)]) rfl ?_)
  refine go_goto (pc := 43) (tgt := 3) (by decide) dX7_putFour_43 ?_
  refine go_iload_n (pc := 3) rfl dX7_putFour_3 ?_
  refine go_if_lt (pc := 4) (tgt := 46) (by decide) dX7_putFour_4 (fun q => absurd q (by decide)) (fun _ => ?_)
  refine go_aload_n (pc := 7) rfl dX7_putFour_7 ?_
  refine go_getI (pc := 8) fL_X7_13 (g_shI (g_shI (g_shI (g_shI (g_shI (g_shI (g_shI (g_shI (g_shI (g_shI (g_shI (g_shI (g_shI (g_shI (g_shI (g_shI (g_shI (g_shI (g_shI (g_shI (g_shI (g_shI (g_shI (g_shI (g_shI (g_shI (g_shI (g_shI (g_shI (g_shI (g_sh hpS rfl))))))))))))))))))))))))))))))) (Nat.le_of_ble_eq_true rfl) rfl dX7_putFour_8 (go_topi (y := 15) g_iS ?_)
  refine go_sipush (pc := 11) (v := 500) (by decide) dX7_putFour_11 ?_
  refine go_icmp_ge (pc := 14) (tgt := 46) (by decide) dX7_putFour_14 (fun q => absurd q (by decide)) (fun _ => ?_)
  refine go_aload_n (pc := 17) rfl dX7_putFour_17 ?_
  refine go_getR (pc := 18) (v := .ref 1) fL_X7_9 (g_shI (g_shI (g_shI (g_shI (g_shI (g_shI (g_shI (g_shI (g_shI (g_shI (g_shI (g_shI (g_shI (g_shI (g_shI (g_shI (g_shI (g_shI (g_shI (g_shI (g_shI (g_shI (g_shI (g_shI (g_shI (g_shI (g_shI (g_shI (g_shI (g_shI (g_sh hpS rfl))))))))))))))))))))))))))))))) (Nat.le_of_ble_eq_true rfl) rfl (g_rI (g_rI (g_rI (g_rI (g_rI (g_rI (g_rI (g_rI (g_rI (g_rI (g_rI (g_rI (g_rI (g_rI (g_rI (g_rI (g_rI (g_rI (g_rI (g_rI (g_rI (g_rI (g_rI (g_rI (g_rI (g_rI (g_rI (g_rI (g_rI (g_rI hpr_0_0)))))))))))))))))))))))))))))) dX7_putFour_18 ?_
  refine go_aload_n (pc := 21) rfl dX7_putFour_21 ?_
  refine go_getI (pc := 22) fL_X7_13 (g_shI (g_shI (g_shI (g_shI (g_shI (g_shI (g_shI (g_shI (g_shI (g_shI (g_shI (g_shI (g_shI (g_shI (g_shI (g_shI (g_shI (g_shI (g_shI (g_shI (g_shI (g_shI (g_shI (g_shI (g_shI (g_shI (g_shI (g_shI (g_shI (g_shI (g_sh hpS rfl))))))))))))))))))))))))))))))) (Nat.le_of_ble_eq_true rfl) rfl dX7_putFour_22 (go_topi (y := 15) g_iS ?_)
  refine go_iload_n (pc := 25) rfl dX7_putFour_25 ?_
  refine go_iload_n (pc := 26) rfl dX7_putFour_26 ?_
  refine go_iushr (pc := 27) dX7_putFour_27 ?_
  refine go_i2b (pc := 28) dX7_putFour_28 ?_
  refine go_bastj (pc := 29) (j := 15) (g_shI (g_shI (g_shI (g_shI (g_shI (g_shI (g_shI (g_shI (g_shI (g_shI (g_shI (g_shI (g_shI (g_shI (g_shI (g_shI (g_shI (g_shI (g_shI (g_shI (g_shI (g_shI (g_shI (g_shI (g_shI (g_shI (g_shI (g_shI (g_shI (g_shI (g_sh hpS rfl))))))))))))))))))))))))))))))) (by decide +kernel) (by decide +kernel) dX7_putFour_29 ?_
  refine go_aload_n (pc := 30) rfl dX7_putFour_30 ?_
  refine go_dup (pc := 31) rfl dX7_putFour_31 ?_
  refine go_getI (pc := 32) fL_X7_13 (g_shI (g_shI (g_shI (g_shI (g_shI (g_shI (g_shI (g_shI (g_shI (g_shI (g_shI (g_shI (g_shI (g_shI (g_shI (g_shI (g_shI (g_shI (g_shI (g_shI (g_shI (g_shI (g_shI (g_shI (g_shI (g_shI (g_shI (g_shI (g_shI (g_shI (g_shI (g_sh hpS rfl)))))))))))))))))))))))))))))))) (Nat.le_of_ble_eq_true rfl) rfl dX7_putFour_32 (go_topi (y := 15) (g_iI rfl g_iS) ?_)
  refine go_iconst (pc := 35) (v := 1) (by decide) dX7_putFour_35 ?_
  refine go_iadd (pc := 36) dX7_putFour_36 (go_topi (y := 16) (by decide) ?_)
  refine go_putI (pc := 37) (fP_X7_13 _) (g_shI (g_shI (g_shI (g_shI (g_shI (g_shI (g_shI (g_shI (g_shI (g_shI (g_shI (g_shI (g_shI (g_shI (g_shI (g_shI (g_shI (g_shI (g_shI (g_shI (g_shI (g_shI (g_shI (g_shI (g_shI (g_shI (g_shI (g_shI (g_shI (g_shI (g_shI (g_sh hpS rfl)))))))))))))))))))))))))))))))) (Nat.le_of_ble_eq_true rfl) rfl (fun _ => rfl) (fun _ => rfl) dX7_putFour_37 ?_
  refine go_iincv (pc := 40) (y := (-8)) (Nat.le_of_ble_eq_true rfl) rfl (by decide) dX7_putFour_40 (go_lv (lv2 := [(0, .ref 0), (1, .int (xs 4)), (2, .int (-8))]) rfl ?_)
  refine go_goto (pc := 43) (tgt := 3) (by decide) dX7_putFour_43 ?_
  refine go_iload_n (pc := 3) rfl dX7_putFour_3 ?_
  refine go_if_lt (pc := 4) (tgt := 46) (by decide) dX7_putFour_4 (fun _ => ?_) (fun q => absurd q (by decide))
  exact go_vret (pc := 46) (⟨rfl, rfl⟩) (g_lnI (g_lnI (g_lnI (g_lnI (g_lnI (g_lnI (g_lnI (g_lnI (g_lnI (g_lnI (g_lnI (g_lnI (g_lnI (g_lnI (g_lnI (g_lnI (g_lnI (g_lnI (g_lnI (g_lnI (g_lnI (g_lnI (g_lnI (g_lnI (g_lnI (g_lnI (g_lnI (g_lnI (g_lnI (g_lnI (g_lnI (g_lnI hpN)))))))))))))))))))))))))))))))) (Nat.le_of_ble_eq_true rfl) dX7_putFour_46
set_option maxHeartbeats 4000000 in
set_option maxRecDepth 100000 in
theorem k15_X7_putFour (l : Launch) (xs : Nat → Int32) : Mt l yX7_putFour cX7_putFour 3 none 1 [.ref 0, .int (xs 5)] (hI (hI (hI (hI (hI (hI (hI (hI (hI (hI (hI (hI (hI (hI (hI (hI (hI (hI (hI (hI (hI (hI (hI (hI (hI (hI (hI (hI (hI (hI (hI (hI hz10 1 0 (vp_nar .byte ((((xs 1).toUInt32 >>> ((24 : Int32).toUInt32 &&& Int32.toUInt32 31)).toInt32).toInt8.toInt32))) 0 1 1) 1 1 (vp_nar .byte ((((xs 1).toUInt32 >>> ((16 : Int32).toUInt32 &&& Int32.toUInt32 31)).toInt32).toInt8.toInt32))) 0 1 2) 1 2 (vp_nar .byte ((((xs 1).toUInt32 >>> ((8 : Int32).toUInt32 &&& Int32.toUInt32 31)).toInt32).toInt8.toInt32))) 0 1 3) 1 3 (vp_nar .byte ((((xs 1).toUInt32 >>> ((0 : Int32).toUInt32 &&& Int32.toUInt32 31)).toInt32).toInt8.toInt32))) 0 1 4) 1 4 (vp_nar .byte ((((xs 2).toUInt32 >>> ((24 : Int32).toUInt32 &&& Int32.toUInt32 31)).toInt32).toInt8.toInt32))) 0 1 5) 1 5 (vp_nar .byte ((((xs 2).toUInt32 >>> ((16 : Int32).toUInt32 &&& Int32.toUInt32 31)).toInt32).toInt8.toInt32))) 0 1 6) 1 6 (vp_nar .byte ((((xs 2).toUInt32 >>> ((8 : Int32).toUInt32 &&& Int32.toUInt32 31)).toInt32).toInt8.toInt32))) 0 1 7) 1 7 (vp_nar .byte ((((xs 2).toUInt32 >>> ((0 : Int32).toUInt32 &&& Int32.toUInt32 31)).toInt32).toInt8.toInt32))) 0 1 8) 1 8 (vp_nar .byte ((((xs 3).toUInt32 >>> ((24 : Int32).toUInt32 &&& Int32.toUInt32 31)).toInt32).toInt8.toInt32))) 0 1 9) 1 9 (vp_nar .byte ((((xs 3).toUInt32 >>> ((16 : Int32).toUInt32 &&& Int32.toUInt32 31)).toInt32).toInt8.toInt32))) 0 1 10) 1 10 (vp_nar .byte ((((xs 3).toUInt32 >>> ((8 : Int32).toUInt32 &&& Int32.toUInt32 31)).toInt32).toInt8.toInt32))) 0 1 11) 1 11 (vp_nar .byte ((((xs 3).toUInt32 >>> ((0 : Int32).toUInt32 &&& Int32.toUInt32 31)).toInt32).toInt8.toInt32))) 0 1 12) 1 12 (vp_nar .byte ((((xs 4).toUInt32 >>> ((24 : Int32).toUInt32 &&& Int32.toUInt32 31)).toInt32).toInt8.toInt32))) 0 1 13) 1 13 (vp_nar .byte ((((xs 4).toUInt32 >>> ((16 : Int32).toUInt32 &&& Int32.toUInt32 31)).toInt32).toInt8.toInt32))) 0 1 14) 1 14 (vp_nar .byte ((((xs 4).toUInt32 >>> ((8 : Int32).toUInt32 &&& Int32.toUInt32 31)).toInt32).toInt8.toInt32))) 0 1 15) 1 15 (vp_nar .byte ((((xs 4).toUInt32 >>> ((0 : Int32).toUInt32 &&& Int32.toUInt32 31)).toInt32).toInt8.toInt32))) 0 1 16) 0 0 (fun r h' => r = none ∧ h' = hI (hI (hI (hI (hI (hI (hI (hI (hI (hI (hI (hI (hI (hI (hI (hI (hI (hI (hI (hI (hI (hI (hI (hI (hI (hI (hI (hI (hI (hI (hI (hI (hI (hI (hI (hI (hI (hI (hI (hI hz10 1 0 (vp_nar .byte ((((xs 1).toUInt32 >>> ((24 : Int32).toUInt32 &&& Int32.toUInt32 31)).toInt32).toInt8.toInt32))) 0 1 1) 1 1 (vp_nar .byte ((((xs 1).toUInt32 >>> ((16 : Int32).toUInt32 &&& Int32.toUInt32 31)).toInt32).toInt8.toInt32))) 0 1 2) 1 2 (vp_nar .byte ((((xs 1).toUInt32 >>> ((8 : Int32).toUInt32 &&& Int32.toUInt32 31)).toInt32).toInt8.toInt32))) 0 1 3) 1 3 (vp_nar .byte ((((xs 1).toUInt32 >>> ((0 : Int32).toUInt32 &&& Int32.toUInt32 31)).toInt32).toInt8.toInt32))) 0 1 4) 1 4 (vp_nar .byte ((((xs 2).toUInt32 >>> ((24 : Int32).toUInt32 &&& Int32.toUInt32 31)).toInt32).toInt8.toInt32))) 0 1 5) 1 5 (vp_nar .byte ((((xs 2).toUInt32 >>> ((16 : Int32).toUInt32 &&& Int32.toUInt32 31)).toInt32).toInt8.toInt32))) 0 1 6) 1 6 (vp_nar .byte ((((xs 2).toUInt32 >>> ((8 : Int32).toUInt32 &&& Int32.toUInt32 31)).toInt32).toInt8.toInt32))) 0 1 7) 1 7 (vp_nar .byte ((((xs 2).toUInt32 >>> ((0 : Int32).toUInt32 &&& Int32.toUInt32 31)).toInt32).toInt8.toInt32))) 0 1 8) 1 8 (vp_nar .byte ((((xs 3).toUInt32 >>> ((24 : Int32).toUInt32 &&& Int32.toUInt32 31)).toInt32).toInt8.toInt32))) 0 1 9) 1 9 (vp_nar .byte ((((xs 3).toUInt32 >>> ((16 : Int32).toUInt32 &&& Int32.toUInt32 31)).toInt32).toInt8.toInt32))) 0 1 10) 1 10 (vp_nar .byte ((((xs 3).toUInt32 >>> ((8 : Int32).toUInt32 &&& Int32.toUInt32 31)).toInt32).toInt8.toInt32))) 0 1 11) 1 11 (vp_nar .byte ((((xs 3).toUInt32 >>> ((0 : Int32).toUInt32 &&& Int32.toUInt32 31)).toInt32).toInt8.toInt32))) 0 1 12) 1 12 (vp_nar .byte ((((xs 4).toUInt32 >>> ((24 : Int32).toUInt32 &&& Int32.toUInt32 31)).toInt32).toInt8.toInt32))) 0 1 13) 1 13 (vp_nar .byte ((((xs 4).toUInt32 >>> ((16 : Int32).toUInt32 &&& Int32.toUInt32 31)).toInt32).toInt8.toInt32))) 0 1 14) 1 14 (vp_nar .byte ((((xs 4).toUInt32 >>> ((8 : Int32).toUInt32 &&& Int32.toUInt32 31)).toInt32).toInt8.toInt32))) 0 1 15) 1 15 (vp_nar .byte ((((xs 4).toUInt32 >>> ((0 : Int32).toUInt32 &&& Int32.toUInt32 31)).toInt32).toInt8.toInt32))) 0 1 16) 1 16 (vp_nar .byte ((((xs 5).toUInt32 >>> ((24 : Int32).toUInt32 &&& Int32.toUInt32 31)).toInt32).toInt8.toInt32))) 0 1 17) 1 17 (vp_nar .byte ((((xs 5).toUInt32 >>> ((16 : Int32).toUInt32 &&& Int32.toUInt32 31)).toInt32).toInt8.toInt32))) 0 1 18) 1 18 (vp_nar .byte ((((xs 5).toUInt32 >>> ((8 : Int32).toUInt32 &&& Int32.toUInt32 31)).toInt32).toInt8.toInt32))) 0 1 19) 1 19 (vp_nar .byte ((((xs 5).toUInt32 >>> ((0 : Int32).toUInt32 &&& Int32.toUInt32 31)).toInt32).toInt8.toInt32))) 0 1 20) := by
  refine Mt_ofn 117 (g_lnI (g_lnI (g_lnI (g_lnI (g_lnI (g_lnI (g_lnI (g_lnI (g_lnI (g_lnI (g_lnI (g_lnI (g_lnI (g_lnI (g_lnI (g_lnI (g_lnI (g_lnI (g_lnI (g_lnI (g_lnI (g_lnI (g_lnI (g_lnI (g_lnI (g_lnI (g_lnI (g_lnI (g_lnI (g_lnI (g_lnI (g_lnI hpN)))))))))))))))))))))))))))))))) (by decide) (Nat.le_of_ble_eq_true rfl) ?_
  show Go l RX7 cX7_putFour 3 (g_rm 1 0 0) "putFour" none 117 0 0 _ _ 0 0 [(0, .ref 0), (1, .int (xs 5))] [] (hI (hI (hI (hI (hI (hI (hI (hI (hI (hI (hI (hI (hI (hI (hI (hI (hI (hI (hI (hI (hI (hI (hI (hI (hI (hI (hI (hI (hI (hI (hI (hI hz10 1 0 (vp_nar .byte ((((xs 1).toUInt32 >>> ((24 : Int32).toUInt32 &&& Int32.toUInt32 31)).toInt32).toInt8.toInt32))) 0 1 1) 1 1 (vp_nar .byte ((((xs 1).toUInt32 >>> ((16 : Int32).toUInt32 &&& Int32.toUInt32 31)).toInt32).toInt8.toInt32))) 0 1 2) 1 2 (vp_nar .byte ((((xs 1).toUInt32 >>> ((8 : Int32).toUInt32 &&& Int32.toUInt32 31)).toInt32).toInt8.toInt32))) 0 1 3) 1 3 (vp_nar .byte ((((xs 1).toUInt32 >>> ((0 : Int32).toUInt32 &&& Int32.toUInt32 31)).toInt32).toInt8.toInt32))) 0 1 4) 1 4 (vp_nar .byte ((((xs 2).toUInt32 >>> ((24 : Int32).toUInt32 &&& Int32.toUInt32 31)).toInt32).toInt8.toInt32))) 0 1 5) 1 5 (vp_nar .byte ((((xs 2).toUInt32 >>> ((16 : Int32).toUInt32 &&& Int32.toUInt32 31)).toInt32).toInt8.toInt32))) 0 1 6) 1 6 (vp_nar .byte ((((xs 2).toUInt32 >>> ((8 : Int32).toUInt32 &&& Int32.toUInt32 31)).toInt32).toInt8.toInt32))) 0 1 7) 1 7 (vp_nar .byte ((((xs 2).toUInt32 >>> ((0 : Int32).toUInt32 &&& Int32.toUInt32 31)).toInt32).toInt8.toInt32))) 0 1 8) 1 8 (vp_nar .byte ((((xs 3).toUInt32 >>> ((24 : Int32).toUInt32 &&& Int32.toUInt32 31)).toInt32).toInt8.toInt32))) 0 1 9) 1 9 (vp_nar .byte ((((xs 3).toUInt32 >>> ((16 : Int32).toUInt32 &&& Int32.toUInt32 31)).toInt32).toInt8.toInt32))) 0 1 10) 1 10 (vp_nar .byte ((((xs 3).toUInt32 >>> ((8 : Int32).toUInt32 &&& Int32.toUInt32 31)).toInt32).toInt8.toInt32))) 0 1 11) 1 11 (vp_nar .byte ((((xs 3).toUInt32 >>> ((0 : Int32).toUInt32 &&& Int32.toUInt32 31)).toInt32).toInt8.toInt32))) 0 1 12) 1 12 (vp_nar .byte ((((xs 4).toUInt32 >>> ((24 : Int32).toUInt32 &&& Int32.toUInt32 31)).toInt32).toInt8.toInt32))) 0 1 13) 1 13 (vp_nar .byte ((((xs 4).toUInt32 >>> ((16 : Int32).toUInt32 &&& Int32.toUInt32 31)).toInt32).toInt8.toInt32))) 0 1 14) 1 14 (vp_nar .byte ((((xs 4).toUInt32 >>> ((8 : Int32).toUInt32 &&& Int32.toUInt32 31)).toInt32).toInt8.toInt32))) 0 1 15) 1 15 (vp_nar .byte ((((xs 4).toUInt32 >>> ((0 : Int32).toUInt32 &&& Int32.toUInt32 31)).toInt32).toInt8.toInt32))) 0 1 16)
  refine go_bipush (pc := 0) (v := 24) (by decide) dX7_putFour_0 ?_
  refine go_istore_n (pc := 2) (Nat.le_of_ble_eq_true rfl) dX7_putFour_2 (go_lv (lv2 := [(0, .ref 0), (1, .int (xs 5)), (2, .int 24)]) rfl ?_)
  refine go_iload_n (pc := 3) rfl dX7_putFour_3 ?_
  refine go_if_lt (pc := 4) (tgt := 46) (by decide) dX7_putFour_4 (fun q => absurd q (by decide)) (fun _ => ?_)
  refine go_aload_n (pc := 7) rfl dX7_putFour_7 ?_
  refine go_getI (pc := 8) fL_X7_13 (g_shI (g_shI (g_shI (g_shI (g_shI (g_shI (g_shI (g_shI (g_shI (g_shI (g_shI (g_shI (g_shI (g_shI (g_shI (g_shI (g_shI (g_shI (g_shI (g_shI (g_shI (g_shI (g_shI (g_shI (g_shI (g_shI (g_shI (g_shI (g_shI (g_shI (g_shI (g_shI (g_sh hpS rfl))))))))))))))))))))))))))))))))) (Nat.le_of_ble_eq_true rfl) rfl dX7_putFour_8 (go_topi (y := 16) g_iS ?_)
  refine go_sipush (pc := 11) (v := 500) (by decide) dX7_putFour_11 ?_
  refine go_icmp_ge (pc := 14) (tgt := 46) (by decide) dX7_putFour_14 (fun q => absurd q (by decide)) (fun _ => ?_)
  refine go_aload_n (pc := 17) rfl dX7_putFour_17 ?_
  refine go_getR (pc := 18) (v := .ref 1) fL_X7_9 (g_shI (g_shI (g_shI (g_shI (g_shI (g_shI (g_shI (g_shI (g_shI (g_shI (g_shI (g_shI (g_shI (g_shI (g_shI (g_shI (g_shI (g_shI (g_shI (g_shI (g_shI (g_shI (g_shI (g_shI (g_shI (g_shI (g_shI (g_shI (g_shI (g_shI (g_shI (g_shI (g_sh hpS rfl))))))))))))))))))))))))))))))))) (Nat.le_of_ble_eq_true rfl) rfl (g_rI (g_rI (g_rI (g_rI (g_rI (g_rI (g_rI (g_rI (g_rI (g_rI (g_rI (g_rI (g_rI (g_rI (g_rI (g_rI (g_rI (g_rI (g_rI (g_rI (g_rI (g_rI (g_rI (g_rI (g_rI (g_rI (g_rI (g_rI (g_rI (g_rI (g_rI (g_rI hpr_0_0)))))))))))))))))))))))))))))))) dX7_putFour_18 ?_
  refine go_aload_n (pc := 21) rfl dX7_putFour_21 ?_
  refine go_getI (pc := 22) fL_X7_13 (g_shI (g_shI (g_shI (g_shI (g_shI (g_shI (g_shI (g_shI (g_shI (g_shI (g_shI (g_shI (g_shI (g_shI (g_shI (g_shI (g_shI (g_shI (g_shI (g_shI (g_shI (g_shI (g_shI (g_shI (g_shI (g_shI (g_shI (g_shI (g_shI (g_shI (g_shI (g_shI (g_sh hpS rfl))))))))))))))))))))))))))))))))) (Nat.le_of_ble_eq_true rfl) rfl dX7_putFour_22 (go_topi (y := 16) g_iS ?_)
  refine go_iload_n (pc := 25) rfl dX7_putFour_25 ?_
  refine go_iload_n (pc := 26) rfl dX7_putFour_26 ?_
  refine go_iushr (pc := 27) dX7_putFour_27 ?_
  refine go_i2b (pc := 28) dX7_putFour_28 ?_
  refine go_bastj (pc := 29) (j := 16) (g_shI (g_shI (g_shI (g_shI (g_shI (g_shI (g_shI (g_shI (g_shI (g_shI (g_shI (g_shI (g_shI (g_shI (g_shI (g_shI (g_shI (g_shI (g_shI (g_shI (g_shI (g_shI (g_shI (g_shI (g_shI (g_shI (g_shI (g_shI (g_shI (g_shI (g_shI (g_shI (g_sh hpS rfl))))))))))))))))))))))))))))))))) (by decide +kernel) (by decide +kernel) dX7_putFour_29 ?_
  refine go_aload_n (pc := 30) rfl dX7_putFour_30 ?_
  refine go_dup (pc := 31) rfl dX7_putFour_31 ?_
  refine go_getI (pc := 32) fL_X7_13 (g_shI (g_shI (g_shI (g_shI (g_shI (g_shI (g_shI (g_shI (g_shI (g_shI (g_shI (g_shI (g_shI (g_shI (g_shI (g_shI (g_shI (g_shI (g_shI (g_shI (g_shI (g_shI (g_shI (g_shI (g_shI (g_shI (g_shI (g_shI (g_shI (g_shI (g_shI (g_shI (g_shI (g_sh hpS rfl)))))))))))))))))))))))))))))))))) (Nat.le_of_ble_eq_true rfl) rfl dX7_putFour_32 (go_topi (y := 16) (g_iI rfl g_iS) ?_)
  refine go_iconst (pc := 35) (v := 1) (by decide) dX7_putFour_35 ?_
  refine go_iadd (pc := 36) dX7_putFour_36 (go_topi (y := 17) (by decide) ?_)
  refine go_putI (pc := 37) (fP_X7_13 _) (g_shI (g_shI (g_shI (g_shI (g_shI (g_shI (g_shI (g_shI (g_shI (g_shI (g_shI (g_shI (g_shI (g_shI (g_shI (g_shI (g_shI (g_shI (g_shI (g_shI (g_shI (g_shI (g_shI (g_shI (g_shI (g_shI (g_shI (g_shI (g_shI (g_shI (g_shI (g_shI (g_shI (g_sh hpS rfl)))))))))))))))))))))))))))))))))) (Nat.le_of_ble_eq_true rfl) rfl (fun _ => rfl) (fun _ => rfl) dX7_putFour_37 ?_
  refine go_iincv (pc := 40) (y := 16) (Nat.le_of_ble_eq_true rfl) rfl (by decide) dX7_putFour_40 (go_lv (lv2 := [(0, .ref 0), (1, .int (xs 5)), (2, .int 16)]) rfl ?_)
  refine go_goto (pc := 43) (tgt := 3) (by decide) dX7_putFour_43 ?_
  refine go_iload_n (pc := 3) rfl dX7_putFour_3 ?_
  refine go_if_lt (pc := 4) (tgt := 46) (by decide) dX7_putFour_4 (fun q => absurd q (by decide)) (fun _ => ?_)
  refine go_aload_n (pc := 7) rfl dX7_putFour_7 ?_
  refine go_getI (pc := 8) fL_X7_13 (g_shI (g_shI (g_shI (g_shI (g_shI (g_shI (g_shI (g_shI (g_shI (g_shI (g_shI (g_shI (g_shI (g_shI (g_shI (g_shI (g_shI (g_shI (g_shI (g_shI (g_shI (g_shI (g_shI (g_shI (g_shI (g_shI (g_shI (g_shI (g_shI (g_shI (g_shI (g_shI (g_shI (g_shI (g_sh hpS rfl))))))))))))))))))))))))))))))))))) (Nat.le_of_ble_eq_true rfl) rfl dX7_putFour_8 (go_topi (y := 17) g_iS ?_)
  refine go_sipush (pc := 11) (v := 500) (by decide) dX7_putFour_11 ?_
  refine go_icmp_ge (pc := 14) (tgt := 46) (by decide) dX7_putFour_14 (fun q => absurd q (by decide)) (fun _ => ?_)
  refine go_aload_n (pc := 17) rfl dX7_putFour_17 ?_
  refine go_getR (pc := 18) (v := .ref 1) fL_X7_9 (g_shI (g_shI (g_shI (g_shI (g_shI (g_shI (g_shI (g_shI (g_shI (g_shI (g_shI (g_shI (g_shI (g_shI (g_shI (g_shI (g_shI (g_shI (g_shI (g_shI (g_shI (g_shI (g_shI (g_shI (g_shI (g_shI (g_shI (g_shI (g_shI (g_shI (g_shI (g_shI (g_shI (g_shI (g_sh hpS rfl))))))))))))))))))))))))))))))))))) (Nat.le_of_ble_eq_true rfl) rfl (g_rI (g_rI (g_rI (g_rI (g_rI (g_rI (g_rI (g_rI (g_rI (g_rI (g_rI (g_rI (g_rI (g_rI (g_rI (g_rI (g_rI (g_rI (g_rI (g_rI (g_rI (g_rI (g_rI (g_rI (g_rI (g_rI (g_rI (g_rI (g_rI (g_rI (g_rI (g_rI (g_rI (g_rI hpr_0_0)))))))))))))))))))))))))))))))))) dX7_putFour_18 ?_
  refine go_aload_n (pc := 21) rfl dX7_putFour_21 ?_
  refine go_getI (pc := 22) fL_X7_13 (g_shI (g_shI (g_shI (g_shI (g_shI (g_shI (g_shI (g_shI (g_shI (g_shI (g_shI (g_shI (g_shI (g_shI (g_shI (g_shI (g_shI (g_shI (g_shI (g_shI (g_shI (g_shI (g_shI (g_shI (g_shI (g_shI (g_shI (g_shI (g_shI (g_shI (g_shI (g_shI (g_shI (g_shI (g_sh hpS rfl))))))))))))))))))))))))))))))))))) (Nat.le_of_ble_eq_true rfl) rfl dX7_putFour_22 (go_topi (y := 17) g_iS ?_)
  refine go_iload_n (pc := 25) rfl dX7_putFour_25 ?_
  refine go_iload_n (pc := 26) rfl dX7_putFour_26 ?_
  refine go_iushr (pc := 27) dX7_putFour_27 ?_
  refine go_i2b (pc := 28) dX7_putFour_28 ?_
  refine go_bastj (pc := 29) (j := 17) (g_shI (g_shI (g_shI (g_shI (g_shI (g_shI (g_shI (g_shI (g_shI (g_shI (g_shI (g_shI (g_shI (g_shI (g_shI (g_shI (g_shI (g_shI (g_shI (g_shI (g_shI (g_shI (g_shI (g_shI (g_shI (g_shI (g_shI (g_shI (g_shI (g_shI (g_shI (g_shI (g_shI (g_shI (g_sh hpS rfl))))))))))))))))))))))))))))))))))) (by decide +kernel) (by decide +kernel) dX7_putFour_29 ?_
  refine go_aload_n (pc := 30) rfl dX7_putFour_30 ?_
  refine go_dup (pc := 31) rfl dX7_putFour_31 ?_
  refine go_getI (pc := 32) fL_X7_13 (g_shI (g_shI (g_shI (g_shI (g_shI (g_shI (g_shI (g_shI (g_shI (g_shI (g_shI (g_shI (g_shI (g_shI (g_shI (g_shI (g_shI (g_shI (g_shI (g_shI (g_shI (g_shI (g_shI (g_shI (g_shI (g_shI (g_shI (g_shI (g_shI (g_shI (g_shI (g_shI (g_shI (g_shI (g_shI (g_sh hpS rfl)))))))))))))))))))))))))))))))))))) (Nat.le_of_ble_eq_true rfl) rfl dX7_putFour_32 (go_topi (y := 17) (g_iI rfl g_iS) ?_)
  refine go_iconst (pc := 35) (v := 1) (by decide) dX7_putFour_35 ?_
  refine go_iadd (pc := 36) dX7_putFour_36 (go_topi (y := 18) (by decide) ?_)
  refine go_putI (pc := 37) (fP_X7_13 _) (g_shI (g_shI (g_shI (g_shI (g_shI (g_shI (g_shI (g_shI (g_shI (g_shI (g_shI (g_shI (g_shI (g_shI (g_shI (g_shI (g_shI (g_shI (g_shI (g_shI (g_shI (g_shI (g_shI (g_shI (g_shI (g_shI (g_shI (g_shI (g_shI (g_shI (g_shI (g_shI (g_shI (g_shI (g_shI (g_sh hpS rfl)))))))))))))))))))))))))))))))))))) (Nat.le_of_ble_eq_true rfl) rfl (fun _ => rfl) (fun _ => rfl) dX7_putFour_37 ?_
  refine go_iincv (pc := 40) (y := 8) (Nat.le_of_ble_eq_true rfl) rfl (by decide) dX7_putFour_40 (go_lv (lv2 := [(0, .ref 0), (1, .int (xs 5)), (2, .int 8)]) rfl ?_)
  refine go_goto (pc := 43) (tgt := 3) (by decide) dX7_putFour_43 ?_
  refine go_iload_n (pc := 3) rfl dX7_putFour_3 ?_
  refine go_if_lt (pc := 4) (tgt := 46) (by decide) dX7_putFour_4 (fun q => absurd q (by decide)) (fun _ => ?_)
  refine go_aload_n (pc := 7) rfl dX7_putFour_7 ?_
  refine go_getI (pc := 8) fL_X7_13 (g_shI (g_shI (g_shI (g_shI (g_shI (g_shI (g_shI (g_shI (g_shI (g_shI (g_shI (g_shI (g_shI (g_shI (g_shI (g_shI (g_shI (g_shI (g_shI (g_shI (g_shI (g_shI (g_shI (g_shI (g_shI (g_shI (g_shI (g_shI (g_shI (g_shI (g_shI (g_shI (g_shI (g_shI (g_shI (g_shI (g_sh hpS rfl))))))))))))))))))))))))))))))))))))) (Nat.le_of_ble_eq_true rfl) rfl dX7_putFour_8 (go_topi (y := 18) g_iS ?_)
  refine go_sipush (pc := 11) (v := 500) (by decide) dX7_putFour_11 ?_
  refine go_icmp_ge (pc := 14) (tgt := 46) (by decide) dX7_putFour_14 (fun q => absurd q (by decide)) (fun _ => ?_)
  refine go_aload_n (pc := 17) rfl dX7_putFour_17 ?_
  refine go_getR (pc := 18) (v := .ref 1) fL_X7_9 (g_shI (g_shI (g_shI (g_shI (g_shI (g_shI (g_shI (g_shI (g_shI (g_shI (g_shI (g_shI (g_shI (g_shI (g_shI (g_shI (g_shI (g_shI (g_shI (g_shI (g_shI (g_shI (g_shI (g_shI (g_shI (g_shI (g_shI (g_shI (g_shI (g_shI (g_shI (g_shI (g_shI (g_shI (g_shI (g_shI (g_sh hpS rfl))))))))))))))))))))))))))))))))))))) (Nat.le_of_ble_eq_true rfl) rfl (g_rI (g_rI (g_rI (g_rI (g_rI (g_rI (g_rI (g_rI (g_rI (g_rI (g_rI (g_rI (g_rI (g_rI (g_rI (g_rI (g_rI (g_rI (g_rI (g_rI (g_rI (g_rI (g_rI (g_rI (g_rI (g_rI (g_rI (g_rI (g_rI (g_rI (g_rI (g_rI (g_rI (g_rI (g_rI (g_rI hpr_0_0)))))))))))))))))))))))))))))))))))) dX7_putFour_18 ?_
  refine go_aload_n (pc := 21) rfl dX7_putFour_21 ?_
  refine go_getI (pc := 22) fL_X7_13 (g_shI (g_shI (g_shI (g_shI (g_shI (g_shI (g_shI (g_shI (g_shI (g_shI (g_shI (g_shI (g_shI (g_shI (g_shI (g_shI (g_shI (g_shI (g_shI (g_shI (g_shI (g_shI (g_shI (g_shI (g_shI (g_shI (g_shI (g_shI (g_shI (g_shI (g_shI (g_shI (g_shI (g_shI (g_shI (g_shI (g_sh hpS rfl))))))))))))))))))))))))))))))))))))) (Nat.le_of_ble_eq_true rfl) rfl dX7_putFour_22 (go_topi (y := 18) g_iS ?_)
  refine go_iload_n (pc := 25) rfl dX7_putFour_25 ?_
  refine go_iload_n (pc := 26) rfl dX7_putFour_26 ?_
  refine go_iushr (pc := 27) dX7_putFour_27 ?_
  refine go_i2b (pc := 28) dX7_putFour_28 ?_
  refine go_bastj (pc := 29) (j := 18) (g_shI (g_shI (g_shI (g_shI (g_shI (g_shI (g_shI (g_shI (g_shI (g_shI (g_shI (g_shI (g_shI (g_shI (g_shI (g_shI (g_shI (g_shI (g_shI (g_shI (g_shI (g_shI (g_shI (g_shI (g_shI (g_shI (g_shI (g_shI (g_shI (g_shI (g_shI (g_shI (g_shI (g_shI (g_shI (g_shI (g_sh hpS rfl))))))))))))))))))))))))))))))))))))) (by decide +kernel) (by decide +kernel) dX7_putFour_29 ?_
  refine go_aload_n (pc := 30) rfl dX7_putFour_30 ?_
  refine go_dup (pc := 31) rfl dX7_putFour_31 ?_
  refine go_getI (pc := 32) fL_X7_13 (g_shI (g_shI (g_shI (g_shI (g_shI (g_shI (g_shI (g_shI (g_shI (g_shI (g_shI (g_shI (g_shI (g_shI (g_shI (g_shI (g_shI (g_shI (g_shI (g_shI (g_shI (g_shI (g_shI (g_shI (g_shI (g_shI (g_shI (g_shI (g_shI (g_shI (g_shI (g_shI (g_shI (g_shI (g_shI (g_shI (g_shI (g_sh hpS rfl)))))))))))))))))))))))))))))))))))))) (Nat.le_of_ble_eq_true rfl) rfl dX7_putFour_32 (go_topi (y := 18) (g_iI rfl g_iS) ?_)
  refine go_iconst (pc := 35) (v := 1) (by decide) dX7_putFour_35 ?_
  refine go_iadd (pc := 36) dX7_putFour_36 (go_topi (y := 19) (by decide) ?_)
  refine go_putI (pc := 37) (fP_X7_13 _) (g_shI (g_shI (g_shI (g_shI (g_shI (g_shI (g_shI (g_shI (g_shI (g_shI (g_shI (g_shI (g_shI (g_shI (g_shI (g_shI (g_shI (g_shI (g_shI (g_shI (g_shI (g_shI (g_shI (g_shI (g_shI (g_shI (g_shI (g_shI (g_shI (g_shI (g_shI (g_shI (g_shI (g_shI (g_shI (g_shI (g_shI (g_sh hpS rfl)))))))))))))))))))))))))))))))))))))) (Nat.le_of_ble_eq_true rfl) rfl (fun _ => rfl) (fun _ => rfl) dX7_putFour_37 ?_
  refine go_iincv (pc := 40) (y := 0) (Nat.le_of_ble_eq_true rfl) rfl (by decide) dX7_putFour_40 (go_lv (lv2 := [(0, .ref 0), (1, .int (xs 5)), (2, .int 0)]) rfl ?_)
  refine go_goto (pc := 43) (tgt := 3) (by decide) dX7_putFour_43 ?_
  refine go_iload_n (pc := 3) rfl dX7_putFour_3 ?_
  refine go_if_lt (pc := 4) (tgt := 46) (by decide) dX7_putFour_4 (fun q => absurd q (by decide)) (fun _ => ?_)
  refine go_aload_n (pc := 7) rfl dX7_putFour_7 ?_
  refine go_getI (pc := 8) fL_X7_13 (g_shI (g_shI (g_shI (g_shI (g_shI (g_shI (g_shI (g_shI (g_shI (g_shI (g_shI (g_shI (g_shI (g_shI (g_shI (g_shI (g_shI (g_shI (g_shI (g_shI (g_shI (g_shI (g_shI (g_shI (g_shI (g_shI (g_shI (g_shI (g_shI (g_shI (g_shI (g_shI (g_shI (g_shI (g_shI (g_shI (g_shI (g_shI (g_sh hpS rfl))))))))))))))))))))))))))))))))))))))) (Nat.le_of_ble_eq_true rfl) rfl dX7_putFour_8 (go_topi (y := 19) g_iS ?_)
  refine go_sipush (pc := 11) (v := 500) (by decide) dX7_putFour_11 ?_
  refine go_icmp_ge (pc := 14) (tgt := 46) (by decide) dX7_putFour_14 (fun q => absurd q (by decide)) (fun _ => ?_)
  refine go_aload_n (pc := 17) rfl dX7_putFour_17 ?_
  refine go_getR (pc := 18) (v := .ref 1) fL_X7_9 (g_shI (g_shI (g_shI (g_shI (g_shI (g_shI (g_shI (g_shI (g_shI (g_shI (g_shI (g_shI (g_shI (g_shI (g_shI (g_shI (g_shI (g_shI (g_shI (g_shI (g_shI (g_shI (g_shI (g_shI (g_shI (g_shI (g_shI (g_shI (g_shI (g_shI (g_shI (g_shI (g_shI (g_shI (g_shI (g_shI (g_shI (g_shI (g_sh hpS rfl))))))))))))))))))))))))))))))))))))))) (Nat.le_of_ble_eq_true rfl) rfl (g_rI (g_rI (g_rI (g_rI (g_rI (g_rI (g_rI (g_rI (g_rI (g_rI (g_rI (g_rI (g_rI (g_rI (g_rI (g_rI (g_rI (g_rI (g_rI (g_rI (g_rI (g_rI (g_rI (g_rI (g_rI (g_rI (g_rI (g_rI (g_rI (g_rI (g_rI (g_rI (g_rI (g_rI (g_rI (g_rI (g_rI (g_rI hpr_0_0)))))))))))))))))))))))))))))))))))))) dX7_putFour_18 ?_
  refine go_aload_n (pc := 21) rfl dX7_putFour_21 ?_
  refine go_getI (pc := 22) fL_X7_13 (g_shI (g_shI (g_shI (g_shI (g_shI (g_shI (g_shI (g_shI (g_shI (g_shI (g_shI (g_shI (g_shI (g_shI (g_shI (g_shI (g_shI (g_shI (g_shI (g_shI (g_shI (g_shI (g_shI (g_shI (g_shI (g_shI (g_shI (g_shI (g_shI (g_shI (g_shI (g_shI (g_shI (g_shI (g_shI (g_shI (g_shI (g_shI (g_sh hpS rfl))))))))))))))))))))))))))))))))))))))) (Nat.le_of_ble_eq_true rfl) rfl dX7_putFour_22 (go_topi (y := 19) g_iS ?_)
  refine go_iload_n (pc := 25) rfl dX7_putFour_25 ?_
  refine go_iload_n (pc := 26) rfl dX7_putFour_26 ?_
  refine go_iushr (pc := 27) dX7_putFour_27 ?_
  refine go_i2b (pc := 28) dX7_putFour_28 ?_
  refine go_bastj (pc := 29) (j := 19) (g_shI (g_shI (g_shI (g_shI (g_shI (g_shI (g_shI (g_shI (g_shI (g_shI (g_shI (g_shI (g_shI (g_shI (g_shI (g_shI (g_shI (g_shI (g_shI (g_shI (g_shI (g_shI (g_shI (g_shI (g_shI (g_shI (g_shI (g_shI (g_shI (g_shI (g_shI (g_shI (g_shI (g_shI (g_shI (g_shI (g_shI (g_shI (g_sh hpS rfl))))))))))))))))))))))))))))))))))))))) (by decide +kernel) (by decide +kernel) dX7_putFour_29 ?_
  refine go_aload_n (pc := 30) rfl dX7_putFour_30 ?_
  refine go_dup (pc := 31) rfl dX7_putFour_31 ?_
  refine go_getI (pc := 32) fL_X7_13 (g_shI (g_shI (g_shI (g_shI (g_shI (g_shI (g_shI (g_shI (g_shI (g_shI (g_shI (g_shI (g_shI (g_shI (g_shI (g_shI (g_shI (g_shI (g_shI (g_shI (g_shI (g_shI (g_shI (g_shI (g_shI (g_shI (g_shI (g_shI (g_shI (g_shI (g_shI (g_shI (g_shI (g_shI (g_shI (g_shI (g_shI (g_shI (g_shI (g_sh hpS rfl)))))))))))))))))))))))))))))))))))))))) (Nat.le_of_ble_eq_true rfl) rfl dX7_putFour_32 (go_topi (y := 19) (g_iI rfl g_iS) ?_)
  refine go_iconst (pc := 35) (v := 1) (by decide) dX7_putFour_35 ?_
  refine go_iadd (pc := 36) dX7_putFour_36 (go_topi (y := 20) (by decide) ?_)
  refine go_putI (pc := 37) (fP_X7_13 _) (g_shI (g_shI (g_shI (g_shI (g_shI (g_shI (g_shI (g_shI (g_shI (g_shI (g_shI (g_shI (g_shI (g_shI (g_shI (g_shI (g_shI (g_shI (g_shI (g_shI (g_shI (g_shI (g_shI (g_shI (g_shI (g_shI (g_shI (g_shI (g_shI (g_shI (g_shI (g_shI (g_shI (g_shI (g_shI (g_shI (g_shI (g_shI (g_shI (g_sh hpS rfl)))))))))))))))))))))))))))))))))))))))) (Nat.le_of_ble_eq_true rfl) rfl (fun _ => rfl) (fun _ => rfl) dX7_putFour_37 ?_
  refine go_iincv (pc := 40) (y := (-8)) (Nat.le_of_ble_eq_true rfl) rfl (by decide) dX7_putFour_40 (go_lv (lv2 := [(0, .ref 0), (1, .int (xs 5)), (2, .int (-8))]) rfl ?_)
  refine go_goto (pc := 43) (tgt := 3) (by decide) dX7_putFour_43 ?_
  refine go_iload_n (pc := 3) rfl dX7_putFour_3 ?_
  refine go_if_lt (pc := 4) (tgt := 46) (by decide) dX7_putFour_4 (fun _ => ?_) (fun q => absurd q (by decide))
  exact go_vret (pc := 46) (⟨rfl, rfl⟩) (g_lnI (g_lnI (g_lnI (g_lnI (g_lnI (g_lnI (g_lnI (g_lnI (g_lnI (g_lnI (g_lnI (g_lnI (g_lnI (g_lnI (g_lnI (g_lnI (g_lnI (g_lnI (g_lnI (g_lnI (g_lnI (g_lnI (g_lnI (g_lnI (g_lnI (g_lnI (g_lnI (g_lnI (g_lnI (g_lnI (g_lnI (g_lnI (g_lnI (g_lnI (g_lnI (g_lnI (g_lnI (g_lnI (g_lnI (g_lnI hpN)))))))))))))))))))))))))))))))))))))))) (Nat.le_of_ble_eq_true rfl) dX7_putFour_46
set_option maxHeartbeats 4000000 in
set_option maxRecDepth 100000 in
theorem k16_X7_feed (l : Launch) (xs : Nat → Int32) : Mt l yX7_feed cX7_feed 6 (some .int) 2 [.ref 0, .int (xs 1), .int (xs 2), .int (xs 3), .int (xs 4), .int (xs 5)] (hz10) 0 0 (fun r h' => r = some (.int 20) ∧ h' = hI (hI (hI (hI (hI (hI (hI (hI (hI (hI (hI (hI (hI (hI (hI (hI (hI (hI (hI (hI (hI (hI (hI (hI (hI (hI (hI (hI (hI (hI (hI (hI (hI (hI (hI (hI (hI (hI (hI (hI hz10 1 0 (vp_nar .byte ((((xs 1).toUInt32 >>> ((24 : Int32).toUInt32 &&& Int32.toUInt32 31)).toInt32).toInt8.toInt32))) 0 1 1) 1 1 (vp_nar .byte ((((xs 1).toUInt32 >>> ((16 : Int32).toUInt32 &&& Int32.toUInt32 31)).toInt32).toInt8.toInt32))) 0 1 2) 1 2 (vp_nar .byte ((((xs 1).toUInt32 >>> ((8 : Int32).toUInt32 &&& Int32.toUInt32 31)).toInt32).toInt8.toInt32))) 0 1 3) 1 3 (vp_nar .byte ((((xs 1).toUInt32 >>> ((0 : Int32).toUInt32 &&& Int32.toUInt32 31)).toInt32).toInt8.toInt32))) 0 1 4) 1 4 (vp_nar .byte ((((xs 2).toUInt32 >>> ((24 : Int32).toUInt32 &&& Int32.toUInt32 31)).toInt32).toInt8.toInt32))) 0 1 5) 1 5 (vp_nar .byte ((((xs 2).toUInt32 >>> ((16 : Int32).toUInt32 &&& Int32.toUInt32 31)).toInt32).toInt8.toInt32))) 0 1 6) 1 6 (vp_nar .byte ((((xs 2).toUInt32 >>> ((8 : Int32).toUInt32 &&& Int32.toUInt32 31)).toInt32).toInt8.toInt32))) 0 1 7) 1 7 (vp_nar .byte ((((xs 2).toUInt32 >>> ((0 : Int32).toUInt32 &&& Int32.toUInt32 31)).toInt32).toInt8.toInt32))) 0 1 8) 1 8 (vp_nar .byte ((((xs 3).toUInt32 >>> ((24 : Int32).toUInt32 &&& Int32.toUInt32 31)).toInt32).toInt8.toInt32))) 0 1 9) 1 9 (vp_nar .byte ((((xs 3).toUInt32 >>> ((16 : Int32).toUInt32 &&& Int32.toUInt32 31)).toInt32).toInt8.toInt32))) 0 1 10) 1 10 (vp_nar .byte ((((xs 3).toUInt32 >>> ((8 : Int32).toUInt32 &&& Int32.toUInt32 31)).toInt32).toInt8.toInt32))) 0 1 11) 1 11 (vp_nar .byte ((((xs 3).toUInt32 >>> ((0 : Int32).toUInt32 &&& Int32.toUInt32 31)).toInt32).toInt8.toInt32))) 0 1 12) 1 12 (vp_nar .byte ((((xs 4).toUInt32 >>> ((24 : Int32).toUInt32 &&& Int32.toUInt32 31)).toInt32).toInt8.toInt32))) 0 1 13) 1 13 (vp_nar .byte ((((xs 4).toUInt32 >>> ((16 : Int32).toUInt32 &&& Int32.toUInt32 31)).toInt32).toInt8.toInt32))) 0 1 14) 1 14 (vp_nar .byte ((((xs 4).toUInt32 >>> ((8 : Int32).toUInt32 &&& Int32.toUInt32 31)).toInt32).toInt8.toInt32))) 0 1 15) 1 15 (vp_nar .byte ((((xs 4).toUInt32 >>> ((0 : Int32).toUInt32 &&& Int32.toUInt32 31)).toInt32).toInt8.toInt32))) 0 1 16) 1 16 (vp_nar .byte ((((xs 5).toUInt32 >>> ((24 : Int32).toUInt32 &&& Int32.toUInt32 31)).toInt32).toInt8.toInt32))) 0 1 17) 1 17 (vp_nar .byte ((((xs 5).toUInt32 >>> ((16 : Int32).toUInt32 &&& Int32.toUInt32 31)).toInt32).toInt8.toInt32))) 0 1 18) 1 18 (vp_nar .byte ((((xs 5).toUInt32 >>> ((8 : Int32).toUInt32 &&& Int32.toUInt32 31)).toInt32).toInt8.toInt32))) 0 1 19) 1 19 (vp_nar .byte ((((xs 5).toUInt32 >>> ((0 : Int32).toUInt32 &&& Int32.toUInt32 31)).toInt32).toInt8.toInt32))) 0 1 20) := by
  refine Mt_ofn 117 hpN (by decide) (Nat.le_of_ble_eq_true rfl) ?_
  show Go l RX7 cX7_feed 6 (g_rm 2 0 0) "feed" (some .int) 117 0 0 _ _ 0 0 [(0, .ref 0), (1, .int (xs 1)), (2, .int (xs 2)), (3, .int (xs 3)), (4, .int (xs 4)), (5, .int (xs 5))] [] (hz10)
  refine go_aload_n (pc := 0) rfl dX7_feed_0 ?_
  refine go_getI (pc := 1) fL_X7_13 (g_sh hpS rfl) (Nat.le_of_ble_eq_true rfl) rfl dX7_feed_1 (go_topi (y := 0) hpi_0_1 ?_)
  refine go_bipush (pc := 4) (v := 20) (by decide) dX7_feed_4 ?_
  refine go_iadd (pc := 6) dX7_feed_6 (go_topi (y := 20) (by decide) ?_)
  refine go_sipush (pc := 7) (v := 500) (by decide) dX7_feed_7 ?_
  refine go_icmp_le (pc := 10) (tgt := 15) (by decide) dX7_feed_10 (fun _ => ?_) (fun q => absurd q (by decide))
  refine go_aload_n (pc := 15) rfl dX7_feed_15 ?_
  refine go_iload_n (pc := 16) rfl dX7_feed_16 ?_
  refine go_invV (pc := 17) (sl := 0) (k11_X7_putFour l xs) mL_X7_53 iM_X7_putFour sM_X7_putFour (g_sh hpS rfl) rfl rfl rfl (Nat.le_of_ble_eq_true rfl) (Nat.le_of_ble_eq_true rfl) (Nat.le_of_ble_eq_true rfl) (g_c0 hpN) (Nat.le_of_ble_eq_true rfl) dX7_feed_17 ?_
  intro r h' hq _
  obtain ⟨rfl, rfl⟩ := hq
  refine go_aload_n (pc := 20) rfl dX7_feed_20 ?_
  refine go_iload_n (pc := 21) rfl dX7_feed_21 ?_
  refine go_invV (pc := 22) (sl := 0) (k12_X7_putFour l xs) mL_X7_53 iM_X7_putFour sM_X7_putFour (g_shI (g_shI (g_shI (g_shI (g_shI (g_shI (g_shI (g_shI (g_sh hpS rfl))))))))) rfl rfl rfl (Nat.le_of_ble_eq_true rfl) (Nat.le_of_ble_eq_true rfl) (Nat.le_of_ble_eq_true rfl) (g_c0 (g_lnI (g_lnI (g_lnI (g_lnI (g_lnI (g_lnI (g_lnI (g_lnI hpN))))))))) (Nat.le_of_ble_eq_true rfl) dX7_feed_22 ?_
  intro r h' hq _
  obtain ⟨rfl, rfl⟩ := hq
  refine go_aload_n (pc := 25) rfl dX7_feed_25 ?_
  refine go_iload_n (pc := 26) rfl dX7_feed_26 ?_
  refine go_invV (pc := 27) (sl := 0) (k13_X7_putFour l xs) mL_X7_53 iM_X7_putFour sM_X7_putFour (g_shI (g_shI (g_shI (g_shI (g_shI (g_shI (g_shI (g_shI (g_shI (g_shI (g_shI (g_shI (g_shI (g_shI (g_shI (g_shI (g_sh hpS rfl))))))))))))))))) rfl rfl rfl (Nat.le_of_ble_eq_true rfl) (Nat.le_of_ble_eq_true rfl) (Nat.le_of_ble_eq_true rfl) (g_c0 (g_lnI (g_lnI (g_lnI (g_lnI (g_lnI (g_lnI (g_lnI (g_lnI (g_lnI (g_lnI (g_lnI (g_lnI (g_lnI (g_lnI (g_lnI (g_lnI hpN))))))))))))))))) (Nat.le_of_ble_eq_true rfl) dX7_feed_27 ?_
  intro r h' hq _
  obtain ⟨rfl, rfl⟩ := hq
  refine go_aload_n (pc := 30) rfl dX7_feed_30 ?_
  refine go_iload (pc := 31) rfl dX7_feed_31 ?_
  refine go_invV (pc := 33) (sl := 0) (k14_X7_putFour l xs) mL_X7_53 iM_X7_putFour sM_X7_putFour (g_shI (g_shI (g_shI (g_shI (g_shI (g_shI (g_shI (g_shI (g_shI (g_shI (g_shI (g_shI (g_shI (g_shI (g_shI (g_shI (g_shI (g_shI (g_shI (g_shI (g_shI (g_shI (g_shI (g_shI (g_sh hpS rfl))))))))))))))))))))))))) rfl rfl rfl (Nat.le_of_ble_eq_true rfl) (Nat.le_of_ble_eq_true rfl) (Nat.le_of_ble_eq_true rfl) (g_c0 (g_lnI (g_lnI (g_lnI (g_lnI (g_lnI (g_lnI (g_lnI (g_lnI (g_lnI (g_lnI (g_lnI (g_lnI (g_lnI (g_lnI (g_lnI (g_lnI (g_lnI (g_lnI (g_lnI (g_lnI (g_lnI (g_lnI (g_lnI (g_lnI hpN))))))))))))))))))))))))) (Nat.le_of_ble_eq_true rfl) dX7_feed_33 ?_
  intro r h' hq _
  obtain ⟨rfl, rfl⟩ := hq
  refine go_aload_n (pc := 36) rfl dX7_feed_36 ?_
  refine go_iload (pc := 37) rfl dX7_feed_37 ?_
  refine go_invV (pc := 39) (sl := 0) (k15_X7_putFour l xs) mL_X7_53 iM_X7_putFour sM_X7_putFour (g_shI (g_shI (g_shI (g_shI (g_shI (g_shI (g_shI (g_shI (g_shI (g_shI (g_shI (g_shI (g_shI (g_shI (g_shI (g_shI (g_shI (g_shI (g_shI (g_shI (g_shI (g_shI (g_shI (g_shI (g_shI (g_shI (g_shI (g_shI (g_shI (g_shI (g_shI (g_shI (g_sh hpS rfl))))))))))))))))))))))))))))))))) rfl rfl rfl (Nat.le_of_ble_eq_true rfl) (Nat.le_of_ble_eq_true rfl) (Nat.le_of_ble_eq_true rfl) (g_c0 (g_lnI (g_lnI (g_lnI (g_lnI (g_lnI (g_lnI (g_lnI (g_lnI (g_lnI (g_lnI (g_lnI (g_lnI (g_lnI (g_lnI (g_lnI (g_lnI (g_lnI (g_lnI (g_lnI (g_lnI (g_lnI (g_lnI (g_lnI (g_lnI (g_lnI (g_lnI (g_lnI (g_lnI (g_lnI (g_lnI (g_lnI (g_lnI hpN))))))))))))))))))))))))))))))))) (Nat.le_of_ble_eq_true rfl) dX7_feed_39 ?_
  intro r h' hq _
  obtain ⟨rfl, rfl⟩ := hq
  refine go_aload_n (pc := 42) rfl dX7_feed_42 ?_
  refine go_getI (pc := 43) fL_X7_13 (g_shI (g_shI (g_shI (g_shI (g_shI (g_shI (g_shI (g_shI (g_shI (g_shI (g_shI (g_shI (g_shI (g_shI (g_shI (g_shI (g_shI (g_shI (g_shI (g_shI (g_shI (g_shI (g_shI (g_shI (g_shI (g_shI (g_shI (g_shI (g_shI (g_shI (g_shI (g_shI (g_shI (g_shI (g_shI (g_shI (g_shI (g_shI (g_shI (g_shI (g_sh hpS rfl))))))))))))))))))))))))))))))))))))))))) (Nat.le_of_ble_eq_true rfl) rfl dX7_feed_43 (go_topi (y := 20) g_iS ?_)
  exact go_iret (pc := 46) rfl (⟨rfl, rfl⟩) (g_lnI (g_lnI (g_lnI (g_lnI (g_lnI (g_lnI (g_lnI (g_lnI (g_lnI (g_lnI (g_lnI (g_lnI (g_lnI (g_lnI (g_lnI (g_lnI (g_lnI (g_lnI (g_lnI (g_lnI (g_lnI (g_lnI (g_lnI (g_lnI (g_lnI (g_lnI (g_lnI (g_lnI (g_lnI (g_lnI (g_lnI (g_lnI (g_lnI (g_lnI (g_lnI (g_lnI (g_lnI (g_lnI (g_lnI (g_lnI hpN)))))))))))))))))))))))))))))))))))))))) (Nat.le_of_ble_eq_true rfl) dX7_feed_46
set_option maxHeartbeats 4000000 in
set_option maxRecDepth 100000 in
theorem k17_X8_put (l : Launch) (xs : Nat → Int32) : Mt l yX8_put cX8_put 3 none 1 [.ref 70, .int (xs 1)] (hI (hI (hI (hI (hI (hI (hI (hI (hI (hI (hI (hI (hI (hI (hI (hI (hI (hI (hI (hI (hI (hI (hI (hI (hI (hI (hI (hI (hI (hI (hI (hI (hI (hI (hI (hI (hI (hI (hI (hI hz10 1 0 (vp_nar .byte ((((xs 1).toUInt32 >>> ((24 : Int32).toUInt32 &&& Int32.toUInt32 31)).toInt32).toInt8.toInt32))) 0 1 1) 1 1 (vp_nar .byte ((((xs 1).toUInt32 >>> ((16 : Int32).toUInt32 &&& Int32.toUInt32 31)).toInt32).toInt8.toInt32))) 0 1 2) 1 2 (vp_nar .byte ((((xs 1).toUInt32 >>> ((8 : Int32).toUInt32 &&& Int32.toUInt32 31)).toInt32).toInt8.toInt32))) 0 1 3) 1 3 (vp_nar .byte ((((xs 1).toUInt32 >>> ((0 : Int32).toUInt32 &&& Int32.toUInt32 31)).toInt32).toInt8.toInt32))) 0 1 4) 1 4 (vp_nar .byte ((((xs 2).toUInt32 >>> ((24 : Int32).toUInt32 &&& Int32.toUInt32 31)).toInt32).toInt8.toInt32))) 0 1 5) 1 5 (vp_nar .byte ((((xs 2).toUInt32 >>> ((16 : Int32).toUInt32 &&& Int32.toUInt32 31)).toInt32).toInt8.toInt32))) 0 1 6) 1 6 (vp_nar .byte ((((xs 2).toUInt32 >>> ((8 : Int32).toUInt32 &&& Int32.toUInt32 31)).toInt32).toInt8.toInt32))) 0 1 7) 1 7 (vp_nar .byte ((((xs 2).toUInt32 >>> ((0 : Int32).toUInt32 &&& Int32.toUInt32 31)).toInt32).toInt8.toInt32))) 0 1 8) 1 8 (vp_nar .byte ((((xs 3).toUInt32 >>> ((24 : Int32).toUInt32 &&& Int32.toUInt32 31)).toInt32).toInt8.toInt32))) 0 1 9) 1 9 (vp_nar .byte ((((xs 3).toUInt32 >>> ((16 : Int32).toUInt32 &&& Int32.toUInt32 31)).toInt32).toInt8.toInt32))) 0 1 10) 1 10 (vp_nar .byte ((((xs 3).toUInt32 >>> ((8 : Int32).toUInt32 &&& Int32.toUInt32 31)).toInt32).toInt8.toInt32))) 0 1 11) 1 11 (vp_nar .byte ((((xs 3).toUInt32 >>> ((0 : Int32).toUInt32 &&& Int32.toUInt32 31)).toInt32).toInt8.toInt32))) 0 1 12) 1 12 (vp_nar .byte ((((xs 4).toUInt32 >>> ((24 : Int32).toUInt32 &&& Int32.toUInt32 31)).toInt32).toInt8.toInt32))) 0 1 13) 1 13 (vp_nar .byte ((((xs 4).toUInt32 >>> ((16 : Int32).toUInt32 &&& Int32.toUInt32 31)).toInt32).toInt8.toInt32))) 0 1 14) 1 14 (vp_nar .byte ((((xs 4).toUInt32 >>> ((8 : Int32).toUInt32 &&& Int32.toUInt32 31)).toInt32).toInt8.toInt32))) 0 1 15) 1 15 (vp_nar .byte ((((xs 4).toUInt32 >>> ((0 : Int32).toUInt32 &&& Int32.toUInt32 31)).toInt32).toInt8.toInt32))) 0 1 16) 1 16 (vp_nar .byte ((((xs 5).toUInt32 >>> ((24 : Int32).toUInt32 &&& Int32.toUInt32 31)).toInt32).toInt8.toInt32))) 0 1 17) 1 17 (vp_nar .byte ((((xs 5).toUInt32 >>> ((16 : Int32).toUInt32 &&& Int32.toUInt32 31)).toInt32).toInt8.toInt32))) 0 1 18) 1 18 (vp_nar .byte ((((xs 5).toUInt32 >>> ((8 : Int32).toUInt32 &&& Int32.toUInt32 31)).toInt32).toInt8.toInt32))) 0 1 19) 1 19 (vp_nar .byte ((((xs 5).toUInt32 >>> ((0 : Int32).toUInt32 &&& Int32.toUInt32 31)).toInt32).toInt8.toInt32))) 0 1 20) 0 0 (fun r h' => r = none ∧ h' = hI (hI (hI (hI (hI (hI (hI (hI (hI (hI (hI (hI (hI (hI (hI (hI (hI (hI (hI (hI (hI (hI (hI (hI (hI (hI (hI (hI (hI (hI (hI (hI (hI (hI (hI (hI (hI (hI (hI (hI (hI (hI (hI (hI (hI (hI (hI (hI hz10 1 0 (vp_nar .byte ((((xs 1).toUInt32 >>> ((24 : Int32).toUInt32 &&& Int32.toUInt32 31)).toInt32).toInt8.toInt32))) 0 1 1) 1 1 (vp_nar .byte ((((xs 1).toUInt32 >>> ((16 : Int32).toUInt32 &&& Int32.toUInt32 31)).toInt32).toInt8.toInt32))) 0 1 2) 1 2 (vp_nar .byte ((((xs 1).toUInt32 >>> ((8 : Int32).toUInt32 &&& Int32.toUInt32 31)).toInt32).toInt8.toInt32))) 0 1 3) 1 3 (vp_nar .byte ((((xs 1).toUInt32 >>> ((0 : Int32).toUInt32 &&& Int32.toUInt32 31)).toInt32).toInt8.toInt32))) 0 1 4) 1 4 (vp_nar .byte ((((xs 2).toUInt32 >>> ((24 : Int32).toUInt32 &&& Int32.toUInt32 31)).toInt32).toInt8.toInt32))) 0 1 5) 1 5 (vp_nar .byte ((((xs 2).toUInt32 >>> ((16 : Int32).toUInt32 &&& Int32.toUInt32 31)).toInt32).toInt8.toInt32))) 0 1 6) 1 6 (vp_nar .byte ((((xs 2).toUInt32 >>> ((8 : Int32).toUInt32 &&& Int32.toUInt32 31)).toInt32).toInt8.toInt32))) 0 1 7) 1 7 (vp_nar .byte ((((xs 2).toUInt32 >>> ((0 : Int32).toUInt32 &&& Int32.toUInt32 31)).toInt32).toInt8.toInt32))) 0 1 8) 1 8 (vp_nar .byte ((((xs 3).toUInt32 >>> ((24 : Int32).toUInt32 &&& Int32.toUInt32 31)).toInt32).toInt8.toInt32))) 0 1 9) 1 9 (vp_nar .byte ((((xs 3).toUInt32 >>> ((16 : Int32).toUInt32 &&& Int32.toUInt32 31)).toInt32).toInt8.toInt32))) 0 1 10) 1 10 (vp_nar .byte ((((xs 3).toUInt32 >>> ((8 : Int32).toUInt32 &&& Int32.toUInt32 31)).toInt32).toInt8.toInt32))) 0 1 11) 1 11 (vp_nar .byte ((((xs 3).toUInt32 >>> ((0 : Int32).toUInt32 &&& Int32.toUInt32 31)).toInt32).toInt8.toInt32))) 0 1 12) 1 12 (vp_nar .byte ((((xs 4).toUInt32 >>> ((24 : Int32).toUInt32 &&& Int32.toUInt32 31)).toInt32).toInt8.toInt32))) 0 1 13) 1 13 (vp_nar .byte ((((xs 4).toUInt32 >>> ((16 : Int32).toUInt32 &&& Int32.toUInt32 31)).toInt32).toInt8.toInt32))) 0 1 14) 1 14 (vp_nar .byte ((((xs 4).toUInt32 >>> ((8 : Int32).toUInt32 &&& Int32.toUInt32 31)).toInt32).toInt8.toInt32))) 0 1 15) 1 15 (vp_nar .byte ((((xs 4).toUInt32 >>> ((0 : Int32).toUInt32 &&& Int32.toUInt32 31)).toInt32).toInt8.toInt32))) 0 1 16) 1 16 (vp_nar .byte ((((xs 5).toUInt32 >>> ((24 : Int32).toUInt32 &&& Int32.toUInt32 31)).toInt32).toInt8.toInt32))) 0 1 17) 1 17 (vp_nar .byte ((((xs 5).toUInt32 >>> ((16 : Int32).toUInt32 &&& Int32.toUInt32 31)).toInt32).toInt8.toInt32))) 0 1 18) 1 18 (vp_nar .byte ((((xs 5).toUInt32 >>> ((8 : Int32).toUInt32 &&& Int32.toUInt32 31)).toInt32).toInt8.toInt32))) 0 1 19) 1 19 (vp_nar .byte ((((xs 5).toUInt32 >>> ((0 : Int32).toUInt32 &&& Int32.toUInt32 31)).toInt32).toInt8.toInt32))) 0 1 20) 71 0 (vp_nar .byte (((xs 1) >>> (24 &&& 31)).toInt8.toInt32))) 70 2 1) 71 1 (vp_nar .byte (((xs 1) >>> (16 &&& 31)).toInt8.toInt32))) 70 2 2) 71 2 (vp_nar .byte (((xs 1) >>> (8 &&& 31)).toInt8.toInt32))) 70 2 3) 71 3 (vp_nar .byte (((xs 1) >>> (0 &&& 31)).toInt8.toInt32))) 70 2 4) := by
  refine Mt_ofn 117 (g_lnI (g_lnI (g_lnI (g_lnI (g_lnI (g_lnI (g_lnI (g_lnI (g_lnI (g_lnI (g_lnI (g_lnI (g_lnI (g_lnI (g_lnI (g_lnI (g_lnI (g_lnI (g_lnI (g_lnI (g_lnI (g_lnI (g_lnI (g_lnI (g_lnI (g_lnI (g_lnI (g_lnI (g_lnI (g_lnI (g_lnI (g_lnI (g_lnI (g_lnI (g_lnI (g_lnI (g_lnI (g_lnI (g_lnI (g_lnI hpN)))))))))))))))))))))))))))))))))))))))) (by decide) (Nat.le_of_ble_eq_true rfl) ?_
  show Go l RX8 cX8_put 3 (g_rm 1 0 0) "put" none 117 0 0 _ _ 0 0 [(0, .ref 70), (1, .int (xs 1))] [] (hI (hI (hI (hI (hI (hI (hI (hI (hI (hI (hI (hI (hI (hI (hI (hI (hI (hI (hI (hI (hI (hI (hI (hI (hI (hI (hI (hI (hI (hI (hI (hI (hI (hI (hI (hI (hI (hI (hI (hI hz10 1 0 (vp_nar .byte ((((xs 1).toUInt32 >>> ((24 : Int32).toUInt32 &&& Int32.toUInt32 31)).toInt32).toInt8.toInt32))) 0 1 1) 1 1 (vp_nar .byte ((((xs 1).toUInt32 >>> ((16 : Int32).toUInt32 &&& Int32.toUInt32 31)).toInt32).toInt8.toInt32))) 0 1 2) 1 2 (vp_nar .byte ((((xs 1).toUInt32 >>> ((8 : Int32).toUInt32 &&& Int32.toUInt32 31)).toInt32).toInt8.toInt32))) 0 1 3) 1 3 (vp_nar .byte ((((xs 1).toUInt32 >>> ((0 : Int32).toUInt32 &&& Int32.toUInt32 31)).toInt32).toInt8.toInt32))) 0 1 4) 1 4 (vp_nar .byte ((((xs 2).toUInt32 >>> ((24 : Int32).toUInt32 &&& Int32.toUInt32 31)).toInt32).toInt8.toInt32))) 0 1 5) 1 5 (vp_nar .byte ((((xs 2).toUInt32 >>> ((16 : Int32).toUInt32 &&& Int32.toUInt32 31)).toInt32).toInt8.toInt32))) 0 1 6) 1 6 (vp_nar .byte ((((xs 2).toUInt32 >>> ((8 : Int32).toUInt32 &&& Int32.toUInt32 31)).toInt32).toInt8.toInt32))) 0 1 7) 1 7 (vp_nar .byte ((((xs 2).toUInt32 >>> ((0 : Int32).toUInt32 &&& Int32.toUInt32 31)).toInt32).toInt8.toInt32))) 0 1 8) 1 8 (vp_nar .byte ((((xs 3).toUInt32 >>> ((24 : Int32).toUInt32 &&& Int32.toUInt32 31)).toInt32).toInt8.toInt32))) 0 1 9) 1 9 (vp_nar .byte ((((xs 3).toUInt32 >>> ((16 : Int32).toUInt32 &&& Int32.toUInt32 31)).toInt32).toInt8.toInt32))) 0 1 10) 1 10 (vp_nar .byte ((((xs 3).toUInt32 >>> ((8 : Int32).toUInt32 &&& Int32.toUInt32 31)).toInt32).toInt8.toInt32))) 0 1 11) 1 11 (vp_nar .byte ((((xs 3).toUInt32 >>> ((0 : Int32).toUInt32 &&& Int32.toUInt32 31)).toInt32).toInt8.toInt32))) 0 1 12) 1 12 (vp_nar .byte ((((xs 4).toUInt32 >>> ((24 : Int32).toUInt32 &&& Int32.toUInt32 31)).toInt32).toInt8.toInt32))) 0 1 13) 1 13 (vp_nar .byte ((((xs 4).toUInt32 >>> ((16 : Int32).toUInt32 &&& Int32.toUInt32 31)).toInt32).toInt8.toInt32))) 0 1 14) 1 14 (vp_nar .byte ((((xs 4).toUInt32 >>> ((8 : Int32).toUInt32 &&& Int32.toUInt32 31)).toInt32).toInt8.toInt32))) 0 1 15) 1 15 (vp_nar .byte ((((xs 4).toUInt32 >>> ((0 : Int32).toUInt32 &&& Int32.toUInt32 31)).toInt32).toInt8.toInt32))) 0 1 16) 1 16 (vp_nar .byte ((((xs 5).toUInt32 >>> ((24 : Int32).toUInt32 &&& Int32.toUInt32 31)).toInt32).toInt8.toInt32))) 0 1 17) 1 17 (vp_nar .byte ((((xs 5).toUInt32 >>> ((16 : Int32).toUInt32 &&& Int32.toUInt32 31)).toInt32).toInt8.toInt32))) 0 1 18) 1 18 (vp_nar .byte ((((xs 5).toUInt32 >>> ((8 : Int32).toUInt32 &&& Int32.toUInt32 31)).toInt32).toInt8.toInt32))) 0 1 19) 1 19 (vp_nar .byte ((((xs 5).toUInt32 >>> ((0 : Int32).toUInt32 &&& Int32.toUInt32 31)).toInt32).toInt8.toInt32))) 0 1 20)
  refine go_bipush (pc := 0) (v := 24) (by decide) dX8_put_0 ?_
  refine go_istore_n (pc := 2) (Nat.le_of_ble_eq_true rfl) dX8_put_2 (go_lv (lv2 := [(0, .ref 70), (1, .int (xs 1)), (2, .int 24)]) rfl ?_)
  refine go_iload_n (pc := 3) rfl dX8_put_3 ?_
  refine go_if_lt (pc := 4) (tgt := 36) (by decide) dX8_put_4 (fun q => absurd q (by decide)) (fun _ => ?_)
  refine go_aload_n (pc := 7) rfl dX8_put_7 ?_
  refine go_getR (pc := 8) (v := .ref 71) fL_X8_7 (g_shI (g_shI (g_shI (g_shI (g_shI (g_shI (g_shI (g_shI (g_shI (g_shI (g_shI (g_shI (g_shI (g_shI (g_shI (g_shI (g_shI (g_shI (g_shI (g_shI (g_shI (g_shI (g_shI (g_shI (g_shI (g_shI (g_shI (g_shI (g_shI (g_shI (g_shI (g_shI (g_shI (g_shI (g_shI (g_shI (g_shI (g_shI (g_shI (g_shI (g_sh hpS rfl))))))))))))))))))))))))))))))))))))))))) (Nat.le_of_ble_eq_true rfl) rfl (g_rI (g_rI (g_rI (g_rI (g_rI (g_rI (g_rI (g_rI (g_rI (g_rI (g_rI (g_rI (g_rI (g_rI (g_rI (g_rI (g_rI (g_rI (g_rI (g_rI (g_rI (g_rI (g_rI (g_rI (g_rI (g_rI (g_rI (g_rI (g_rI (g_rI (g_rI (g_rI (g_rI (g_rI (g_rI (g_rI (g_rI (g_rI (g_rI (g_rI hpr_70_0)))))))))))))))))))))))))))))))))))))))) dX8_put_8 ?_
  refine go_aload_n (pc := 11) rfl dX8_put_11 ?_
  refine go_getI (pc := 12) fL_X8_151 (g_shI (g_shI (g_shI (g_shI (g_shI (g_shI (g_shI (g_shI (g_shI (g_shI (g_shI (g_shI (g_shI (g_shI (g_shI (g_shI (g_shI (g_shI (g_shI (g_shI (g_shI (g_shI (g_shI (g_shI (g_shI (g_shI (g_shI (g_shI (g_shI (g_shI (g_shI (g_shI (g_shI (g_shI (g_shI (g_shI (g_shI (g_shI (g_shI (g_shI (g_sh hpS rfl))))))))))))))))))))))))))))))))))))))))) (Nat.le_of_ble_eq_true rfl) rfl dX8_put_12 (go_topi (y := 0) (g_iI rfl (g_iI rfl (g_iI rfl (g_iI rfl (g_iI rfl (g_iI rfl (g_iI rfl (g_iI rfl (g_iI rfl (g_iI rfl (g_iI rfl (g_iI rfl (g_iI rfl (g_iI rfl (g_iI rfl (g_iI rfl (g_iI rfl (g_iI rfl (g_iI rfl (g_iI rfl (g_iI rfl (g_iI rfl (g_iI rfl (g_iI rfl (g_iI rfl (g_iI rfl (g_iI rfl (g_iI rfl (g_iI rfl (g_iI rfl (g_iI rfl (g_iI rfl (g_iI rfl (g_iI rfl (g_iI rfl (g_iI rfl (g_iI rfl (g_iI rfl (g_iI rfl (g_iI rfl hpi_70_2)))))))))))))))))))))))))))))))))))))))) ?_)
  refine go_iload_n (pc := 15) rfl dX8_put_15 ?_
  refine go_iload_n (pc := 16) rfl dX8_put_16 ?_
  refine go_ishr (pc := 17) dX8_put_17 ?_
  refine go_i2b (pc := 18) dX8_put_18 ?_
  refine go_bastj (pc := 19) (j := 0) (g_shI (g_shI (g_shI (g_shI (g_shI (g_shI (g_shI (g_shI (g_shI (g_shI (g_shI (g_shI (g_shI (g_shI (g_shI (g_shI (g_shI (g_shI (g_shI (g_shI (g_shI (g_shI (g_shI (g_shI (g_shI (g_shI (g_shI (g_shI (g_shI (g_shI (g_shI (g_shI (g_shI (g_shI (g_shI (g_shI (g_shI (g_shI (g_shI (g_shI (g_sh hpS rfl))))))))))))))))))))))))))))))))))))))))) (by decide +kernel) (by decide +kernel) dX8_put_19 ?_
  refine go_aload_n (pc := 20) rfl dX8_put_20 ?_
  refine go_dup (pc := 21) rfl dX8_put_21 ?_
  refine go_getI (pc := 22) fL_X8_151 (g_shI (g_shI (g_shI (g_shI (g_shI (g_shI (g_shI (g_shI (g_shI (g_shI (g_shI (g_shI (g_shI (g_shI (g_shI (g_shI (g_shI (g_shI (g_shI (g_shI (g_shI (g_shI (g_shI (g_shI (g_shI (g_shI (g_shI (g_shI (g_shI (g_shI (g_shI (g_shI (g_shI (g_shI (g_shI (g_shI (g_shI (g_shI (g_shI (g_shI (g_shI (g_sh hpS rfl)))))))))))))))))))))))))))))))))))))))))) (Nat.le_of_ble_eq_true rfl) rfl dX8_put_22 (go_topi (y := 0) (g_iI rfl (g_iI rfl (g_iI rfl (g_iI rfl (g_iI rfl (g_iI rfl (g_iI rfl (g_iI rfl (g_iI rfl (g_iI rfl (g_iI rfl (g_iI rfl (g_iI rfl (g_iI rfl (g_iI rfl (g_iI rfl (g_iI rfl (g_iI rfl (g_iI rfl (g_iI rfl (g_iI rfl (g_iI rfl (g_iI rfl (g_iI rfl (g_iI rfl (g_iI rfl (g_iI rfl (g_iI rfl (g_iI rfl (g_iI rfl (g_iI rfl (g_iI rfl (g_iI rfl (g_iI rfl (g_iI rfl (g_iI rfl (g_iI rfl (g_iI rfl (g_iI rfl (g_iI rfl (g_iI rfl hpi_70_2))))))))))))))))))))))))))))))))))))))))) ?_)
  refine go_iconst (pc := 25) (v := 1) (by decide) dX8_put_25 ?_
  refine go_iadd (pc := 26) dX8_put_26 (go_topi (y := 1) (by decide) ?_)
  refine go_putI (pc := 27) (fP_X8_151 _) (g_shI (g_shI (g_shI (g_shI (g_shI (g_shI (g_shI (g_shI (g_shI (g_shI (g_shI (g_shI (g_shI (g_shI (g_shI (g_shI (g_shI (g_shI (g_shI (g_shI (g_shI (g_shI (g_shI (g_shI (g_shI (g_shI (g_shI (g_shI (g_shI (g_shI (g_shI (g_shI (g_shI (g_shI (g_shI (g_shI (g_shI (g_shI (g_shI (g_shI (g_shI (g_sh hpS rfl)))))))))))))))))))))))))))))))))))))))))) (Nat.le_of_ble_eq_true rfl) rfl (fun _ => rfl) (fun _ => rfl) dX8_put_27 ?_
  refine go_iincv (pc := 30) (y := 16) (Nat.le_of_ble_eq_true rfl) rfl (by decide) dX8_put_30 (go_lv (lv2 := [(0, .ref 70), (1, .int (xs 1)), (2, .int 16)]) rfl ?_)
  refine go_goto (pc := 33) (tgt := 3) (by decide) dX8_put_33 ?_
  refine go_iload_n (pc := 3) rfl dX8_put_3 ?_
  refine go_if_lt (pc := 4) (tgt := 36) (by decide) dX8_put_4 (fun q => absurd q (by decide)) (fun _ => ?_)
  refine go_aload_n (pc := 7) rfl dX8_put_7 ?_
  refine go_getR (pc := 8) (v := .ref 71) fL_X8_7 (g_shI (g_shI (g_shI (g_shI (g_shI (g_shI (g_shI (g_shI (g_shI (g_shI (g_shI (g_shI (g_shI (g_shI (g_shI (g_shI (g_shI (g_shI (g_shI (g_shI (g_shI (g_shI (g_shI (g_shI (g_shI (g_shI (g_shI (g_shI (g_shI (g_shI (g_shI (g_shI (g_shI (g_shI (g_shI (g_shI (g_shI (g_shI (g_shI (g_shI (g_shI (g_shI (g_sh hpS rfl))))))))))))))))))))))))))))))))))))))))))) (Nat.le_of_ble_eq_true rfl) rfl (g_rI (g_rI (g_rI (g_rI (g_rI (g_rI (g_rI (g_rI (g_rI (g_rI (g_rI (g_rI (g_rI (g_rI (g_rI (g_rI (g_rI (g_rI (g_rI (g_rI (g_rI (g_rI (g_rI (g_rI (g_rI (g_rI (g_rI (g_rI (g_rI (g_rI (g_rI (g_rI (g_rI (g_rI (g_rI (g_rI (g_rI (g_rI (g_rI (g_rI (g_rI (g_rI hpr_70_0)))))))))))))))))))))))))))))))))))))))))) dX8_put_8 ?_
  refine go_aload_n (pc := 11) rfl dX8_put_11 ?_
  refine go_getI (pc := 12) fL_X8_151 (g_shI (g_shI (g_shI (g_shI (g_shI (g_shI (g_shI (g_shI (g_shI (g_shI (g_shI (g_shI (g_shI (g_shI (g_shI (g_shI (g_shI (g_shI (g_shI (g_shI (g_shI (g_shI (g_shI (g_shI (g_shI (g_shI (g_shI (g_shI (g_shI (g_shI (g_shI (g_shI (g_shI (g_shI (g_shI (g_shI (g_shI (g_shI (g_shI (g_shI (g_shI (g_shI (g_sh hpS rfl))))))))))))))))))))))))))))))))))))))))))) (Nat.le_of_ble_eq_true rfl) rfl dX8_put_12 (go_topi (y := 1) g_iS ?_)
  refine go_iload_n (pc := 15) rfl dX8_put_15 ?_
  refine go_iload_n (pc := 16) rfl dX8_put_16 ?_
  refine go_ishr (pc := 17) dX8_put_17 ?_
  refine go_i2b (pc := 18) dX8_put_18 ?_
  refine go_bastj (pc := 19) (j := 1) (g_shI (g_shI (g_shI (g_shI (g_shI (g_shI (g_shI (g_shI (g_shI (g_shI (g_shI (g_shI (g_shI (g_shI (g_shI (g_shI (g_shI (g_shI (g_shI (g_shI (g_shI (g_shI (g_shI (g_shI (g_shI (g_shI (g_shI (g_shI (g_shI (g_shI (g_shI (g_shI (g_shI (g_shI (g_shI (g_shI (g_shI (g_shI (g_shI (g_shI (g_shI (g_shI (g_sh hpS rfl))))))))))))))))))))))))))))))))))))))))))) (by decide +kernel) (by decide +kernel) dX8_put_19 ?_
  refine go_aload_n (pc := 20) rfl dX8_put_20 ?_
  refine go_dup (pc := 21) rfl dX8_put_21 ?_
  refine go_getI (pc := 22) fL_X8_151 (g_shI (g_shI (g_shI (g_shI (g_shI (g_shI (g_shI (g_shI (g_shI (g_shI (g_shI (g_shI (g_shI (g_shI (g_shI (g_shI (g_shI (g_shI (g_shI (g_shI (g_shI (g_shI (g_shI (g_shI (g_shI (g_shI (g_shI (g_shI (g_shI (g_shI (g_shI (g_shI (g_shI (g_shI (g_shI (g_shI (g_shI (g_shI (g_shI (g_shI (g_shI (g_shI (g_shI (g_sh hpS rfl)))))))))))))))))))))))))))))))))))))))))))) (Nat.le_of_ble_eq_true rfl) rfl dX8_put_22 (go_topi (y := 1) (g_iI rfl g_iS) ?_)
  refine go_iconst (pc := 25) (v := 1) (by decide) dX8_put_25 ?_
  refine go_iadd (pc := 26) dX8_put_26 (go_topi (y := 2) (by decide) ?_)
  refine go_putI (pc := 27) (fP_X8_151 _) (g_shI (g_shI (g_shI (g_shI (g_shI (g_shI (g_shI (g_shI (g_shI (g_shI (g_shI (g_shI (g_shI (g_shI (g_shI (g_shI (g_shI (g_shI (g_shI (g_shI (g_shI (g_shI (g_shI (g_shI (g_shI (g_shI (g_shI (g_shI (g_shI (g_shI (g_shI (g_shI (g_shI (g_shI (g_shI (g_shI (g_shI (g_shI (g_shI (g_shI (g_shI (g_shI (g_shI (g_sh hpS rfl)))))))))))))))))))))))))))))))))))))))))))) (Nat.le_of_ble_eq_true rfl) rfl (fun _ => rfl) (fun _ => rfl) dX8_put_27 ?_
  refine go_iincv (pc := 30) (y := 8) (Nat.le_of_ble_eq_true rfl) rfl (by decide) dX8_put_30 (go_lv (lv2 := [(0, .ref 70), (1, .int (xs 1)), (2, .int 8)]) rfl ?_)
  refine go_goto (pc := 33) (tgt := 3) (by decide) dX8_put_33 ?_
  refine go_iload_n (pc := 3) rfl dX8_put_3 ?_
  refine go_if_lt (pc := 4) (tgt := 36) (by decide) dX8_put_4 (fun q => absurd q (by decide)) (fun _ => ?_)
  refine go_aload_n (pc := 7) rfl dX8_put_7 ?_
  refine go_getR (pc := 8) (v := .ref 71) fL_X8_7 (g_shI (g_shI (g_shI (g_shI (g_shI (g_shI (g_shI (g_shI (g_shI (g_shI (g_shI (g_shI (g_shI (g_shI (g_shI (g_shI (g_shI (g_shI (g_shI (g_shI (g_shI (g_shI (g_shI (g_shI (g_shI (g_shI (g_shI (g_shI (g_shI (g_shI (g_shI (g_shI (g_shI (g_shI (g_shI (g_shI (g_shI (g_shI (g_shI (g_shI (g_shI (g_shI (g_shI (g_shI (g_sh hpS rfl))))))))))))))))))))))))))))))))))))))))))))) (Nat.le_of_ble_eq_true rfl) rfl (g_rI (g_rI (g_rI (g_rI (g_rI (g_rI (g_rI (g_rI (g_rI (g_rI (g_rI (g_rI (g_rI (g_rI (g_rI (g_rI (g_rI (g_rI (g_rI (g_rI (g_rI (g_rI (g_rI (g_rI (g_rI (g_rI (g_rI (g_rI (g_rI (g_rI (g_rI (g_rI (g_rI (g_rI (g_rI (g_rI (g_rI (g_rI (g_rI (g_rI (g_rI (g_rI (g_rI (g_rI hpr_70_0)))))))))))))))))))))))))))))))))))))))))))) dX8_put_8 ?_
  refine go_aload_n (pc := 11) rfl dX8_put_11 ?_
  refine go_getI (pc := 12) fL_X8_151 (g_shI (g_shI (g_shI (g_shI (g_shI (g_shI (g_shI (g_shI (g_shI (g_shI (g_shI (g_shI (g_shI (g_shI (g_shI (g_shI (g_shI (g_shI (g_shI (g_shI (g_shI (g_shI (g_shI (g_shI (g_shI (g_shI (g_shI (g_shI (g_shI (g_shI (g_shI (g_shI (g_shI (g_shI (g_shI (g_shI (g_shI (g_shI (g_shI (g_shI (g_shI (g_shI (g_shI (g_shI (g_sh hpS rfl))))))))))))))))))))))))))))))))))))))))))))) (Nat.le_of_ble_eq_true rfl) rfl dX8_put_12 (go_topi (y := 2) g_iS ?_)
  refine go_iload_n (pc := 15) rfl dX8_put_15 ?_
  refine go_iload_n (pc := 16) rfl dX8_put_16 ?_
  refine go_ishr (pc := 17) dX8_put_17 ?_
  refine go_i2b (pc := 18) dX8_put_18 ?_
  refine go_bastj (pc := 19) (j := 2) (g_shI (g_shI (g_shI (g_shI (g_shI (g_shI (g_shI (g_shI (g_shI (g_shI (g_shI (g_shI (g_shI (g_shI (g_shI (g_shI (g_shI (g_shI (g_shI (g_shI (g_shI (g_shI (g_shI (g_shI (g_shI (g_shI (g_shI (g_shI (g_shI (g_shI (g_shI (g_shI (g_shI (g_shI (g_shI (g_shI (g_shI (g_shI (g_shI (g_shI (g_shI (g_shI (g_shI (g_shI (g_sh hpS rfl))))))))))))))))))))))))))))))))))))))))))))) (by decide +kernel) (by decide +kernel) dX8_put_19 ?_
  refine go_aload_n (pc := 20) rfl dX8_put_20 ?_
  refine go_dup (pc := 21) rfl dX8_put_21 ?_
  refine go_getI (pc := 22) fL_X8_151 (g_shI (g_shI (g_shI (g_shI (g_shI (g_shI (g_shI (g_shI (g_shI (g_shI (g_shI (g_shI (g_shI (g_shI (g_shI (g_shI (g_shI (g_shI (g_shI (g_shI (g_shI (g_shI (g_shI (g_shI (g_shI (g_shI (g_shI (g_shI (g_shI (g_shI (g_shI (g_shI (g_shI (g_shI (g_shI (g_shI (g_shI (g_shI (g_shI (g_shI (g_shI (g_shI (g_shI (g_shI (g_shI (g_sh hpS rfl)))))))))))))))))))))))))))))))))))))))))))))) (Nat.le_of_ble_eq_true rfl) rfl dX8_put_22 (go_topi (y := 2) (g_iI rfl g_iS) ?_)
  refine go_iconst (pc := 25) (v := 1) (by decide) dX8_put_25 ?_
  refine go_iadd (pc := 26) dX8_put_26 (go_topi (y := 3) (by decide) ?_)
  refine go_putI (pc := 27) (fP_X8_151 _) (g_shI (g_shI (g_shI (g_shI (g_shI (g_shI (g_shI (g_shI (g_shI (g_shI (g_shI (g_shI (g_shI (g_shI (g_shI (g_shI (g_shI (g_shI (g_shI (g_shI (g_shI (g_shI (g_shI (g_shI (g_shI (g_shI (g_shI (g_shI (g_shI (g_shI (g_shI (g_shI (g_shI (g_shI (g_shI (g_shI (g_shI (g_shI (g_shI (g_shI (g_shI (g_shI (g_shI (g_shI (g_shI (g_sh hpS rfl)))))))))))))))))))))))))))))))))))))))))))))) (Nat.le_of_ble_eq_true rfl) rfl (fun _ => rfl) (fun _ => rfl) dX8_put_27 ?_
  refine go_iincv (pc := 30) (y := 0) (Nat.le_of_ble_eq_true rfl) rfl (by decide) dX8_put_30 (go_lv (lv2 := [(0, .ref 70), (1, .int (xs 1)), (2, .int 0)]) rfl ?_)
  refine go_goto (pc := 33) (tgt := 3) (by decide) dX8_put_33 ?_
  refine go_iload_n (pc := 3) rfl dX8_put_3 ?_
  refine go_if_lt (pc := 4) (tgt := 36) (by decide) dX8_put_4 (fun q => absurd q (by decide)) (fun _ => ?_)
  refine go_aload_n (pc := 7) rfl dX8_put_7 ?_
  refine go_getR (pc := 8) (v := .ref 71) fL_X8_7 (g_shI (g_shI (g_shI (g_shI (g_shI (g_shI (g_shI (g_shI (g_shI (g_shI (g_shI (g_shI (g_shI (g_shI (g_shI (g_shI (g_shI (g_shI (g_shI (g_shI (g_shI (g_shI (g_shI (g_shI (g_shI (g_shI (g_shI (g_shI (g_shI (g_shI (g_shI (g_shI (g_shI (g_shI (g_shI (g_shI (g_shI (g_shI (g_shI (g_shI (g_shI (g_shI (g_shI (g_shI (g_shI (g_shI (g_sh hpS rfl))))))))))))))))))))))))))))))))))))))))))))))) (Nat.le_of_ble_eq_true rfl) rfl (g_rI (g_rI (g_rI (g_rI (g_rI (g_rI (g_rI (g_rI (g_rI (g_rI (g_rI (g_rI (g_rI (g_rI (g_rI (g_rI (g_rI (g_rI (g_rI (g_rI (g_rI (g_rI (g_rI (g_rI (g_rI (g_rI (g_rI (g_rI (g_rI (g_rI (g_rI (g_rI (g_rI (g_rI (g_rI (g_rI (g_rI (g_rI (g_rI (g_rI (g_rI (g_rI (g_rI (g_rI (g_rI (g_rI hpr_70_0)))))))))))))))))))))))))))))))))))))))))))))) dX8_put_8 ?_
  refine go_aload_n (pc := 11) rfl dX8_put_11 ?_
  refine go_getI (pc := 12) fL_X8_151 (g_shI (g_shI (g_shI (g_shI (g_shI (g_shI (g_shI (g_shI (g_shI (g_shI (g_shI (g_shI (g_shI (g_shI (g_shI (g_shI (g_shI (g_shI (g_shI (g_shI (g_shI (g_shI (g_shI (g_shI (g_shI (g_shI (g_shI (g_shI (g_shI (g_shI (g_shI (g_shI (g_shI (g_shI (g_shI (g_shI (g_shI (g_shI (g_shI (g_shI (g_shI (g_shI (g_shI (g_shI (g_shI (g_shI (g_sh hpS rfl))))))))))))))))))))))))))))))))))))))))))))))) (Nat.le_of_ble_eq_true rfl) rfl dX8_put_12 (go_topi (y := 3) g_iS ?_)
  refine go_iload_n (pc := 15) rfl dX8_put_15 ?_
  refine go_iload_n (pc := 16) rfl dX8_put_16 ?_
  refine go_ishr (pc := 17) dX8_put_17 ?_
  refine go_i2b (pc := 18) dX8_put_18 ?_
  refine go_bastj (pc := 19) (j := 3) (g_shI (g_shI (g_shI (g_shI (g_shI (g_shI (g_shI (g_shI (g_shI (g_shI (g_shI (g_shI (g_shI (g_shI (g_shI (g_shI (g_shI (g_shI (g_shI (g_shI (g_shI (g_shI (g_shI (g_shI (g_shI (g_shI (g_shI (g_shI (g_shI (g_shI (g_shI (g_shI (g_shI (g_shI (g_shI (g_shI (g_shI (g_shI (g_shI (g_shI (g_shI (g_shI (g_shI (g_shI (g_shI (g_shI (g_sh hpS rfl))))))))))))))))))))))))))))))))))))))))))))))) (by decide +kernel) (by decide +kernel) dX8_put_19 ?_
  refine go_aload_n (pc := 20) rfl dX8_put_20 ?_
  refine go_dup (pc := 21) rfl dX8_put_21 ?_
  refine go_getI (pc := 22) fL_X8_151 (g_shI (g_shI (g_shI (g_shI (g_shI (g_shI (g_shI (g_shI (g_shI (g_shI (g_shI (g_shI (g_shI (g_shI (g_shI (g_shI (g_shI (g_shI (g_shI (g_shI (g_shI (g_shI (g_shI (g_shI (g_shI (g_shI (g_shI (g_shI (g_shI (g_shI (g_shI (g_shI (g_shI (g_shI (g_shI (g_shI (g_shI (g_shI (g_shI (g_shI (g_shI (g_shI (g_shI (g_shI (g_shI (g_shI (g_shI (g_sh hpS rfl)))))))))))))))))))))))))))))))))))))))))))))))) (Nat.le_of_ble_eq_true rfl) rfl dX8_put_22 (go_topi (y := 3) (g_iI rfl g_iS) ?_)
  refine go_iconst (pc := 25) (v := 1) (by decide) dX8_put_25 ?_
  refine go_iadd (pc := 26) dX8_put_26 (go_topi (y := 4) (by decide) ?_)
  refine go_putI (pc := 27) (fP_X8_151 _) (g_shI (g_shI (g_shI (g_shI (g_shI (g_shI (g_shI (g_shI (g_shI (g_shI (g_shI (g_shI (g_shI (g_shI (g_shI (g_shI (g_shI (g_shI (g_shI (g_shI (g_shI (g_shI (g_shI (g_shI (g_shI (g_shI (g_shI (g_shI (g_shI (g_shI (g_shI (g_shI (g_shI (g_shI (g_shI (g_shI (g_shI (g_shI (g_shI (g_shI (g_shI (g_shI (g_shI (g_shI (g_shI (g_shI (g_shI (g_sh hpS rfl)))))))))))))))))))))))))))))))))))))))))))))))) (Nat.le_of_ble_eq_true rfl) rfl (fun _ => rfl) (fun _ => rfl) dX8_put_27 ?_
  refine go_iincv (pc := 30) (y := (-8)) (Nat.le_of_ble_eq_true rfl) rfl (by decide) dX8_put_30 (go_lv (lv2 := [(0, .ref 70), (1, .int (xs 1)), (2, .int (-8))]) rfl ?_)
  refine go_goto (pc := 33) (tgt := 3) (by decide) dX8_put_33 ?_
  refine go_iload_n (pc := 3) rfl dX8_put_3 ?_
  refine go_if_lt (pc := 4) (tgt := 36) (by decide) dX8_put_4 (fun _ => ?_) (fun q => absurd q (by decide))
  exact go_vret (pc := 36) (⟨rfl, rfl⟩) (g_lnI (g_lnI (g_lnI (g_lnI (g_lnI (g_lnI (g_lnI (g_lnI (g_lnI (g_lnI (g_lnI (g_lnI (g_lnI (g_lnI (g_lnI (g_lnI (g_lnI (g_lnI (g_lnI (g_lnI (g_lnI (g_lnI (g_lnI (g_lnI (g_lnI (g_lnI (g_lnI (g_lnI (g_lnI (g_lnI (g_lnI (g_lnI (g_lnI (g_lnI (g_lnI (g_lnI (g_lnI (g_lnI (g_lnI (g_lnI (g_lnI (g_lnI (g_lnI (g_lnI (g_lnI (g_lnI (g_lnI (g_lnI hpN)))))))))))))))))))))))))))))))))))))))))))))))) (Nat.le_of_ble_eq_true rfl) dX8_put_36
set_option maxHeartbeats 4000000 in
set_option maxRecDepth 100000 in
theorem k18_X8_put (l : Launch) (xs : Nat → Int32) : Mt l yX8_put cX8_put 3 none 1 [.ref 70, .int (xs 2)] (hI (hI (hI (hI (hI (hI (hI (hI (hI (hI (hI (hI (hI (hI (hI (hI (hI (hI (hI (hI (hI (hI (hI (hI (hI (hI (hI (hI (hI (hI (hI (hI (hI (hI (hI (hI (hI (hI (hI (hI (hI (hI (hI (hI (hI (hI (hI (hI hz10 1 0 (vp_nar .byte ((((xs 1).toUInt32 >>> ((24 : Int32).toUInt32 &&& Int32.toUInt32 31)).toInt32).toInt8.toInt32))) 0 1 1) 1 1 (vp_nar .byte ((((xs 1).toUInt32 >>> ((16 : Int32).toUInt32 &&& Int32.toUInt32 31)).toInt32).toInt8.toInt32))) 0 1 2) 1 2 (vp_nar .byte ((((xs 1).toUInt32 >>> ((8 : Int32).toUInt32 &&& Int32.toUInt32 31)).toInt32).toInt8.toInt32))) 0 1 3) 1 3 (vp_nar .byte ((((xs 1).toUInt32 >>> ((0 : Int32).toUInt32 &&& Int32.toUInt32 31)).toInt32).toInt8.toInt32))) 0 1 4) 1 4 (vp_nar .byte ((((xs 2).toUInt32 >>> ((24 : Int32).toUInt32 &&& Int32.toUInt32 31)).toInt32).toInt8.toInt32))) 0 1 5) 1 5 (vp_nar .byte ((((xs 2).toUInt32 >>> ((16 : Int32).toUInt32 &&& Int32.toUInt32 31)).toInt32).toInt8.toInt32))) 0 1 6) 1 6 (vp_nar .byte ((((xs 2).toUInt32 >>> ((8 : Int32).toUInt32 &&& Int32.toUInt32 31)).toInt32).toInt8.toInt32))) 0 1 7) 1 7 (vp_nar .byte ((((xs 2).toUInt32 >>> ((0 : Int32).toUInt32 &&& Int32.toUInt32 31)).toInt32).toInt8.toInt32))) 0 1 8) 1 8 (vp_nar .byte ((((xs 3).toUInt32 >>> ((24 : Int32).toUInt32 &&& Int32.toUInt32 31)).toInt32).toInt8.toInt32))) 0 1 9) 1 9 (vp_nar .byte ((((xs 3).toUInt32 >>> ((16 : Int32).toUInt32 &&& Int32.toUInt32 31)).toInt32).toInt8.toInt32))) 0 1 10) 1 10 (vp_nar .byte ((((xs 3).toUInt32 >>> ((8 : Int32).toUInt32 &&& Int32.toUInt32 31)).toInt32).toInt8.toInt32))) 0 1 11) 1 11 (vp_nar .byte ((((xs 3).toUInt32 >>> ((0 : Int32).toUInt32 &&& Int32.toUInt32 31)).toInt32).toInt8.toInt32))) 0 1 12) 1 12 (vp_nar .byte ((((xs 4).toUInt32 >>> ((24 : Int32).toUInt32 &&& Int32.toUInt32 31)).toInt32).toInt8.toInt32))) 0 1 13) 1 13 (vp_nar .byte ((((xs 4).toUInt32 >>> ((16 : Int32).toUInt32 &&& Int32.toUInt32 31)).toInt32).toInt8.toInt32))) 0 1 14) 1 14 (vp_nar .byte ((((xs 4).toUInt32 >>> ((8 : Int32).toUInt32 &&& Int32.toUInt32 31)).toInt32).toInt8.toInt32))) 0 1 15) 1 15 (vp_nar .byte ((((xs 4).toUInt32 >>> ((0 : Int32).toUInt32 &&& Int32.toUInt32 31)).toInt32).toInt8.toInt32))) 0 1 16) 1 16 (vp_nar .byte ((((xs 5).toUInt32 >>> ((24 : Int32).toUInt32 &&& Int32.toUInt32 31)).toInt32).toInt8.toInt32))) 0 1 17) 1 17 (vp_nar .byte ((((xs 5).toUInt32 >>> ((16 : Int32).toUInt32 &&& Int32.toUInt32 31)).toInt32).toInt8.toInt32))) 0 1 18) 1 18 (vp_nar .byte ((((xs 5).toUInt32 >>> ((8 : Int32).toUInt32 &&& Int32.toUInt32 31)).toInt32).toInt8.toInt32))) 0 1 19) 1 19 (vp_nar .byte ((((xs 5).toUInt32 >>> ((0 : Int32).toUInt32 &&& Int32.toUInt32 31)).toInt32).toInt8.toInt32))) 0 1 20) 71 0 (vp_nar .byte (((xs 1) >>> (24 &&& 31)).toInt8.toInt32))) 70 2 1) 71 1 (vp_nar .byte (((xs 1) >>> (16 &&& 31)).toInt8.toInt32))) 70 2 2) 71 2 (vp_nar .byte (((xs 1) >>> (8 &&& 31)).toInt8.toInt32))) 70 2 3) 71 3 (vp_nar .byte (((xs 1) >>> (0 &&& 31)).toInt8.toInt32))) 70 2 4) 0 0 (fun r h' => r = none ∧ h' = hI (hI (hI (hI (hI (hI (hI (hI (hI (hI (hI (hI (hI (hI (hI (hI (hI (hI (hI (hI (hI (hI (hI (hI (hI (hI (hI (hI (hI (hI (hI (hI (hI (hI (hI (hI (hI (hI (hI (hI (hI (hI (hI (hI (hI (hI (hI (hI (hI (hI (hI (hI (hI (hI (hI (hI hz10 1 0 (vp_nar .byte ((((xs 1).toUInt32 >>> ((24 : Int32).toUInt32 &&& Int32.toUInt32 31)).toInt32).toInt8.toInt32))) 0 1 1) 1 1 (vp_nar .byte ((((xs 1).toUInt32 >>> ((16 : Int32).toUInt32 &&& Int32.toUInt32 31)).toInt32).toInt8.toInt32))) 0 1 2) 1 2 (vp_nar .byte ((((xs 1).toUInt32 >>> ((8 : Int32).toUInt32 &&& Int32.toUInt32 31)).toInt32).toInt8.toInt32))) 0 1 3) 1 3 (vp_nar .byte ((((xs 1).toUInt32 >>> ((0 : Int32).toUInt32 &&& Int32.toUInt32 31)).toInt32).toInt8.toInt32))) 0 1 4) 1 4 (vp_nar .byte ((((xs 2).toUInt32 >>> ((24 : Int32).toUInt32 &&& Int32.toUInt32 31)).toInt32).toInt8.toInt32))) 0 1 5) 1 5 (vp_nar .byte ((((xs 2).toUInt32 >>> ((16 : Int32).toUInt32 &&& Int32.toUInt32 31)).toInt32).toInt8.toInt32))) 0 1 6) 1 6 (vp_nar .byte ((((xs 2).toUInt32 >>> ((8 : Int32).toUInt32 &&& Int32.toUInt32 31)).toInt32).toInt8.toInt32))) 0 1 7) 1 7 (vp_nar .byte ((((xs 2).toUInt32 >>> ((0 : Int32).toUInt32 &&& Int32.toUInt32 31)).toInt32).toInt8.toInt32))) 0 1 8) 1 8 (vp_nar .byte ((((xs 3).toUInt32 >>> ((24 : Int32).toUInt32 &&& Int32.toUInt32 31)).toInt32).toInt8.toInt32))) 0 1 9) 1 9 (vp_nar .byte ((((xs 3).toUInt32 >>> ((16 : Int32).toUInt32 &&& Int32.toUInt32 31)).toInt32).toInt8.toInt32))) 0 1 10) 1 10 (vp_nar .byte ((((xs 3).toUInt32 >>> ((8 : Int32).toUInt32 &&& Int32.toUInt32 31)).toInt32).toInt8.toInt32))) 0 1 11) 1 11 (vp_nar .byte ((((xs 3).toUInt32 >>> ((0 : Int32).toUInt32 &&& Int32.toUInt32 31)).toInt32).toInt8.toInt32))) 0 1 12) 1 12 (vp_nar .byte ((((xs 4).toUInt32 >>> ((24 : Int32).toUInt32 &&& Int32.toUInt32 31)).toInt32).toInt8.toInt32))) 0 1 13) 1 13 (vp_nar .byte ((((xs 4).toUInt32 >>> ((16 : Int32).toUInt32 &&& Int32.toUInt32 31)).toInt32).toInt8.toInt32))) 0 1 14) 1 14 (vp_nar .byte ((((xs 4).toUInt32 >>> ((8 : Int32).toUInt32 &&& Int32.toUInt32 31)).toInt32).toInt8.toInt32))) 0 1 15) 1 15 (vp_nar .byte ((((xs 4).toUInt32 >>> ((0 : Int32).toUInt32 &&& Int32.toUInt32 31)).toInt32).toInt8.toInt32))) 0 1 16) 1 16 (vp_nar .byte ((((xs 5).toUInt32 >>> ((24 : Int32).toUInt32 &&& Int32.toUInt32 31)).toInt32).toInt8.toInt32))) 0 1 17) 1 17 (vp_nar .byte ((((xs 5).toUInt32 >>> ((16 : Int32).toUInt32 &&& Int32.toUInt32 31)).toInt32).toInt8.toInt32))) 0 1 18) 1 18 (vp_nar .byte ((((xs 5).toUInt32 >>> ((8 : Int32).toUInt32 &&& Int32.toUInt32 31)).toInt32).toInt8.toInt32))) 0 1 19) 1 19 (vp_nar .byte ((((xs 5).toUInt32 >>> ((0 : Int32).toUInt32 &&& Int32.toUInt32 31)).toInt32).toInt8.toInt32))) 0 1 20) 71 0 (vp_nar .byte (((xs 1) >>> (24 &&& 31)).toInt8.toInt32))) 70 2 1) 71 1 (vp_nar .byte (((xs 1) >>> (16 &&& 31)).toInt8.toInt32))) 70 2 2) 71 2 (vp_nar .byte (((xs 1) >>> (8 &&& 31)).toInt8.toInt32))) 70 2 3) 71 3 (vp_nar .byte (((xs 1) >>> (0 &&& 31)).toInt8.toInt32))) 70 2 4) 71 4 (vp_nar .byte (((xs 2) >>> (24 &&& 31)).toInt8.toInt32))) 70 2 5) 71 5 (vp_nar .byte (((xs 2) >>> (16 &&& 31)).toInt8.toInt32))) 70 2 6) 71 6 (vp_nar .byte (((xs 2) >>> (8 &&& 31)).toInt8.toInt32))) 70 2 7) 71 7 (vp_nar .byte (((xs 2) >>> (0 &&& 31)).toInt8.toInt32))) 70 2 8) := by
  refine Mt_ofn 117 (g_lnI (g_lnI (g_lnI (g_lnI (g_lnI (g_lnI (g_lnI (g_lnI (g_lnI (g_lnI (g_lnI (g_lnI (g_lnI (g_lnI (g_lnI (g_lnI (g_lnI (g_lnI (g_lnI (g_lnI (g_lnI (g_lnI (g_lnI (g_lnI (g_lnI (g_lnI (g_lnI (g_lnI (g_lnI (g_lnI (g_lnI (g_lnI (g_lnI (g_lnI (g_lnI (g_lnI (g_lnI (g_lnI (g_lnI (g_lnI (g_lnI (g_lnI (g_lnI (g_lnI (g_lnI (g_lnI (g_lnI (g_lnI hpN)))))))))))))))))))))))))))))))))))))))))))))))) (by decide) (Nat.le_of_ble_eq_true rfl) ?_
  show Go l RX8 cX8_put 3 (g_rm 1 0 0) "put" none 117 0 0 _ _ 0 0 [(0, .ref 70), (1, .int (xs 2))] [] (hI (hI (hI (hI (hI (hI (hI (hI (hI (hI (hI (hI (hI (hI (hI (hI (hI (hI (hI (hI (hI (hI (hI (hI (hI (hI (hI (hI (hI (hI (hI (hI (hI (hI (hI (hI (hI (hI (hI (hI (hI (hI (hI (hI (hI (hI (hI (hI hz10 1 0 (vp_nar .byte ((((xs 1).toUInt32 >>> ((24 : Int32).toUInt32 &&& Int32.toUInt32 31)).toInt32).toInt8.toInt32))) 0 1 1) 1 1 (vp_nar .byte ((((xs 1).toUInt32 >>> ((16 : Int32).toUInt32 &&& Int32.toUInt32 31)).toInt32).toInt8.toInt32))) 0 1 2) 1 2 (vp_nar .byte ((((xs 1).toUInt32 >>> ((8 : Int32).toUInt32 &&& Int32.toUInt32 31)).toInt32).toInt8.toInt32))) 0 1 3) 1 3 (vp_nar .byte ((((xs 1).toUInt32 >>> ((0 : Int32).toUInt32 &&& Int32.toUInt32 31)).toInt32).toInt8.toInt32))) 0 1 4) 1 4 (vp_nar .byte ((((xs 2).toUInt32 >>> ((24 : Int32).toUInt32 &&& Int32.toUInt32 31)).toInt32).toInt8.toInt32))) 0 1 5) 1 5 (vp_nar .byte ((((xs 2).toUInt32 >>> ((16 : Int32).toUInt32 &&& Int32.toUInt32 31)).toInt32).toInt8.toInt32))) 0 1 6) 1 6 (vp_nar .byte ((((xs 2).toUInt32 >>> ((8 : Int32).toUInt32 &&& Int32.toUInt32 31)).toInt32).toInt8.toInt32))) 0 1 7) 1 7 (vp_nar .byte ((((xs 2).toUInt32 >>> ((0 : Int32).toUInt32 &&& Int32.toUInt32 31)).toInt32).toInt8.toInt32))) 0 1 8) 1 8 (vp_nar .byte ((((xs 3).toUInt32 >>> ((24 : Int32).toUInt32 &&& Int32.toUInt32 31)).toInt32).toInt8.toInt32))) 0 1 9) 1 9 (vp_nar .byte ((((xs 3).toUInt32 >>> ((16 : Int32).toUInt32 &&& Int32.toUInt32 31)).toInt32).toInt8.toInt32))) 0 1 10) 1 10 (vp_nar .byte ((((xs 3).toUInt32 >>> ((8 : Int32).toUInt32 &&& Int32.toUInt32 31)).toInt32).toInt8.toInt32))) 0 1 11) 1 11 (vp_nar .byte ((((xs 3).toUInt32 >>> ((0 : Int32).toUInt32 &&& Int32.toUInt32 31)).toInt32).toInt8.toInt32))) 0 1 12) 1 12 (vp_nar .byte ((((xs 4).toUInt32 >>> ((24 : Int32).toUInt32 &&& Int32.toUInt32 31)).toInt32).toInt8.toInt32))) 0 1 13) 1 13 (vp_nar .byte ((((xs 4).toUInt32 >>> ((16 : Int32).toUInt32 &&& Int32.toUInt32 31)).toInt32).toInt8.toInt32))) 0 1 14) 1 14 (vp_nar .byte ((((xs 4).toUInt32 >>> ((8 : Int32).toUInt32 &&& Int32.toUInt32 31)).toInt32).toInt8.toInt32))) 0 1 15) 1 15 (vp_nar .byte ((((xs 4).toUInt32 >>> ((0 : Int32).toUInt32 &&& Int32.toUInt32 31)).toInt32).toInt8.toInt32))) 0 1 16) 1 16 (vp_nar .byte ((((xs 5).toUInt32 >>> ((24 : Int32).toUInt32 &&& Int32.toUInt32 31)).toInt32).toInt8.toInt32))) 0 1 17) 1 17 (vp_nar .byte ((((xs 5).toUInt32 >>> ((16 : Int32).toUInt32 &&& Int32.toUInt32 31)).toInt32).toInt8.toInt32))) 0 1 18) 1 18 (vp_nar .byte ((((xs 5).toUInt32 >>> ((8 : Int32).toUInt32 &&& Int32.toUInt32 31)).toInt32).toInt8.toInt32))) 0 1 19) 1 19 (vp_nar .byte ((((xs 5).toUInt32 >>> ((0 : Int32).toUInt32 &&& Int32.toUInt32 31)).toInt32).toInt8.toInt32))) 0 1 20) 71 0 (vp_nar .byte (((xs 1) >>> (24 &&& 31)).toInt8.toInt32))) 70 2 1) 71 1 (vp_nar .byte (((xs 1) >>> (16 &&& 31)).toInt8.toInt32))) 70 2 2) 71 2 (vp_nar .byte (((xs 1) >>> (8 &&& 31)).toInt8.toInt32))) 70 2 3) 71 3 (vp_nar .byte (((xs 1) >>> (0 &&& 31)).toInt8.toInt32))) 70 2 4)
  refine go_bipush (pc := 0) (v := 24) (by decide) dX8_put_0 ?_
  refine go_istore_n (pc := 2) (Nat.le_of_ble_eq_true rfl) dX8_put_2 (go_lv (lv2 := [(0, .ref 70), (1, .int (xs 2)), (2, .int 24)]) rfl ?_)
  refine go_iload_n (pc := 3) rfl dX8_put_3 ?_
  refine go_if_lt (pc := 4) (tgt := 36) (by decide) dX8_put_4 (fun q => absurd q (by decide)) (fun _ => ?_)
  refine go_aload_n (pc := 7) rfl dX8_put_7 ?_
  refine go_getR (pc := 8) (v := .ref 71) fL_X8_7 (g_shI (g_shI (g_shI (g_shI (g_shI (g_shI (g_shI (g_shI (g_shI (g_shI (g_shI (g_shI (g_shI (g_shI (g_shI (g_shI (g_shI (g_shI (g_shI (g_shI (g_shI (g_shI (g_shI (g_shI (g_shI (g_shI (g_shI (g_shI (g_shI (g_shI (g_shI (g_shI (g_shI (g_shI (g_shI (g_shI (g_shI (g_shI (g_shI (g_shI (g_shI (g_shI (g_shI (g_shI (g_shI (g_shI (g_shI (g_shI (g_sh hpS rfl))))))))))))))))))))))))))))))))))))))))))))))))) (Nat.le_of_ble_eq_true rfl) rfl (g_rI (g_rI (g_rI (g_rI (g_rI (g_rI (g_rI (g_rI (g_rI (g_rI (g_rI (g_rI (g_rI (g_rI (g_rI (g_rI (g_rI (g_rI (g_rI (g_rI (g_rI (g_rI (g_rI (g_rI (g_rI (g_rI (g_rI (g_rI (g_rI (g_rI (g_rI (g_rI (g_rI (g_rI (g_rI (g_rI (g_rI (g_rI (g_rI (g_rI (g_rI (g_rI (g_rI (g_rI (g_rI (g_rI (g_rI (g_rI hpr_70_0)))))))))))))))))))))))))))))))))))))))))))))))) dX8_put_8 ?_
  refine go_aload_n (pc := 11) rfl dX8_put_11 ?_
  refine go_getI (pc := 12) fL_X8_151 (g_shI (g_shI (g_shI (g_shI (g_shI (g_shI (g_shI (g_shI (g_shI (g_shI (g_shI (g_shI (g_shI (g_shI (g_shI (g_shI (g_shI (g_shI (g_shI (g_shI (g_shI (g_shI (g_shI (g_shI (g_shI (g_shI (g_shI (g_shI (g_shI (g_shI (g_shI (g_shI (g_shI (g_shI (g_shI (g_shI (g_shI (g_shI (g_shI (g_shI (g_shI (g_shI (g_shI (g_shI (g_shI (g_shI (g_shI (g_shI (g_sh hpS rfl))))))))))))))))))))))))))))))))))))))))))))))))) (Nat.le_of_ble_eq_true rfl) rfl dX8_put_12 (go_topi (y := 4) g_iS ?_)
  refine go_iload_n (pc := 15) rfl dX8_put_15 ?_
  refine go_iload_n (pc := 16) rfl dX8_put_16 ?_
  refine go_ishr (pc := 17) dX8_put_17 ?_
  refine go_i2b (pc := 18) dX8_put_18 ?_
  refine go_bastj (pc := 19) (j := 4) (g_shI (g_shI (g_shI (g_shI (g_shI (g_shI (g_shI (g_shI (g_shI (g_shI (g_shI (g_shI (g_shI (g_shI (g_shI (g_shI (g_shI (g_shI (g_shI (g_shI (g_shI (g_shI (g_shI (g_shI (g_shI (g_shI (g_shI (g_shI (g_shI (g_shI (g_shI (g_shI (g_shI (g_shI (g_shI (g_shI (g_shI (g_shI (g_shI (g_shI (g_shI (g_shI (g_shI (g_shI (g_shI (g_shI (g_shI (g_shI (g_sh hpS rfl))))))))))))))))))))))))))))))))))))))))))))))))) (by decide +kernel) (by decide +kernel) dX8_put_19 ?_
  refine go_aload_n (pc := 20) rfl dX8_put_20 ?_
  refine go_dup (pc := 21) rfl dX8_put_21 ?_
  refine go_getI (pc := 22) fL_X8_151 (g_shI (g_shI (g_shI (g_shI (g_shI (g_shI (g_shI (g_shI (g_shI (g_shI (g_shI (g_shI (g_shI (g_shI (g_shI (g_shI (g_shI (g_shI (g_shI (g_shI (g_shI (g_shI (g_shI (g_shI (g_shI (g_shI (g_shI (g_shI (g_shI (g_shI (g_shI (g_shI (g_shI (g_shI (g_shI (g_shI (g_shI (g_shI (g_shI (g_shI (g_shI (g_shI (g_shI (g_shI (g_shI (g_shI (g_shI (g_shI (g_shI (g_sh hpS rfl)))))))))))))))))))))))))))))))))))))))))))))))))) (Nat.le_of_ble_eq_true rfl) rfl dX8_put_22 (go_topi (y := 4) (g_iI rfl g_iS) ?_)
  refine go_iconst (pc := 25) (v := 1) (by decide) dX8_put_25 ?_
  refine go_iadd (pc := 26) dX8_put_26 (go_topi (y := 5) (by decide) ?_)
  refine go_putI (pc := 27) (fP_X8_151 _) (g_shI (g_shI (g_shI (g_shI (g_shI (g_shI (g_shI (g_shI (g_shI (g_shI (g_shI (g_shI (g_shI (g_shI (g_shI (g_shI (g_shI (g_shI (g_shI (g_shI (g_shI (g_shI (g_shI (g_shI (g_shI (g_shI (g_shI (g_shI (g_shI (g_shI (g_shI (g_shI (g_shI (g_shI (g_shI (g_shI (g_shI (g_shI (g_shI (g_shI (g_shI (g_shI (g_shI (g_shI (g_shI (g_shI (g_shI (g_shI (g_shI (g_sh hpS rfl)))))))))))))))))))))))))))))))))))))))))))))))))) (Nat.le_of_ble_eq_true rfl) rfl (fun _ => rfl) (fun _ => rfl) dX8_put_27 ?_
  refine go_iincv (pc := 30) (y := 16) (Nat.le_of_ble_eq_true rfl) rfl (by decide) dX8_put_30 (go_lv (lv2 := [(0, .ref 70), (1, .int (xs 2)), (2, .int 16)]) rfl ?_)
  refine go_goto (pc := 33) (tgt := 3) (by decide) dX8_put_33 ?_
  refine go_iload_n (pc := 3) rfl dX8_put_3 ?_
  refine go_if_lt (pc := 4) (tgt := 36) (by decide) dX8_put_4 (fun q => absurd q (by decide)) (fun _ => ?_)
  refine go_aload_n (pc := 7) rfl dX8_put_7 ?_
  refine go_getR (pc := 8) (v := .ref 71) fL_X8_7 (g_shI (g_shI (g_shI (g_shI (g_shI (g_shI (g_shI (g_shI (g_shI (g_shI (g_shI (g_shI (g_shI (g_shI (g_shI (g_shI (g_shI (g_shI (g_shI (g_shI (g_shI (g_shI (g_shI (g_shI (g_shI (g_shI (g_shI (g_shI (g_shI (g_shI (g_shI (g_shI (g_shI (g_shI (g_shI (g_shI (g_shI (g_shI (g_shI (g_shI (g_shI (g_shI (g_shI (g_shI (g_shI (g_shI (g_shI (g_shI (g_shI (g_shI (g_sh hpS rfl))))))))))))))))))))))))))))))))))))))))))))))))))) (Nat.le_of_ble_eq_true rfl) rfl (g_rI (g_rI (g_rI (g_rI (g_rI (g_rI (g_rI (g_rI (g_rI (g_rI (g_rI (g_rI (g_rI (g_rI (g_rI (g_rI (g_rI (g_rI (g_rI (g_rI (g_rI (g_rI (g_rI (g_rI (g_rI (g_rI (g_rI (g_rI (g_rI (g_rI (g_rI (g_rI (g_rI (g_rI (g_rI (g_rI (g_rI (g_rI (g_rI (g_rI (g_rI (g_rI (g_rI (g_rI (g_rI (g_rI (g_rI (g_rI (g_rI (g_rI hpr_70_0)))))))))))))))))))))))))))))))))))))))))))))))))) dX8_put_8 ?_
  refine go_aload_n (pc := 11) rfl dX8_put_11 ?_
  refine go_getI (pc := 12) fL_X8_151 (g_shI (g_shI (g_shI (g_shI (g_shI (g_shI (g_shI (g_shI (g_shI (g_shI (g_shI (g_shI (g_shI (g_shI (g_shI (g_shI (g_shI (g_shI (g_shI (g_shI (g_shI (g_shI (g_shI (g_shI (g_shI (g_shI (g_shI (g_shI (g_shI (g_shI (g_shI (g_shI (g_shI (g_shI (g_shI (g_shI (g_shI (g_shI (g_shI (g_shI (g_shI (g_shI (g_shI (g_shI (g_shI (g_shI (g_shI (g_shI (g_shI (g_shI (g_sh hpS rfl))))))))))))))))))))))))))))))))))))))))))))))))))) (Nat.le_of_ble_eq_true rfl) rfl dX8_put_12 (go_topi (y := 5) g_iS ?_)
  refine go_iload_n (pc := 15) rfl dX8_put_15 ?_
  refine go_iload_n (pc := 16) rfl dX8_put_16 ?_
  refine go_ishr (pc := 17) dX8_put_17 ?_
  refine go_i2b (pc := 18) dX8_put_18 ?_
  refine go_bastj (pc := 19) (j := 5) (g_shI (g_shI (g_shI (g_shI (g_shI (g_shI (g_shI (g_shI (g_shI (g_shI (g_shI (g_shI (g_shI (g_shI (g_shI (g_shI (g_shI (g_shI (g_shI (g_shI (g_shI (g_shI (g_shI (g_shI (g_shI (g_shI (g_shI (g_shI (g_shI (g_shI (g_shI (g_shI (g_shI (g_shI (g_shI (g_shI (g_shI (g_shI (g_shI (g_shI (g_shI (g_shI (g_shI (g_shI (g_shI (g_shI (g_shI (g_shI (g_shI (g_shI (g_sh hpS rfl))))))))))))))))))))))))))))))))))))))))))))))))))) (by decide +kernel) (by decide +kernel) dX8_put_19 ?_
  refine go_aload_n (pc := 20) rfl dX8_put_20 ?_
  refine go_dup (pc := 21) rfl dX8_put_21 ?_
  refine go_getI (pc := 22) fL_X8_151 (g_shI (g_shI (g_shI (g_shI (g_shI (g_shI (g_shI (g_shI (g_shI (g_shI (g_shI (g_shI (g_shI (g_shI (g_shI (g_shI (g_shI (g_shI (g_shI (g_shI (g_shI (g_shI (g_shI (g_shI (g_shI (g_shI (g_shI (g_shI (g_shI (g_shI (g_shI (g_shI (g_shI (g_shI (g_shI (g_shI (g_shI (g_shI (g_shI (g_shI (g_shI (g_shI (g_shI (g_shI (g_shI (g_shI (g_shI (g_shI (g_shI (g_shI (g_shI (g_sh hpS rfl)))))))))))))))))))))))))))))))))))))))))))))))))))) (Nat.le_of_ble_eq_true rfl) rfl dX8_put_22 (go_topi (y := 5) (g_iI rfl g_iS) ?_)
  refine go_iconst (pc := 25) (v := 1) (by decide) dX8_put_25 ?_
  refine go_iadd (pc := 26) dX8_put_26 (go_topi (y := 6) (by decide) ?_)
  refine go_putI (pc := 27) (fP_X8_151 _) (g_shI (g_shI (g_shI (g_shI (g_shI (g_shI (g_shI (g_shI (g_shI (g_shI (g_shI (g_shI (g_shI (g_shI (g_shI (g_shI (g_shI (g_shI (g_shI (g_shI (g_shI (g_shI (g_shI (g_shI (g_shI (g_shI (g_shI (g_shI (g_shI (g_shI (g_shI (g_shI (g_shI (g_shI (g_shI (g_shI (g_shI (g_shI (g_shI (g_shI (g_shI (g_shI (g_shI (g_shI (g_shI (g_shI (g_shI (g_shI (g_shI (g_shI (g_shI (g_sh hpS rfl)))))))))))))))))))))))))))))))))))))))))))))))))))) (Nat.le_of_ble_eq_true rfl) rfl (fun _ => rfl) (fun _ => rfl) dX8_put_27 ?_
  refine go_iincv (pc := 30) (y := 8) (Nat.le_of_ble_eq_true rfl) rfl (by decide) dX8_put_30 (go_lv (lv2 := [(0, .ref 70), (1, .int (xs 2)), (2, .int 8)]) rfl ?_)
  refine go_goto (pc := 33) (tgt := 3) (by decide) dX8_put_33 ?_
  refine go_iload_n (pc := 3) rfl dX8_put_3 ?_
  refine go_if_lt (pc := 4) (tgt := 36) (by decide) dX8_put_4 (fun q => absurd q (by decide)) (fun _ => ?_)
  refine go_aload_n (pc := 7) rfl dX8_put_7 ?_
  refine go_getR (pc := 8) (v := .ref 71) fL_X8_7 (g_shI (g_shI (g_shI (g_shI (g_shI (g_shI (g_shI (g_shI (g_shI (g_shI (g_shI (g_shI (g_shI (g_shI (g_shI (g_shI (g_shI (g_shI (g_shI (g_shI (g_shI (g_shI (g_shI (g_shI (g_shI (g_shI (g_shI (g_shI (g_shI (g_shI (g_shI (g_shI (g_shI (g_shI (g_shI (g_shI (g_shI (g_shI (g_shI (g_shI (g_shI (g_shI (g_shI (g_shI (g_shI (g_shI (g_shI (g_shI (g_shI (g_shI (g_shI (g_shI (g_sh hpS rfl))))))))))))))))))))))))))))))))))))))))))))))))))))) (Nat.le_of_ble_eq_true rfl) rfl (g_rI (g_rI (g_rI (g_rI (g_rI (g_rI (g_rI (g_rI (g_rI (g_rI (g_rI (g_rI (g_rI (g_rI (g_rI (g_rI (g_rI (g_rI (g_rI (g_rI (g_rI (g_rI (g_rI (g_rI (g_rI (g_rI (g_rI (g_rI (g_rI (g_rI (g_rI (g_rI (g_rI (g_rI (g_rI (g_rI (g_rI (g_rI (g_rI (g_rI (g_rI (g_rI (g_rI (g_rI (g_rI (g_rI (g_rI (g_rI (g_rI (g_rI (g_rI (g_rI hpr_70_0)))))))))))))))))))))))))))))))))))))))))))))))))))) dX8_put_8 ?_
  refine go_aload_n (pc := 11) rfl dX8_put_11 ?_
  refine go_getI (pc := 12) fL_X8_151 (g_shI (g_shI (g_shI (g_shI (g_shI (g_shI (g_shI (g_shI (g_shI (g_shI (g_shI (g_shI (g_shI (g_shI (g_shI (g_shI (g_shI (g_shI (g_shI (g_shI (g_shI (g_shI (g_shI (g_shI (g_shI (g_shI (g_shI (g_shI (g_shI (g_shI (g_shI (g_shI (g_shI (g_shI (g_shI (g_shI (g_shI (g_shI (g_shI (g_shI (g_shI (g_shI (g_shI (g_shI (g_shI (g_shI (g_shI (g_shI (g_shI (g_shI (g_shI (g_shI (g_sh hpS rfl))))))))))))))))))))))))))))))))))))))))))))))))))))) (Nat.le_of_ble_eq_true rfl) rfl dX8_put_12 (go_topi (y := 6) g_iS ?_)
  refine go_iload_n (pc := 15) rfl dX8_put_15 ?_
  refine go_iload_n (pc := 16) rfl dX8_put_16 ?_
  refine go_ishr (pc := 17) dX8_put_17 ?_
  refine go_i2b (pc := 18) dX8_put_18 ?_
  refine go_bastj (pc := 19) (j := 6) (g_shI (g_shI (g_shI (g_shI (g_shI (g_shI (g_shI (g_shI (g_shI (g_shI (g_shI (g_shI (g_shI (g_shI (g_shI (g_shI (g_shI (g_shI (g_shI (g_shI (g_shI (g_shI (g_shI (g_shI (g_shI (g_shI (g_shI (g_shI (g_shI (g_shI (g_shI (g_shI (g_shI (g_shI (g_shI (g_shI (g_shI (g_shI (g_shI (g_shI (g_shI (g_shI (g_shI (g_shI (g_shI (g_shI (g_shI (g_shI (g_shI (g_shI (g_shI (g_shI (g_sh hpS rfl))))))))))))))))))))))))))))))))))))))))))))))))))))) (by decide +kernel) (by decide +kernel) dX8_put_19 ?_
  refine go_aload_n (pc := 20) rfl dX8_put_20 ?_
  refine go_dup (pc := 21) rfl dX8_put_21 ?_
  refine go_getI (pc := 22) fL_X8_151 (g_shI (g_shI (g_shI (g_shI (g_shI (g_shI (g_shI (g_shI (g_shI (g_shI (g_shI (g_shI (g_shI (g_shI (g_shI (g_shI (g_shI (g_shI (g_shI (g_shI (g_shI (g_shI (g_shI (g_shI (g_shI (g_shI (g_shI (g_shI (g_shI (g_shI (g_shI (g_shI (g_shI (g_shI (g_shI (g_shI (g_shI (g_shI (g_shI (g_shI (g_shI (g_shI (g_shI (g_shI (g_shI (g_shI (g_shI (g_shI (g_shI (g_shI (g_shI (g_shI (g_shI (g_sh hpS rfl)))))))))))))))))))))))))))))))))))))))))))))))))))))) (Nat.le_of_ble_eq_true rfl) rfl dX8_put_22 (go_topi (y := 6) (g_iI rfl g_iS) ?_)
  refine go_iconst (pc := 25) (v := 1) (by decide) dX8_put_25 ?_
  refine go_iadd (pc := 26) dX8_put_26 (go_topi (y := 7) (by decide) ?_)
  refine go_putI (pc := 27) (fP_X8_151 _) (g_shI (g_shI (g_shI (g_shI (g_shI (g_shI (g_shI (g_shI (g_shI (g_shI (g_shI (g_shI (g_shI (g_shI (g_shI (g_shI (g_shI (g_shI (g_shI (g_shI (g_shI (g_shI (g_shI (g_shI (g_shI (g_shI (g_shI (g_shI (g_shI (g_shI (g_shI (g_shI (g_shI (g_shI (g_shI (g_shI (g_shI (g_shI (g_shI (g_shI (g_shI (g_shI (g_shI (g_shI (g_shI (g_shI (g_shI (g_shI (g_shI (g_shI (g_shI (g_shI (g_shI (g_sh hpS rfl)))))))))))))))))))))))))))))))))))))))))))))))))))))) (Nat.le_of_ble_eq_true rfl) rfl (fun _ => rfl) (fun _ => rfl) dX8_put_27 ?_
  refine go_iincv (pc := 30) (y := 0) (Nat.le_of_ble_eq_true rfl) rfl (by decide) dX8_put_30 (go_lv (lv2 := [(0, .ref 70), (1, .int (xs 2)), (2, .int 0)]) rfl ?_)
  refine go_goto (pc := 33) (tgt := 3) (by decide) dX8_put_33 ?_
  refine go_iload_n (pc := 3) rfl dX8_put_3 ?_
  refine go_if_lt (pc := 4) (tgt := 36) (by decide) dX8_put_4 (fun q => absurd q (by decide)) (fun _ => ?_)
  refine go_aload_n (pc := 7) rfl dX8_put_7 ?_
  refine go_getR (pc := 8) (v := .ref 71) fL_X8_7 (g_shI (g_shI (g_shI (g_shI (g_shI (g_shI (g_shI (g_shI (g_shI (g_shI (g_shI (g_shI (g_shI (g_shI (g_shI (g_shI (g_shI (g_shI (g_shI (g_shI (g_shI (g_shI (g_shI (g_shI (g_shI (g_shI (g_shI (g_shI (g_shI (g_shI (g_shI (g_shI (g_shI (g_shI (g_shI (g_shI (g_shI (g_shI (g_shI (g_shI (g_shI (g_shI (g_shI (g_shI (g_shI (g_shI (g_shI (g_shI (g_shI (g_shI (g_shI (g_shI (g_shI (g_shI (g_sh hpS rfl))))))))))))))))))))))))))))))))))))))))))))))))))))))) (Nat.le_of_ble_eq_true rfl) rfl (g_rI (g_rI (g_rI (g_rI (g_rI (g_rI (g_rI (g_rI (g_rI (g_rI (g_rI (g_rI (g_rI (g_rI (g_rI (g_rI (g_rI (g_rI (g_rI (g_rI (g_rI (g_rI (g_rI (g_rI (g_rI (g_rI (g_rI (g_rI (g_rI (g_rI (g_rI (g_rI (g_rI (g_rI (g_rI (g_rI (g_rI (g_rI (g_rI (g_rI (g_rI (g_rI (g_rI (g_rI (g_rI (g_rI (g_rI (g_rI (g_rI (g_rI (g_rI (g_rI (g_rI (g_rI hpr_70_0)))))))))))))))))))))))))))))))))))))))))))))))))))))) dX8_put_8 ?_
  refine go_aload_n (pc := 11) rfl dX8_put_11 ?_
  refine go_getI (pc := 12) fL_X8_151 (g_shI (g_shI (g_shI (g_shI (g_shI (g_shI (g_shI (g_shI (g_shI (g_shI (g_shI (g_shI (g_shI (g_shI (g_shI (g_shI (g_shI (g_shI (g_shI (g_shI (g_shI (g_shI (g_shI (g_shI (g_shI (g_shI (g_shI (g_shI (g_shI (g_shI (g_shI (g_shI (g_shI (g_shI (g_shI (g_shI (g_shI (g_shI (g_shI (g_shI (g_shI (g_shI (g_shI (g_shI (g_shI (g_shI (g_shI (g_shI (g_shI (g_shI (g_shI (g_shI (g_shI (g_shI (g_sh hpS rfl))))))))))))))))))))))))))))))))))))))))))))))))))))))) (Nat.le_of_ble_eq_true rfl) rfl dX8_put_12 (go_topi (y := 7) g_iS ?_)
  refine go_iload_n (pc := 15) rfl dX8_put_15 ?_
  refine go_iload_n (pc := 16) rfl dX8_put_16 ?_
  refine go_ishr (pc := 17) dX8_put_17 ?_
  refine go_i2b (pc := 18) dX8_put_18 ?_
  refine go_bastj (pc := 19) (j := 7) (g_shI (g_shI (g_shI (g_shI (g_shI (g_shI (g_shI (g_shI (g_shI (g_shI (g_shI (g_shI (g_shI (g_shI (g_shI (g_shI (g_shI (g_shI (g_shI (g_shI (g_shI (g_shI (g_shI (g_shI (g_shI (g_shI (g_shI (g_shI (g_shI (g_shI (g_shI (g_shI (g_shI (g_shI (g_shI (g_shI (g_shI (g_shI (g_shI (g_shI (g_shI (g_shI (g_shI (g_shI (g_shI (g_shI (g_shI (g_shI (g_shI (g_shI (g_shI (g_shI (g_shI (g_shI (g_sh hpS rfl))))))))))))))))))))))))))))))))))))))))))))))))))))))) (by decide +kernel) (by decide +kernel) dX8_put_19 ?_
  refine go_aload_n (pc := 20) rfl dX8_put_20 ?_
  refine go_dup (pc := 21) rfl dX8_put_21 ?_
  refine go_getI (pc := 22) fL_X8_151 (g_shI (g_shI (g_shI (g_shI (g_shI (g_shI (g_shI (g_shI (g_shI (g_shI (g_shI (g_shI (g_shI (g_shI (g_shI (g_shI (g_shI (g_shI (g_shI (g_shI (g_shI (g_shI (g_shI (g_shI (g_shI (g_shI (g_shI (g_shI (g_shI (g_shI (g_shI (g_shI (g_shI (g_shI (g_shI (g_shI (g_shI (g_shI (g_shI (g_shI (g_shI (g_shI (g_shI (g_shI (g_shI (g_shI (g_shI (g_shI (g_shI (g_shI (g_shI (g_shI (g_shI (g_shI (g_shI (g_sh hpS rfl)))))))))))))))))))))))))))))))))))))))))))))))))))))))) (Nat.le_of_ble_eq_true rfl) rfl dX8_put_22 (go_topi (y := 7) (g_iI rfl g_iS) ?_)
  refine go_iconst (pc := 25) (v := 1) (by decide) dX8_put_25 ?_
  refine go_iadd (pc := 26) dX8_put_26 (go_topi (y := 8) (by decide) ?_)
  refine go_putI (pc := 27) (fP_X8_151 _) (g_shI (g_shI (g_shI (g_shI (g_shI (g_shI (g_shI (g_shI (g_shI (g_shI (g_shI (g_shI (g_shI (g_shI (g_shI (g_shI (g_shI (g_shI (g_shI (g_shI (g_shI (g_shI (g_shI (g_shI (g_shI (g_shI (g_shI (g_shI (g_shI (g_shI (g_shI (g_shI (g_shI (g_shI (g_shI (g_shI (g_shI (g_shI (g_shI (g_shI (g_shI (g_shI (g_shI (g_shI (g_shI (g_shI (g_shI (g_shI (g_shI (g_shI (g_shI (g_shI (g_shI (g_shI (g_shI (g_sh hpS rfl)))))))))))))))))))))))))))))))))))))))))))))))))))))))) (Nat.le_of_ble_eq_true rfl) rfl (fun _ => rfl) (fun _ => rfl) dX8_put_27 ?_
  refine go_iincv (pc := 30) (y := (-8)) (Nat.le_of_ble_eq_true rfl) rfl (by decide) dX8_put_30 (go_lv (lv2 := [(0, .ref 70), (1, .int (xs 2)), (2, .int (-8))]) rfl ?_)
  refine go_goto (pc := 33) (tgt := 3) (by decide) dX8_put_33 ?_
  refine go_iload_n (pc := 3) rfl dX8_put_3 ?_
  refine go_if_lt (pc := 4) (tgt := 36) (by decide) dX8_put_4 (fun _ => ?_) (fun q => absurd q (by decide))
  exact go_vret (pc := 36) (⟨rfl, rfl⟩) (g_lnI (g_lnI (g_lnI (g_lnI (g_lnI (g_lnI (g_lnI (g_lnI (g_lnI (g_lnI (g_lnI (g_lnI (g_lnI (g_lnI (g_lnI (g_lnI (g_lnI (g_lnI (g_lnI (g_lnI (g_lnI (g_lnI (g_lnI (g_lnI (g_lnI (g_lnI (g_lnI (g_lnI (g_lnI (g_lnI (g_lnI (g_lnI (g_lnI (g_lnI (g_lnI (g_lnI (g_lnI (g_lnI (g_lnI (g_lnI (g_lnI (g_lnI (g_lnI (g_lnI (g_lnI (g_lnI (g_lnI (g_lnI (g_lnI (g_lnI (g_lnI (g_lnI (g_lnI (g_lnI (g_lnI (g_lnI hpN)))))))))))))))))))))))))))))))))))))))))))))))))))))))) (Nat.le_of_ble_eq_true rfl) dX8_put_36
set_option maxHeartbeats 4000000 in
set_option maxRecDepth 100000 in
theorem k19_X8_put (l : Launch) (xs : Nat → Int32) : Mt l yX8_put cX8_put 3 none 1 [.ref 70, .int (xs 3)] (hI (hI (hI (hI (hI (hI (hI (hI (hI (hI (hI (hI (hI (hI (hI (hI (hI (hI (hI (hI (hI (hI (hI (hI (hI (hI (hI (hI (hI (hI (hI (hI (hI (hI (hI (hI (hI (hI (hI (hI (hI (hI (hI (hI (hI (hI (hI (hI (hI (hI (hI (hI (hI (hI (hI (hI hz10 1 0 (vp_nar .byte ((((xs 1).toUInt32 >>> ((24 : Int32).toUInt32 &&& Int32.toUInt32 31)).toInt32).toInt8.toInt32))) 0 1 1) 1 1 (vp_nar .byte ((((xs 1).toUInt32 >>> ((16 : Int32).toUInt32 &&& Int32.toUInt32 31)).toInt32).toInt8.toInt32))) 0 1 2) 1 2 (vp_nar .byte ((((xs 1).toUInt32 >>> ((8 : Int32).toUInt32 &&& Int32.toUInt32 31)).toInt32).toInt8.toInt32))) 0 1 3) 1 3 (vp_nar .byte ((((xs 1).toUInt32 >>> ((0 : Int32).toUInt32 &&& Int32.toUInt32 31)).toInt32).toInt8.toInt32))) 0 1 4) 1 4 (vp_nar .byte ((((xs 2).toUInt32 >>> ((24 : Int32).toUInt32 &&& Int32.toUInt32 31)).toInt32).toInt8.toInt32))) 0 1 5) 1 5 (vp_nar .byte ((((xs 2).toUInt32 >>> ((16 : Int32).toUInt32 &&& Int32.toUInt32 31)).toInt32).toInt8.toInt32))) 0 1 6) 1 6 (vp_nar .byte ((((xs 2).toUInt32 >>> ((8 : Int32).toUInt32 &&& Int32.toUInt32 31)).toInt32).toInt8.toInt32))) 0 1 7) 1 7 (vp_nar .byte ((((xs 2).toUInt32 >>> ((0 : Int32).toUInt32 &&& Int32.toUInt32 31)).toInt32).toInt8.toInt32))) 0 1 8) 1 8 (vp_nar .byte ((((xs 3).toUInt32 >>> ((24 : Int32).toUInt32 &&& Int32.toUInt32 31)).toInt32).toInt8.toInt32))) 0 1 9) 1 9 (vp_nar .byte ((((xs 3).toUInt32 >>> ((16 : Int32).toUInt32 &&& Int32.toUInt32 31)).toInt32).toInt8.toInt32))) 0 1 10) 1 10 (vp_nar .byte ((((xs 3).toUInt32 >>> ((8 : Int32).toUInt32 &&& Int32.toUInt32 31)).toInt32).toInt8.toInt32))) 0 1 11) 1 11 (vp_nar .byte ((((xs 3).toUInt32 >>> ((0 : Int32).toUInt32 &&& Int32.toUInt32 31)).toInt32).toInt8.toInt32))) 0 1 12) 1 12 (vp_nar .byte ((((xs 4).toUInt32 >>> ((24 : Int32).toUInt32 &&& Int32.toUInt32 31)).toInt32).toInt8.toInt32))) 0 1 13) 1 13 (vp_nar .byte ((((xs 4).toUInt32 >>> ((16 : Int32).toUInt32 &&& Int32.toUInt32 31)).toInt32).toInt8.toInt32))) 0 1 14) 1 14 (vp_nar .byte ((((xs 4).toUInt32 >>> ((8 : Int32).toUInt32 &&& Int32.toUInt32 31)).toInt32).toInt8.toInt32))) 0 1 15) 1 15 (vp_nar .byte ((((xs 4).toUInt32 >>> ((0 : Int32).toUInt32 &&& Int32.toUInt32 31)).toInt32).toInt8.toInt32))) 0 1 16) 1 16 (vp_nar .byte ((((xs 5).toUInt32 >>> ((24 : Int32).toUInt32 &&& Int32.toUInt32 31)).toInt32).toInt8.toInt32))) 0 1 17) 1 17 (vp_nar .byte ((((xs 5).toUInt32 >>> ((16 : Int32).toUInt32 &&& Int32.toUInt32 31)).toInt32).toInt8.toInt32))) 0 1 18) 1 18 (vp_nar .byte ((((xs 5).toUInt32 >>> ((8 : Int32).toUInt32 &&& Int32.toUInt32 31)).toInt32).toInt8.toInt32))) 0 1 19) 1 19 (vp_nar .byte ((((xs 5).toUInt32 >>> ((0 : Int32).toUInt32 &&& Int32.toUInt32 31)).toInt32).toInt8.toInt32))) 0 1 20) 71 0 (vp_nar .byte (((xs 1) >>> (24 &&& 31)).toInt8.toInt32))) 70 2 1) 71 1 (vp_nar .byte (((xs 1) >>> (16 &&& 31)).toInt8.toInt32))) 70 2 2) 71 2 (vp_nar .byte (((xs 1) >>> (8 &&& 31)).toInt8.toInt32))) 70 2 3) 71 3 (vp_nar .byte (((xs 1) >>> (0 &&& 31)).toInt8.toInt32))) 70 2 4) 71 4 (vp_nar .byte (((xs 2) >>> (24 &&& 31)).toInt8.toInt32))) 70 2 5) 71 5 (vp_nar .byte (((xs 2) >>> (16 &&& 31)).toInt8.toInt32))) 70 2 6) 71 6 (vp_nar .byte (((xs 2) >>> (8 &&& 31)).toInt8.toInt32))) 70 2 7) 71 7 (vp_nar .byte (((xs 2) >>> (0 &&& 31)).toInt8.toInt32))) 70 2 8) 0 0 (fun r h' => r = none ∧ h' = hI (hI (hI (hI (hI (hI (hI (hI (hI (hI (hI (hI (hI (hI (hI (hI (hI (hI (hI (hI (hI (hI (hI (hI (hI (hI (hI (hI (hI (hI (hI (hI (hI (hI (hI (hI (hI (hI (hI (hI (hI (hI (hI (hI (hI (hI (hI (hI (hI (hI (hI (hI (hI (hI (hI (hI (hI (hI (hI (hI (hI (hI (hI (hI hz10 1 0 (vp_nar .byte ((((xs 1).toUInt32 >>> ((24 : Int32).toUInt32 &&& Int32.toUInt32 31)).toInt32).toInt8.toInt32))) 0 1 1) 1 1 (vp_nar .byte ((((xs 1).toUInt32 >>> ((16 : Int32).toUInt32 &&& Int32.toUInt32 31)).toInt32).toInt8.toInt32))) 0 1 2) 1 2 (vp_nar .byte ((((xs 1).toUInt32 >>> ((8 : Int32).toUInt32 &&& Int32.toUInt32 31)).toInt32).toInt8.toInt32))) 0 1 3) 1 3 (vp_nar .byte ((((xs 1).toUInt32 >>> ((0 : Int32).toUInt32 &&& Int32.toUInt32 31)).toInt32).toInt8.toInt32))) 0 1 4) 1 4 (vp_nar .byte ((((xs 2).toUInt32 >>> ((24 : Int32).toUInt32 &&& Int32.toUInt32 31)).toInt32).toInt8.toInt32))) 0 1 5) 1 5 (vp_nar .byte ((((xs 2).toUInt32 >>> ((16 : Int32).toUInt32 &&& Int32.toUInt32 31)).toInt32).toInt8.toInt32))) 0 1 6) 1 6 (vp_nar .byte ((((xs 2).toUInt32 >>> ((8 : Int32).toUInt32 &&& Int32.toUInt32 31)).toInt32).toInt8.toInt32))) 0 1 7) 1 7 (vp_nar .byte ((((xs 2).toUInt32 >>> ((0 : Int32).toUInt32 &&& Int32.toUInt32 31)).toInt32).toInt8.toInt32))) 0 1 8) 1 8 (vp_nar .byte ((((xs 3).toUInt32 >>> ((24 : Int32).toUInt32 &&& Int32.toUInt32 31)).toInt32).toInt8.toInt32))) 0 1 9) 1 9 (vp_nar .byte ((((xs 3).toUInt32 >>> ((16 : Int32).toUInt32 &&& Int32.toUInt32 31)).toInt32).toInt8.toInt32))) 0 1 10) 1 10 (vp_nar .byte ((((xs 3).toUInt32 >>> ((8 : Int32).toUInt32 &&& Int32.toUInt32 31)).toInt32).toInt8.toInt32))) 0 1 11) 1 11 (vp_nar .byte ((((xs 3).toUInt32 >>> ((0 : Int32).toUInt32 &&& Int32.toUInt32 31)).toInt32).toInt8.toInt32))) 0 1 12) 1 12 (vp_nar .byte ((((xs 4).toUInt32 >>> ((24 : Int32).toUInt32 &&& Int32.toUInt32 31)).toInt32).toInt8.toInt32))) 0 1 13) 1 13 (vp_nar .byte ((((xs 4).toUInt32 >>> ((16 : Int32).toUInt32 &&& Int32.toUInt32 31)).toInt32).toInt8.toInt32))) 0 1 14) 1 14 (vp_nar .byte ((((xs 4).toUInt32 >>> ((8 : Int32).toUInt32 &&& Int32.toUInt32 31)).toInt32).toInt8.toInt32))) 0 1 15) 1 15 (vp_nar .byte ((((xs 4).toUInt32 >>> ((0 : Int32).toUInt32 &&& Int32.toUInt32 31)).toInt32).toInt8.toInt32))) 0 1 16) 1 16 (vp_nar .byte ((((xs 5).toUInt32 >>> ((24 : Int32).toUInt32 &&& Int32.toUInt32 31)).toInt32).toInt8.toInt32))) 0 1 17) 1 17 (vp_nar .byte ((((xs 5).toUInt32 >>> ((16 : Int32).toUInt32 &&& Int32.toUInt32 31)).toInt32).toInt8.toInt32))) 0 1 18) 1 18 (vp_nar .byte ((((xs 5).toUInt32 >>> ((8 : Int32).toUInt32 &&& Int32.toUInt32 31)).toInt32).toInt8.toInt32))) 0 1 19) 1 19 (vp_nar .byte ((((xs 5).toUInt32 >>> ((0 : Int32).toUInt32 &&& Int32.toUInt32 31)).toInt32).toInt8.toInt32))) 0 1 20) 71 0 (vp_nar .byte (((xs 1) >>> (24 &&& 31)).toInt8.toInt32))) 70 2 1) 71 1 (vp_nar .byte (((xs 1) >>> (16 &&& 31)).toInt8.toInt32))) 70 2 2) 71 2 (vp_nar .byte (((xs 1) >>> (8 &&& 31)).toInt8.toInt32))) 70 2 3) 71 3 (vp_nar .byte (((xs 1) >>> (0 &&& 31)).toInt8.toInt32))) 70 2 4) 71 4 (vp_nar .byte (((xs 2) >>> (24 &&& 31)).toInt8.toInt32))) 70 2 5) 71 5 (vp_nar .byte (((xs 2) >>> (16 &&& 31)).toInt8.toInt32))) 70 2 6) 71 6 (vp_nar .byte (((xs 2) >>> (8 &&& 31)).toInt8.toInt32))) 70 2 7) 71 7 (vp_nar .byte (((xs 2) >>> (0 &&& 31)).toInt8.toInt32))) 70 2 8) 71 8 (vp_nar .byte (((xs 3) >>> (24 &&& 31)).toInt8.toInt32))) 70 2 9) 71 9 (vp_nar .byte (((xs 3) >>> (16 &&& 31)).toInt8.toInt32))) 70 2 10) 71 10 (vp_nar .byte (((xs 3) >>> (8 &&& 31)).toInt8.toInt32))) 70 2 11) 71 11 (vp_nar .byte (((xs 3) >>> (0 &&& 31)).toInt8.toInt32))) 70 2 12) := by
  refine Mt_ofn 117 (g_lnI (g_lnI (g_lnI (g_lnI (g_lnI (g_lnI (g_lnI (g_lnI (g_lnI (g_lnI (g_lnI (g_lnI (g_lnI (g_lnI (g_lnI (g_lnI (g_lnI (g_lnI (g_lnI (g_lnI (g_lnI (g_lnI (g_lnI (g_lnI (g_lnI (g_lnI (g_lnI (g_lnI (g_lnI (g_lnI (g_lnI (g_lnI (g_lnI (g_lnI (g_lnI (g_lnI (g_lnI (g_lnI (g_lnI (g_lnI (g_lnI (g_lnI (g_lnI (g_lnI (g_lnI (g_lnI (g_lnI (g_lnI (g_lnI (g_lnI (g_lnI (g_lnI (g_lnI (g_lnI (g_lnI (g_lnI hpN)))))))))))))))))))))))))))))))))))))))))))))))))))))))) (by decide) (Nat.le_of_ble_eq_true rfl) ?_
  show Go l RX8 cX8_put 3 (g_rm 1 0 0) "put" none 117 0 0 _ _ 0 0 [(0, .ref 70), (1, .int (xs 3))] [] (hI (hI (hI (hI (hI (hI (hI (hI (hI (hI (hI (hI (hI (hI (hI (hI (hI (hI (hI (hI (hI (hI (hI (hI (hI (hI (hI (hI (hI (hI (hI (hI (hI (hI (hI (hI (hI (hI (hI (hI (hI (hI (hI (hI (hI (hI (hI (hI (hI (hI (hI (hI (hI (hI (hI (hI hz10 1 0 (vp_nar .byte ((((xs 1).toUInt32 >>> ((24 : Int32).toUInt32 &&& Int32.toUInt32 31)).toInt32).toInt8.toInt32))) 0 1 1) 1 1 (vp_nar .byte ((((xs 1).toUInt32 >>> ((16 : Int32).toUInt32 &&& Int32.toUInt32 31)).toInt32).toInt8.toInt32))) 0 1 2) 1 2 (vp_nar .byte ((((xs 1).toUInt32 >>> ((8 : Int32).toUInt32 &&& Int32.toUInt32 31)).toInt32).toInt8.toInt32))) 0 1 3) 1 3 (vp_nar .byte ((((xs 1).toUInt32 >>> ((0 : Int32).toUInt32 &&& Int32.toUInt32 31)).toInt32).toInt8.toInt32))) 0 1 4) 1 4 (vp_nar .byte ((((xs 2).toUInt32 >>> ((24 : Int32).toUInt32 &&& Int32.toUInt32 31)).toInt32).toInt8.toInt32))) 0 1 5) 1 5 (vp_nar .byte ((((xs 2).toUInt32 >>> ((16 : Int32).toUInt32 &&& Int32.toUInt32 31)).toInt32).toInt8.toInt32))) 0 1 6) 1 6 (vp_nar .byte ((((xs 2).toUInt32 >>> ((8 : Int32).toUInt32 &&& Int32.toUInt32 31)).toInt32).toInt8.toInt32))) 0 1 7) 1 7 (vp_nar .byte ((((xs 2).toUInt32 >>> ((0 : Int32).toUInt32 &&& Int32.toUInt32 31)).toInt32).toInt8.toInt32))) 0 1 8) 1 8 (vp_nar .byte ((((xs 3).toUInt32 >>> ((24 : Int32).toUInt32 &&& Int32.toUInt32 31)).toInt32).toInt8.toInt32))) 0 1 9) 1 9 (vp_nar .byte ((((xs 3).toUInt32 >>> ((16 : Int32).toUInt32 &&& Int32.toUInt32 31)).toInt32).toInt8.toInt32))) 0 1 10) 1 10 (vp_nar .byte ((((xs 3).toUInt32 >>> ((8 : Int32).toUInt32 &&& Int32.toUInt32 31)).toInt32).toInt8.toInt32))) 0 1 11) 1 11 (vp_nar .byte ((((xs 3).toUInt32 >>> ((0 : Int32).toUInt32 &&& Int32.toUInt32 31)).toInt32).toInt8.toInt32))) 0 1 12) 1 12 (vp_nar .byte ((((xs 4).toUInt32 >>> ((24 : Int32).toUInt32 &&& Int32.toUInt32 31)).toInt32).toInt8.toInt32))) 0 1 13) 1 13 (vp_nar .byte ((((xs 4).toUInt32 >>> ((16 : Int32).toUInt32 &&& Int32.toUInt32 31)).toInt32).toInt8.toInt32))) 0 1 14) 1 14 (vp_nar .byte ((((xs 4).toUInt32 >>> ((8 : Int32).toUInt32 &&& Int32.toUInt32 31)).toInt32).toInt8.toInt32))) 0 1 15) 1 15 (vp_nar .byte ((((xs 4).toUInt32 >>> ((0 : Int32).toUInt32 &&& Int32.toUInt32 31)).toInt32).toInt8.toInt32))) 0 1 16) 1 16 (vp_nar .byte ((((xs 5).toUInt32 >>> ((24 : Int32).toUInt32 &&& Int32.toUInt32 31)).toInt32).toInt8.toInt32))) 0 1 17) 1 17 (vp_nar .byte ((((xs 5).toUInt32 >>> ((16 : Int32).toUInt32 &&& Int32.toUInt32 31)).toInt32).toInt8.toInt32))) 0 1 18) 1 18 (vp_nar .byte ((((xs 5).toUInt32 >>> ((8 : Int32).toUInt32 &&& Int32.toUInt32 31)).toInt32).toInt8.toInt32))) 0 1 19) 1 19 (vp_nar .byte ((((xs 5).toUInt32 >>> ((0 : Int32).toUInt32 &&& Int32.toUInt32 31)).toInt32).toInt8.toInt32))) 0 1 20) 71 0 (vp_nar .byte (((xs 1) >>> (24 &&& 31)).toInt8.toInt32))) 70 2 1) 71 1 (vp_nar .byte (((xs 1) >>> (16 &&& 31)).toInt8.toInt32))) 70 2 2) 71 2 (vp_nar .byte (((xs 1) >>> (8 &&& 31)).toInt8.toInt32))) 70 2 3) 71 3 (vp_nar .byte (((xs 1) >>> (0 &&& 31)).toInt8.toInt32))) 70 2 4) 71 4 (vp_nar .byte (((xs 2) >>> (24 &&& 31)).toInt8.toInt32))) 70 2 5) 71 5 (vp_nar .byte (((xs 2) >>> (16 &&& 31)).toInt8.toInt32))) 70 2 6) 71 6 (vp_nar .byte (((xs 2) >>> (8 &&& 31)).toInt8.toInt32))) 70 2 7) 71 7 (vp_nar .byte (((xs 2) >>> (0 &&& 31)).toInt8.toInt32))) 70 2 8)
  refine go_bipush (pc := 0) (v := 24) (by decide) dX8_put_0 ?_
  refine go_istore_n (pc := 2) (Nat.le_of_ble_eq_true rfl) dX8_put_2 (go_lv (lv2 := [(0, .ref 70), (1, .int (xs 3)), (2, .int 24)]) rfl ?_)
  refine go_iload_n (pc := 3) rfl dX8_put_3 ?_
  refine go_if_lt (pc := 4) (tgt := 36) (by decide) dX8_put_4 (fun q => absurd q (by decide)) (fun _ => ?_)
  refine go_aload_n (pc := 7) rfl dX8_put_7 ?_
  refine go_getR (pc := 8) (v := .ref 71) fL_X8_7 (g_shI (g_shI (g_shI (g_shI (g_shI (g_shI (g_shI (g_shI (g_shI (g_shI (g_shI (g_shI (g_shI (g_shI (g_shI (g_shI (g_shI (g_shI (g_shI (g_shI (g_shI (g_shI (g_shI (g_shI (g_shI (g_shI (g_shI (g_shI (g_shI (g_shI (g_shI (g_shI (g_shI (g_shI (g_shI (g_shI (g_shI (g_shI (g_shI (g_shI (g_shI (g_shI (g_shI (g_shI (g_shI (g_shI (g_shI (g_shI (g_shI (g_shI (g_shI (g_shI (g_shI (g_shI (g_shI (g_shI (g_sh hpS rfl))))))))))))))))))))))))))))))))))))))))))))))))))))))))) (Nat.le_of_ble_eq_true rfl) rfl (g_rI (g_rI (g_rI (g_rI (g_rI (g_rI (g_rI (g_rI (g_rI (g_rI (g_rI (g_rI (g_rI (g_rI (g_rI (g_rI (g_rI (g_rI (g_rI (g_rI (g_rI (g_rI (g_rI (g_rI (g_rI (g_rI (g_rI (g_rI (g_rI (g_rI (g_rI (g_rI (g_rI (g_rI (g_rI (g_rI (g_rI (g_rI (g_rI (g_rI (g_rI (g_rI (g_rI (g_rI (g_rI (g_rI (g_rI (g_rI (g_rI (g_rI (g_rI (g_rI (g_rI (g_rI (g_rI (g_rI hpr_70_0)))))))))))))))))))))))))))))))))))))))))))))))))))))))) dX8_put_8 ?_
  refine go_aload_n (pc := 11) rfl dX8_put_11 ?_
  refine go_getI (pc := 12) fL_X8_151 (g_shI (g_shI (g_shI (g_shI (g_shI (g_shI (g_shI (g_shI (g_shI (g_shI (g_shI (g_shI (g_shI (g_shI (g_shI (g_shI (g_shI (g_shI (g_shI (g_shI (g_shI (g_shI (g_shI (g_shI (g_shI (g_shI (g_shI (g_shI (g_shI (g_shI (g_shI (g_shI (g_shI (g_shI (g_shI (g_shI (g_shI (g_shI (g_shI (g_shI (g_shI (g_shI (g_shI (g_shI (g_shI (g_shI (g_shI (g_shI (g_shI (g_shI (g_shI (g_shI (g_shI (g_shI (g_shI (g_shI (g_sh hpS rfl))))))))))))))))))))))))))))))))))))))))))))))))))))))))) (Nat.le_of_ble_eq_true rfl) rfl dX8_put_12 (go_topi (y := 8) g_iS ?_)
  refine go_iload_n (pc := 15) rfl dX8_put_15 ?_
  refine go_iload_n (pc := 16) rfl dX8_put_16 ?_
  refine go_ishr (pc := 17) dX8_put_17 ?_
  refine go_i2b (pc := 18) dX8_put_18 ?_
  refine go_bastj (pc := 19) (j := 8) (g_shI (g_shI (g_shI (g_shI (g_shI (g_shI (g_shI (g_shI (g_shI (g_shI (g_shI (g_shI (g_shI (g_shI (g_shI (g_shI (g_shI (g_shI (g_shI (g_shI (g_shI (g_shI (g_shI (g_shI (g_shI (g_shI (g_shI (g_shI (g_shI (g_shI (g_shI (g_shI (g_shI (g_shI (g_shI (g_shI (g_shI (g_shI (g_shI (g_shI (g_shI (g_shI (g_shI (g_shI (g_shI (g_shI (g_shI (g_shI (g_shI (g_shI (g_shI (g_shI (g_shI (g_shI (g_shI (g_shI (g_sh hpS rfl))))))))))))))))))))))))))))))))))))))))))))))))))))))))) (by decide +kernel) (by decide +kernel) dX8_put_19 ?_
  refine go_aload_n (pc := 20) rfl dX8_put_20 ?_
  refine go_dup (pc := 21) rfl dX8_put_21 ?_
  refine go_getI (pc := 22) fL_X8_151 (g_shI (g_shI (g_shI (g_shI (g_shI (g_shI (g_shI (g_shI (g_shI (g_shI (g_shI (g_shI (g_shI (g_shI (g_shI (g_shI (g_shI (g_shI (g_shI (g_shI (g_shI (g_shI (g_shI (g_shI (g_shI (g_shI (g_shI (g_shI (g_shI (g_shI (g_shI (g_shI (g_shI (g_shI (g_shI (g_shI (g_shI (g_shI (g_shI (g_shI (g_shI (g_shI (g_shI (g_shI (g_shI (g_shI (g_shI (g_shI (g_shI (g_shI (g_shI (g_shI (g_shI (g_shI (g_shI (g_shI (g_shI (g_sh hpS rfl)))))))))))))))))))))))))))))))))))))))))))))))))))))))))) (Nat.le_of_ble_eq_true rfl) rfl dX8_put_22 (go_topi (y := 8) (g_iI rfl g_iS) ?_)
  refine go_iconst (pc := 25) (v := 1) (by decide) dX8_put_25 ?_
  refine go_iadd (pc := 26) dX8_put_26 (go_topi (y := 9) (by decide) ?_)
  refine go_putI (pc := 27) (fP_X8_151 _) (g_shI (g_shI (g_shI (g_shI (g_shI (g_shI (g_shI (g_shI (g_shI (g_shI (g_shI (g_shI (g_shI (g_shI (g_shI (g_shI (g_shI (g_shI (g_shI (g_shI (g_shI (g_shI (g_shI (g_shI (g_shI (g_shI (g_shI (g_shI (g_shI (g_shI (g_shI (g_shI (g_shI (g_shI (g_shI (g_shI (g_shI (g_shI (g_shI (g_shI (g_shI (g_shI (g_shI (g_shI (g_shI (g_shI (g_shI (g_shI (g_shI (g_shI (g_shI (g_shI (g_shI (g_shI (g_shI (g_shI (g_shI (g_sh hpS rfl)))))))))))))))))))))))))))))))))))))))))))))))))))))))))) (Nat.le_of_ble_eq_true rfl) rfl (fun _ => rfl) (fun _ => rfl) dX8_put_27 ?_
  refine go_iincv (pc := 30) (y := 16) (Nat.le_of_ble_eq_true rfl) rfl (by decide) dX8_put_30 (go_lv (lv2 := [(0, .ref 70), (1, .int (xs 3)), (2, .int 16)]) rfl ?_)
  refine go_goto (pc := 33) (tgt := 3) (by decide) dX8_put_33 ?_
  refine go_iload_n (pc := 3) rfl dX8_put_3 ?_
  refine go_if_lt (pc := 4) (tgt := 36) (by decide) dX8_put_4 (fun q => absurd q (by decide)) (fun _ => ?_)
  refine go_aload_n (pc := 7) rfl dX8_put_7 ?_
  refine go_getR (pc := 8) (v := .ref 71) fL_X8_7 (g_shI (g_shI (g_shI (g_shI (g_shI (g_shI (g_shI (g_shI (g_shI (g_shI (g_shI (g_shI (g_shI (g_shI (g_shI (g_shI (g_shI (g_shI (g_shI (g_shI (g_shI (g_shI (g_shI (g_shI (g_shI (g_shI (g_shI (g_shI (g_shI (g_shI (g_shI (g_shI (g_shI (g_shI (g_shI (g_shI (g_shI (g_shI (g_shI (g_shI (g_shI (g_shI (g_shI (g_shI (g_shI (g_shI (g_shI (g_shI (g_shI (g_shI (g_shI (g_shI (g_shI (g_shI (g_shI (g_shI (g_shI (g_shI (g_sh hpS rfl))))))))))))))))))))))))))))))))))))))))))))))))))))))))))) (Nat.le_of_ble_eq_true rfl) rfl (g_rI (g_rI (g_rI (g_rI (g_rI (g_rI (g_rI (g_rI (g_rI (g_rI (g_rI (g_rI (g_rI (g_rI (g_rI (g_rI (g_rI (g_rI (g_rI (g_rI (g_rI (g_rI (g_rI (g_rI (g_rI (g_rI (g_rI (g_rI (g_rI (g_rI (g_rI (g_rI (g_rI (g_rI (g_rI (g_rI (g_rI (g_rI (g_rI (g_rI (g_rI (g_rI (g_rI (g_rI (g_rI (g_rI (g_rI (g_rI (g_rI (g_rI (g_rI (g_rI (g_rI (g_rI (g_rI (g_rI (g_rI (g_rI hpr_70_0)))))))))))))))))))))))))))))))))))))))))))))))))))))))))) dX8_put_8 ?_
  refine go_aload_n (pc := 11) rfl dX8_put_11 ?_
  refine go_getI (pc := 12) fL_X8_151 (g_shI (g_shI (g_shI (g_shI (g_shI (g_shI (g_shI (g_shI (g_shI (g_shI (g_shI (g_shI (g_shI (g_shI (g_shI (g_shI (g_shI (g_shI (g_shI (g_shI (g_shI (g_shI (g_shI (g_shI (g_shI (g_shI (g_shI (g_shI (g_shI (g_shI (g_shI (g_shI (g_shI (g_shI (g_shI (g_shI (g_shI (g_shI (g_shI (g_shI (g_shI (g_shI (g_shI (g_shI (g_shI (g_shI (g_shI (g_shI (g_shI (g_shI (g_shI (g_shI (g_shI (g_shI (g_shI (g_shI (g_shI (g_shI (g_sh hpS rfl))))))))))))))))))))))))))))))))))))))))))))))))))))))))))) (Nat.le_of_ble_eq_true rfl) rfl dX8_put_12 (go_topi (y := 9) g_iS ?_)
  refine go_iload_n (pc := 15) rfl dX8_put_15 ?_
  refine go_iload_n (pc := 16) rfl dX8_put_16 ?_
  refine go_ishr (pc := 17) dX8_put_17 ?_
  refine go_i2b (pc := 18) dX8_put_18 ?_
  refine go_bastj (pc := 19) (j := 9) (g_shI (g_shI (g_shI (g_shI (g_shI (g_shI (g_shI (g_shI (g_shI (g_shI (g_shI (g_shI (g_shI (g_shI (g_shI (g_shI (g_shI (g_shI (g_shI (g_shI (g_shI (g_shI (g_shI (g_shI (g_shI (g_shI (g_shI (g_shI (g_shI (g_shI (g_shI (g_shI (g_shI (g_shI (g_shI (g_shI (g_shI (g_shI (g_shI (g_shI (g_shI (g_shI (g_shI (g_shI (g_shI (g_shI (g_shI (g_shI (g_shI (g_shI (g_shI (g_shI (g_shI (g_shI (g_shI (g_shI (g_shI (g_shI (g_sh hpS rfl))))))))))))))))))))))))))))))))))))))))))))))))))))))))))) (by decide +kernel) (by decide +kernel) dX8_put_19 ?_
  refine go_aload_n (pc := 20) rfl dX8_put_20 ?_
  refine go_dup (pc := 21) rfl dX8_put_21 ?_
  refine go_getI (pc := 22) fL_X8_151 (g_shI (g_shI (g_shI (g_shI (g_shI (g_shI (g_shI (g_shI (g_shI (g_shI (g_shI (g_shI (g_shI (g_shI (g_shI (g_shI (g_shI (g_shI (g_shI (g_shI (g_shI (g_shI (g_shI (g_shI (g_shI (g_shI (g_shI (g_shI (g_shI (g_shI (g_shI (g_shI (g_shI (g_shI (g_shI (g_shI (g_shI (g_shI (g_shI (g_shI (g_shI (g_shI (g_shI (g_shI (g_shI (g_shI (g_shI (g_shI (g_shI (g_shI (g_shI (g_shI (g_shI (g_shI (g_shI (g_shI (g_shI (g_shI (g_shI (g_sh hpS rfl)))))))))))))))))))))))))))))))))))))))))))))))))))))))))))) (Nat.le_of_ble_eq_true rfl) rfl dX8_put_22 (go_topi (y := 9) (g_iI rfl g_iS) ?_)
  refine go_iconst (pc := 25) (v := 1) (by decide) dX8_put_25 ?_
  refine go_iadd (pc := 26) dX8_put_26 (go_topi (y := 10) (by decide) ?_)
  refine go_putI (pc := 27) (fP_X8_151 _) (g_shI (g_shI (g_shI (g_shI (g_shI (g_shI (g_shI (g_shI (g_shI (g_shI (g_shI (g_shI (g_shI (g_shI (g_shI (g_shI (g_shI (g_shI (g_shI (g_shI (g_shI (g_shI (g_shI (g_shI (g_shI (g_shI (g_shI (g_shI (g_shI (g_shI (g_shI (g_shI (g_shI (g_shI (g_shI (g_shI (g_shI (g_shI (g_shI (g_shI (g_shI (g_shI (g_shI (g_shI (g_shI (g_shI (g_shI (g_shI (g_shI (g_shI (g_shI (g_shI (g_shI (g_shI (g_shI (g_shI (g_shI (g_shI (g_shI (g_sh hpS rfl)))))))))))))))))))))))))))))))))))))))))))))))))))))))))))) (Nat.le_of_ble_eq_true rfl) rfl (fun _ => rfl) (fun _ => rfl) dX8_put_27 ?_
  refine go_iincv (pc := 30) (y := 8) (Nat.le_of_ble_eq_true rfl) rfl (by decide) dX8_put_30 (go_lv (lv2 := [(0, .ref 70), (1, .int (xs 3)), (2, .int 8)]) rfl ?_)
  refine go_goto (pc := 33) (tgt := 3) (by decide) dX8_put_33 ?_
  refine go_iload_n (pc := 3) rfl dX8_put_3 ?_
  refine go_if_lt (pc := 4) (tgt := 36) (by decide) dX8_put_4 (fun q => absurd q (by decide)) (fun _ => ?_)
  refine go_aload_n (pc := 7) rfl dX8_put_7 ?_
  refine go_getR (pc := 8) (v := .ref 71) fL_X8_7 (g_shI (g_shI (g_shI (g_shI (g_shI (g_shI (g_shI (g_shI (g_shI (g_shI (g_shI (g_shI (g_shI (g_shI (g_shI (g_shI (g_shI (g_shI (g_shI (g_shI (g_shI (g_shI (g_shI (g_shI (g_shI (g_shI (g_shI (g_shI (g_shI (g_shI (g_shI (g_shI (g_shI (g_shI (g_shI (g_shI (g_shI (g_shI (g_shI (g_shI (g_shI (g_shI (g_shI (g_shI (g_shI (g_shI (g_shI (g_shI (g_shI (g_shI (g_shI (g_shI (g_shI (g_shI (g_shI (g_shI (g_shI (g_shI (g_shI (g_shI (g_sh hpS rfl))))))))))))))))))))))))))))))))))))))))))))))))))))))))))))) (Nat.le_of_ble_eq_true rfl) rfl (g_rI (g_rI (g_rI (g_rI (g_rI (g_rI (g_rI (g_rI (g_rI (g_rI (g_rI (g_rI (g_rI (g_rI (g_rI (g_rI (g_rI (g_rI (g_rI (g_rI (g_rI (g_rI (g_rI (g_rI (g_rI (g_rI (g_rI (g_rI (g_rI (g_rI (g_rI (g_rI (g_rI (g_rI (g_rI (g_rI (g_rI (g_rI (g_rI (g_rI (g_rI (g_rI (g_rI (g_rI (g_rI (g_rI (g_rI (g_rI (g_rI (g_rI (g_rI (g_rI (g_rI (g_rI (g_rI (g_rI (g_rI (g_rI (g_rI (g_rI hpr_70_0)))))))))))))))))))))))))))))))))))))))))))))))))))))))))))) dX8_put_8 ?_
  refine go_aload_n (pc := 11) rfl dX8_put_11 ?_
  refine go_getI (pc := 12) fL_X8_151 (g_shI (g_shI (g_shI (g_shI (g_shI (g_shI (g_shI (g_shI (g_shI (g_shI (g_shI (g_shI (g_shI (g_shI (g_shI (g_shI (g_shI (g_shI (g_shI (g_shI (g_shI (g_shI (g_shI (g_shI (g_shI (g_shI (g_shI (g_shI (g_shI (g_shI (g_shI (g_shI (g_shI (g_shI (g_shI (g_shI (g_shI (g_shI (g_shI (g_shI (g_shI (g_shI (g_shI (g_shI (g_shI (g_shI (g_shI (g_shI (g_shI (g_shI (g_shI (g_shI (g_shI (g_shI (g_shI (g_shI (g_shI (g_shI (g_shI (g_shI (g_sh hpS rfl))))))))))))))))))))))))))))))))))))))))))))))))))))))))))))) (Nat.le_of_ble_eq_true rfl) rfl dX8_put_12 (go_topi (y := 10) g_iS ?_)
  refine go_iload_n (pc := 15) rfl dX8_put_15 ?_
  refine go_iload_n (pc := 16) rfl dX8_put_16 ?_
  refine go_ishr (pc := 17) dX8_put_17 ?_
  refine go_i2b (pc := 18) dX8_put_18 ?_
  refine go_bastj (pc := 19) (j := 10) (g_shI (g_shI (g_shI (g_shI (g_shI (g_shI (g_shI (g_shI (g_shI (g_shI (g_shI (g_shI (g_shI (g_shI (g_shI (g_shI (g_shI (g_shI (g_shI (g_shI (g_shI (g_shI (g_shI (g_shI (g_shI (g_shI (g_shI (g_shI (g_shI (g_shI (g_shI (g_shI (g_shI (g_shI (g_shI (g_shI (g_shI (g_shI (g_shI (g_shI (g_shI (g_shI (g_shI (g_shI (g_shI (g_shI (g_shI (g_shI (g_shI (g_shI (g_shI (g_shI (g_shI (g_shI (g_shI (g_shI (g_shI (g_shI (g_shI (g_shI (g_sh hpS rfl))))))))))))))))))))))))))))))))))))))))))))))))))))))))))))) (by decide +kernel) (by decide +kernel) dX8_put_19 ?_
  refine go_aload_n (pc := 20) rfl dX8_put_20 ?_
  refine go_dup (pc := 21) rfl dX8_put_21 ?_
  refine go_getI (pc := 22) fL_X8_151 (g_shI (g_shI (g_shI (g_shI (g_shI (g_shI (g_shI (g_shI (g_shI (g_shI (g_shI (g_shI (g_shI (g_shI (g_shI (g_shI (g_shI (g_shI (g_shI (g_shI (g_shI (g_shI (g_shI (g_shI (g_shI (g_shI (g_shI (g_shI (g_shI (g_shI (g_shI (g_shI (g_shI (g_shI (g_shI (g_shI (g_shI (g_shI (g_shI (g_shI (g_shI (g_shI (g_shI (g_shI (g_shI (g_shI (g_shI (g_shI (g_shI (g_shI (g_shI (g_shI (g_shI (g_shI (g_shI (g_shI (g_shI (g_shI (g_shI (g_shI (g_shI (g_sh hpS rfl)))))))))))))))))))))))))))))))))))))))))))))))))))))))))))))) (Nat.le_of_ble_eq_true rfl) rfl dX8_put_22 (go_topi (y := 10) (g_iI rfl g_iS) ?_)
  refine go_iconst (pc := 25) (v := 1) (by decide) dX8_put_25 ?_
  refine go_iadd (pc := 26) dX8_put_26 (go_topi (y := 11) (by decide) ?_)
  refine go_putI (pc := 27) (fP_X8_151 _) (g_shI (g_shI (g_shI (g_shI (g_shI (g_shI (g_shI (g_shI (g_shI (g_shI (g_shI (g_shI (g_shI (g_shI (g_shI (g_shI (g_shI (g_shI (g_shI (g_shI (g_shI (g_shI (g_shI (g_shI (g_shI (g_shI (g_shI (g_shI (g_shI (g_shI (g_shI (g_shI (g_shI (g_shI (g_shI (g_shI (g_shI (g_shI (g_shI (g_shI (g_shI (g_shI (g_shI (g_shI (g_shI (g_shI (g_shI (g_shI (g_shI (g_shI (g_shI (g_shI (g_shI (g_shI (g_shI (g_shI (g_shI (g_shI (g_shI (g_shI (g_shI (g_sh hpS rfl)))))))))))))))))))))))))))))))))))))))))))))))))))))))))))))) (Nat.le_of_ble_eq_true rfl) rfl (fun _ => rfl) (fun _ => rfl) dX8_put_27 ?_
  refine go_iincv (pc := 30) (y := 0) (Nat.le_of_ble_eq_true rfl) rfl (by decide) dX8_put_30 (go_lv (lv2 := [(0, .ref 70), (1, .int (xs 3)), (2, .int 0)]) rfl ?_)
  refine go_goto (pc := 33) (tgt := 3) (by decide) dX8_put_33 ?_
  refine go_iload_n (pc := 3) rfl dX8_put_3 ?_
  refine go_if_lt (pc := 4) (tgt := 36) (by decide) dX8_put_4 (fun q => absurd q (by decide)) (fun _ => ?_)
  refine go_aload_n (pc := 7) rfl dX8_put_7 ?_
  refine go_getR (pc := 8) (v := .ref 71) fL_X8_7 (g_shI (g_shI (g_shI (g_shI (g_shI (g_shI (g_shI (g_shI (g_shI (g_shI (g_shI (g_shI (g_shI (g_shI (g_shI (g_shI (g_shI (g_shI (g_shI (g_shI (g_shI (g_shI (g_shI (g_shI (g_shI (g_shI (g_shI (g_shI (g_shI (g_shI (g_shI (g_shI (g_shI (g_shI (g_shI (g_shI (g_shI (g_shI (g_shI (g_shI (g_shI (g_shI (g_shI (g_shI (g_shI (g_shI (g_shI (g_shI (g_shI (g_shI (g_shI (g_shI (g_shI (g_shI (g_shI (g_shI (g_shI (g_shI (g_shI (g_shI (g_shI (g_shI (g_sh hpS rfl))))))))))))))))))))))))))))))))))))))))))))))))))))))))))))))) (Nat.le_of_ble_eq_true rfl) rfl (g_rI (g_rI (g_rI (g_rI (g_rI (g_rI (g_rI (g_rI (g_rI (g_rI (g_rI (g_rI (g_rI (g_rI (g_rI (g_rI (g_rI (g_rI (g_rI (g_rI (g_rI (g_rI (g_rI (g_rI (g_rI (g_rI (g_rI (g_rI (g_rI (g_rI (g_rI (g_rI (g_rI (g_rI (g_rI (g_rI (g_rI (g_rI (g_rI (g_rI (g_rI (g_rI (g_rI (g_rI (g_rI (g_rI (g_rI (g_rI (g_rI (g_rI (g_rI (g_rI (g_rI (g_rI (g_rI (g_rI (g_rI (g_rI (g_rI (g_rI (g_rI (g_rI hpr_70_0)))))))))))))))))))))))))))))))))))))))))))))))))))))))))))))) dX8_put_8 ?_
  refine go_aload_n (pc := 11) rfl dX8_put_11 ?_
  refine go_getI (pc := 12) fL_X8_151 (g_shI (g_shI (g_shI (g_shI (g_shI (g_shI (g_shI (g_shI (g_shI (g_shI (g_shI (g_shI (g_shI (g_shI (g_shI (g_shI (g_shI (g_shI (g_shI (g_shI (g_shI (g_shI (g_shI (g_shI (g_shI (g_shI (g_shI (g_shI (g_shI (g_shI (g_shI (g_shI (g_shI (g_shI (g_shI (g_shI (g_shI (g_shI (g_shI (g_shI (g_shI (g_shI (g_shI (g_shI (g_shI (g_shI (g_shI (g_shI (g_shI (g_shI (g_shI (g_shI (g_shI (g_shI (g_shI (g_shI (g_shI (g_shI (g_shI (g_shI (g_shI (g_shI (g_sh hpS rfl))))))))))))))))))))))))))))))))))))))))))))))))))))))))))))))) (Nat.le_of_ble_eq_true rfl) rfl dX8_put_12 (go_topi (y := 11) g_iS ?_)
  refine go_iload_n (pc := 15) rfl dX8_put_15 ?_
  refine go_iload_n (pc := 16) rfl dX8_put_16 ?_
  refine go_ishr (pc := 17) dX8_put_17 ?_
  refine go_i2b (pc := 18) dX8_put_18 ?_
  refine go_bastj (pc := 19) (j := 11) (g_shI (g_shI (g_shI (g_shI (g_shI (g_shI (g_shI (g_shI (g_shI (g_shI (g_shI (g_shI (g_shI (g_shI (g_shI (g_shI (g_shI (g_shI (g_shI (g_shI (g_shI (g_shI (g_shI (g_shI (g_shI (g_shI (g_shI (g_shI (g_shI (g_shI (g_shI (g_shI (g_shI (g_shI (g_shI (g_shI (g_shI (g_shI (g_shI (g_shI (g_shI (g_shI (g_shI (g_shI (g_shI (g_shI (g_shI (g_shI (g_shI (g_shI (g_shI (g_shI (g_shI (g_shI (g_shI (g_shI (g_shI (g_shI (g_shI (g_shI (g_shI (g_shI (g_sh hpS rfl))))))))))))))))))))))))))))))))))))))))))))))))))))))))))))))) (by decide +kernel) (by decide +kernel) dX8_put_19 ?_
  refine go_aload_n (pc := 20) rfl dX8_put_20 ?_
  refine go_dup (pc := 21) rfl dX8_put_21 ?_
  refine go_getI (pc := 22) fL_X8_151 (g_shI (g_shI (g_shI (g_shI (g_shI (g_shI (g_shI (g_shI (g_shI (g_shI (g_shI (g_shI (g_shI (g_shI (g_shI (g_shI (g_shI (g_shI (g_shI (g_shI (g_shI (g_shI (g_shI (g_shI (g_shI (g_shI (g_shI (g_shI (g_shI (g_shI (g_shI (g_shI (g_shI (g_shI (g_shI (g_shI (g_shI (g_shI (g_shI (g_shI (g_shI (g_shI (g_shI (g_shI (g_shI (g_shI (g_shI (g_shI (g_shI (g_shI (g_shI (g_shI (g_shI (g_shI (g_shI (g_shI (g_shI (g_shI (g_shI (g_shI (g_shI (g_shI (g_shI (g_sh hpS rfl)))))))))))))))))))))))))))))))))))))))))))))))))))))))))))))))) (Nat.le_of_ble_eq_true rfl) rfl dX8_put_22 (go_topi (y := 11) (g_iI rfl g_iS) ?_)
  refine go_iconst (pc := 25) (v := 1) (by decide) dX8_put_25 ?_
  refine go_iadd (pc := 26) dX8_put_26 (go_topi (y := 12) (by decide) ?_)
  refine go_putI (pc := 27) (fP_X8_151 _) (g_shI (g_shI (g_shI (g_shI (g_shI (g_shI (g_shI (g_shI (g_shI (g_shI (g_shI (g_shI (g_shI (g_shI (g_shI (g_shI (g_shI (g_shI (g_shI (g_shI (g_shI (g_shI (g_shI (g_shI (g_shI (g_shI (g_shI (g_shI (g_shI (g_shI (g_shI (g_shI (g_shI (g_shI (g_shI (g_shI (g_shI (g_shI (g_shI (g_shI (g_shI (g_shI (g_shI (g_shI (g_shI (g_shI (g_shI (g_shI (g_shI (g_shI (g_shI (g_shI (g_shI (g_shI (g_shI (g_shI (g_shI (g_shI (g_shI (g_shI (g_shI (g_shI (g_shI (g_sh hpS rfl)))))))))))))))))))))))))))))))))))))))))))))))))))))))))))))))) (Nat.le_of_ble_eq_true rfl) rfl (fun _ => rfl) (fun _ => rfl) dX8_put_27 ?_
  refine go_iincv (pc := 30) (y := (-8)) (Nat.le_of_ble_eq_true rfl) rfl (by decide) dX8_put_30 (go_lv (lv2 := [(0, .ref 70), (1, .int (xs 3)), (2, .int (-8))]) rfl ?_)
  refine go_goto (pc := 33) (tgt := 3) (by decide) dX8_put_33 ?_
  refine go_iload_n (pc := 3) rfl dX8_put_3 ?_
  refine go_if_lt (pc := 4) (tgt := 36) (by decide) dX8_put_4 (fun _ => ?_) (fun q => absurd q (by decide))
  exact go_vret (pc := 36) (⟨rfl, rfl⟩) (g_lnI (g_lnI (g_lnI (g_lnI (g_lnI (g_lnI (g_lnI (g_lnI (g_lnI (g_lnI (g_lnI (g_lnI (g_lnI (g_lnI (g_lnI (g_lnI (g_lnI (g_lnI (g_lnI (g_lnI (g_lnI (g_lnI (g_lnI (g_lnI (g_lnI (g_lnI (g_lnI (g_lnI (g_lnI (g_lnI (g_lnI (g_lnI (g_lnI (g_lnI (g_lnI (g_lnI (g_lnI (g_lnI (g_lnI (g_lnI (g_lnI (g_lnI (g_lnI (g_lnI (g_lnI (g_lnI (g_lnI (g_lnI (g_lnI (g_lnI (g_lnI (g_lnI (g_lnI (g_lnI (g_lnI (g_lnI (g_lnI (g_lnI (g_lnI (g_lnI (g_lnI (g_lnI (g_lnI (g_lnI hpN)))))))))))))))))))))))))))))))))))))))))))))))))))))))))))))))) (Nat.le_of_ble_eq_true rfl) dX8_put_36
set_option maxHeartbeats 4000000 in
set_option maxRecDepth 100000 in
theorem k20_X8_put (l : Launch) (xs : Nat → Int32) : Mt l yX8_put cX8_put 3 none 1 [.ref 70, .int (xs 4)] (hI (hI (hI (hI (hI (hI (hI (hI (hI (hI (hI (hI (hI (hI (hI (hI (hI (hI (hI (hI (hI (hI (hI (hI (hI (hI (hI (hI (hI (hI (hI (hI (hI (hI (hI (hI (hI (hI (hI (hI (hI (hI (hI (hI (hI (hI (hI (hI (hI (hI (hI (hI (hI (hI (hI (hI (hI (hI (hI (hI (hI (hI (hI (hI hz10 1 0 (vp_nar .byte ((((xs 1).toUInt32 >>> ((24 : Int32).toUInt32 &&& Int32.toUInt32 31)).toInt32).toInt8.toInt32))) 0 1 1) 1 1 (vp_nar .byte ((((xs 1).toUInt32 >>> ((16 : Int32).toUInt32 &&& Int32.toUInt32 31)).toInt32).toInt8.toInt32))) 0 1 2) 1 2 (vp_nar .byte ((((xs 1).toUInt32 >>> ((8 : Int32).toUInt32 &&& Int32.toUInt32 31)).toInt32).toInt8.toInt32))) 0 1 3) 1 3 (vp_nar .byte ((((xs 1).toUInt32 >>> ((0 : Int32).toUInt32 &&& Int32.toUInt32 31)).toInt32).toInt8.toInt32))) 0 1 4) 1 4 (vp_nar .byte ((((xs 2).toUInt32 >>> ((24 : Int32).toUInt32 &&& Int32.toUInt32 31)).toInt32).toInt8.toInt32))) 0 1 5) 1 5 (vp_nar .byte ((((xs 2).toUInt32 >>> ((16 : Int32).toUInt32 &&& Int32.toUInt32 31)).toInt32).toInt8.toInt32))) 0 1 6) 1 6 (vp_nar .byte ((((xs 2).toUInt32 >>> ((8 : Int32).toUInt32 &&& Int32.toUInt32 31)).toInt32).toInt8.toInt32))) 0 1 7) 1 7 (vp_nar .byte ((((xs 2).toUInt32 >>> ((0 : Int32).toUInt32 &&& Int32.toUInt32 31)).toInt32).toInt8.toInt32))) 0 1 8) 1 8 (vp_nar .byte ((((xs 3).toUInt32 >>> ((24 : Int32).toUInt32 &&& Int32.toUInt32 31)).toInt32).toInt8.toInt32))) 0 1 9) 1 9 (vp_nar .byte ((((xs 3).toUInt32 >>> ((16 : Int32).toUInt32 &&& Int32.toUInt32 31)).toInt32).toInt8.toInt32))) 0 1 10) 1 10 (vp_nar .byte ((((xs 3).toUInt32 >>> ((8 : Int32).toUInt32 &&& Int32.toUInt32 31)).toInt32).toInt8.toInt32))) 0 1 11) 1 11 (vp_nar .byte ((((xs 3).toUInt32 >>> ((0 : Int32).toUInt32 &&& Int32.toUInt32 31)).toInt32).toInt8.toInt32))) 0 1 12) 1 12 (vp_nar .byte ((((xs 4).toUInt32 >>> ((24 : Int32).toUInt32 &&& Int32.toUInt32 31)).toInt32).toInt8.toInt32))) 0 1 13) 1 13 (vp_nar .byte ((((xs 4).toUInt32 >>> ((16 : Int32).toUInt32 &&& Int32.toUInt32 31)).toInt32).toInt8.toInt32))) 0 1 14) 1 14 (vp_nar .byte ((((xs 4).toUInt32 >>> ((8 : Int32).toUInt32 &&& Int32.toUInt32 31)).toInt32).toInt8.toInt32))) 0 1 15) 1 15 (vp_nar .byte ((((xs 4).toUInt32 >>> ((0 : Int32).toUInt32 &&& Int32.toUInt32 31)).toInt32).toInt8.toInt32))) 0 1 16) 1 16 (vp_nar .byte ((((xs 5).toUInt32 >>> ((24 : Int32).toUInt32 &&& Int32.toUInt32 31)).toInt32).toInt8.toInt32))) 0 1 17) 1 17 (vp_nar .byte ((((xs 5).toUInt32 >>> ((16 : Int32).toUInt32 &&& Int32.toUInt32 31)).toInt32).toInt8.toInt32))) 0 1 18) 1 18 (vp_nar .byte ((((xs 5).toUInt32 >>> ((8 : Int32).toUInt32 &&& Int32.toUInt32 31)).toInt32).toInt8.toInt32))) 0 1 19) 1 19 (vp_nar .byte ((((xs 5).toUInt32 >>> ((0 : Int32).toUInt32 &&& Int32.toUInt32 31)).toInt32).toInt8.toInt32))) 0 1 20) 71 0 (vp_nar .byte (((xs 1) >>> (24 &&& 31)).toInt8.toInt32))) 70 2 1) 71 1 (vp_nar .byte (((xs 1) >>> (16 &&& 31)).toInt8.toInt32))) 70 2 2) 71 2 (vp_nar .byte (((xs 1) >>> (8 &&& 31)).toInt8.toInt32))) 70 2 3) 71 3 (vp_nar .byte (((xs 1) >>> (0 &&& 31)).toInt8.toInt32))) 70 2 4) 71 4 (vp_nar .byte (((xs 2) >>> (24 &&& 31)).toInt8.toInt32))) 70 2 5) 71 5 (vp_nar .byte (((xs 2) >>> (16 &&& 31)).toInt8.toInt32))) 70 2 6) 71 6 (vp_nar .byte (((xs 2) >>> (8 &&& 31)).toInt8.toInt32))) 70 2 7) 71 7 (vp_nar .byte (((xs 2) >>> (0 &&& 31)).toInt8.toInt32))) 70 2 8) 71 8 (vp_nar .byte (((xs 3) >>> (24 &&& 31)).toInt8.toInt32))) 70 2 9) 71 9 (vp_nar .byte (((xs 3) >>> (16 &&& 31)).toInt8.toInt32))) 70 2 10) 71 10 (vp_nar .byte (((xs 3) >>> (8 &&& 31)).toInt8.toInt32))) 70 2 11) 71 11 (vp_nar .byte (((xs 3) >>> (0 &&& 31)).toInt8.toInt32))) 70 2 12) 0 0 (fun r h' => r = none ∧ h' = hI (hI (hI (hI (hI (hI (hI (hI (hI (hI (hI (hI (hI (hI (hI (hI (hI (hI (hI (hI (hI (hI (hI (hI (hI (hI (hI (hI (hI (hI (hI (hI (hI (hI (hI (hI (hI (hI (hI (hI (hI (hI (hI (hI (hI (hI (hI (hI (hI (hI (hI (hI (hI (hI (hI (hI (hI (hI (hI (hI (hI (hI (hI (hI (hI (hI (hI (hI (hI (hI (hI (hI hz10 1 0 (vp_nar .byte ((((xs 1).toUInt32 >>> ((24 : Int32).toUInt32 &&& Int32.toUInt32 31)).toInt32).toInt8.toInt32))) 0 1 1) 1 1 (vp_nar .byte ((((xs 1).toUInt32 >>> ((16 : Int32).toUInt32 &&& Int32.toUInt32 31)).toInt32).toInt8.toInt32))) 0 1 2) 1 2 (vp_nar .byte ((((xs 1).toUInt32 >>> ((8 : Int32).toUInt32 &&& Int32.toUInt32 31)).toInt32).toInt8.toInt32))) 0 1 3) 1 3 (vp_nar .byte ((((xs 1).toUInt32 >>> ((0 : Int32).toUInt32 &&& Int32.toUInt32 31)).toInt32).toInt8.toInt32))) 0 1 4) 1 4 (vp_nar .byte ((((xs 2).toUInt32 >>> ((24 : Int32).toUInt32 &&& Int32.toUInt32 31)).toInt32).toInt8.toInt32))) 0 1 5) 1 5 (vp_nar .byte ((((xs 2).toUInt32 >>> ((16 : Int32).toUInt32 &&& Int32.toUInt32 31)).toInt32).toInt8.toInt32))) 0 1 6) 1 6 (vp_nar .byte ((((xs 2).toUInt32 >>> ((8 : Int32).toUInt32 &&& Int32.toUInt32 31)).toInt32).toInt8.toInt32))) 0 1 7) 1 7 (vp_nar .byte ((((xs 2).toUInt32 >>> ((0 : Int32).toUInt32 &&& Int32.toUInt32 31)).toInt32).toInt8.toInt32))) 0 1 8) 1 8 (vp_nar .byte ((((xs 3).toUInt32 >>> ((24 : Int32).toUInt32 &&& Int32.toUInt32 31)).toInt32).toInt8.toInt32))) 0 1 9) 1 9 (vp_nar .byte ((((xs 3).toUInt32 >>> ((16 : Int32).toUInt32 &&& Int32.toUInt32 31)).toInt32).toInt8.toInt32))) 0 1 10) 1 10 (vp_nar .byte ((((xs 3).toUInt32 >>> ((8 : Int32).toUInt32 &&& Int32.toUInt32 31)).toInt32).toInt8.toInt32))) 0 1 11) 1 11 (vp_nar .byte ((((xs 3).toUInt32 >>> ((0 : Int32).toUInt32 &&& Int32.toUInt32 31)).toInt32).toInt8.toInt32))) 0 1 12) 1 12 (vp_nar .byte ((((xs 4).toUInt32 >>> ((24 : Int32).toUInt32 &&& Int32.toUInt32 31)).toInt32).toInt8.toInt32))) 0 1 13) 1 13 (vp_nar .byte ((((xs 4).toUInt32 >>> ((16 : Int32).toUInt32 &&& Int32.toUInt32 31)).toInt32).toInt8.toInt32))) 0 1 14) 1 14 (vp_nar .byte ((((xs 4).toUInt32 >>> ((8 : Int32).toUInt32 &&& Int32.toUInt32 31)).toInt32).toInt8.toInt32))) 0 1 15) 1 15 (vp_nar .byte ((((xs 4).toUInt32 >>> ((0 : Int32).toUInt32 &&& Int32.toUInt32 31)).toInt32).toInt8.toInt32))) 0 1 16) 1 16 (vp_nar .byte ((((xs 5).toUInt32 >>> ((24 : Int32).toUInt32 &&& Int32.toUInt32 31)).toInt32).toInt8.toInt32))) 0 1 17) 1 17 (vp_nar .byte ((((xs 5).toUInt32 >>> ((16 : Int32).toUInt32 &&& Int32.toUInt32 31)).toInt32).toInt8.toInt32))) 0 1 18) 1 18 (vp_nar .byte ((((xs 5).toUInt32 >>> ((8 : Int32).toUInt32 &&& Int32.toUInt32 31)).toInt32).toInt8.toInt32))) 0 1 19) 1 19 (vp_nar .byte ((((xs 5).toUInt32 >>> ((0 : Int32).toUInt32 &&& Int32.toUInt32 31)).toInt32).toInt8.toInt32))) 0 1 20) 71 0 (vp_nar .byte (((xs 1) >>> (24 &&& 31)).toInt8.toInt32))) 70 2 1) 71 1 (vp_nar .byte (((xs 1) >>> (16 &&& 31)).toInt8.toInt32))) 70 2 2) 71 2 (vp_nar .byte (((xs 1) >>> (8 &&& 31)).toInt8.toInt32))) 70 2 3) 71 3 (vp_nar .byte (((xs 1) >>> (0 &&& 31)).toInt8.toInt32))) 70 2 4) 71 4 (vp_nar .byte (((xs 2) >>> (24 &&& 31)).toInt8.toInt32))) 70 2 5) 71 5 (vp_nar .byte (((xs 2) >>> (16 &&& 31)).toInt8.toInt32))) 70 2 6) 71 6 (vp_nar .byte (((xs 2) >>> (8 &&& 31)).toInt8.toInt32))) 70 2 7) 71 7 (vp_nar .byte (((xs 2) >>> (0 &&& 31)).toInt8.toInt32))) 70 2 8) 71 8 (vp_nar .byte (((xs 3) >>> (24 &&& 31)).toInt8.toInt32))) 70 2 9) 71 9 (vp_nar .byte (((xs 3) >>> (16 &&& 31)).toInt8.toInt32))) 70 2 10) 71 10 (vp_nar .byte (((xs 3) >>> (8 &&& 31)).toInt8.toInt32))) 70 2 11) 71 11 (vp_nar .byte (((xs 3) >>> (0 &&& 31)).toInt8.toInt32))) 70 2 12) 71 12 (vp_nar .byte (((xs 4) >>> (24 &&& 31)).toInt8.toInt32))) 70 2 13) 71 13 (vp_nar .byte (((xs 4) >>> (16 &&& 31)).toInt8.toInt32))) 70 2 14) 71 14 (vp_nar .byte (((xs 4) >>> (8 &&& 31)).toInt8.toInt32))) 70 2 15) 71 15 (vp_nar .byte (((xs 4) >>> (0 &&& 31)).toInt8.toInt32))) 70 2 16) := by
  refine Mt_ofn 117 (g_lnI (g_lnI (g_lnI (g_lnI (g_lnI (g_lnI (g_lnI (g_lnI (g_lnI (g_lnI (g_lnI (g_lnI (g_lnI (g_lnI (g_lnI (g_lnI (g_lnI (g_lnI (g_lnI (g_lnI (g_lnI (g_lnI (g_lnI (g_lnI (g_lnI (g_lnI (g_lnI (g_lnI (g_lnI (g_lnI (g_lnI (g_lnI (g_lnI (g_lnI (g_lnI (g_lnI (g_lnI (g_lnI (g_lnI (g_lnI (g_lnI (g_lnI (g_lnI (g_lnI (g_lnI (g_lnI (g_lnI (g_lnI (g_lnI (g_lnI (g_lnI (g_lnI (g_lnI (g_lnI (g_lnI (g_lnI (g_lnI (g_lnI (g_lnI (g_lnI (g_lnI (g_lnI (g_lnI (g_lnI hpN)))))))))))))))))))))))))))))))))))))))))))))))))))))))))))))))) (by decide) (Nat.le_of_ble_eq_true rfl) ?_
  show Go l RX8 cX8_put 3 (g_rm 1 0 0) "put" none 117 0 0 _ _ 0 0 [(0, .ref 70), (1, .int (xs 4))] [] (hI (hI (hI (hI (hI (hI (hI (hI (hI (hI (hI (hI (hI (hI (hI (hI (hI (hI (hI (hI (hI (hI (hI (hI (hI (hI (hI (hI (hI (hI (hI (hI (hI (hI (hI (hI (hI (hI (hI (hI (hI (hI (hI (hI (hI (hI (hI (hI (hI (hI (hI (hI (hI (hI (hI (hI (hI (hI (hI (hI (hI (hI (hI (hI hz10 1 0 (vp_nar .byte ((((xs 1).toUInt32 >>> ((24 : Int32).toUInt32 &&& Int32.toUInt32 31)).toInt32).toInt8.toInt32))) 0 1 1) 1 1 (vp_nar .byte ((((xs 1).toUInt32 >>> ((16 : Int32).toUInt32 &&& Int32.toUInt32 31)).toInt32).toInt8.toInt32))) 0 1 2) 1 2 (vp_nar .byte ((((xs 1).toUInt32 >>> ((8 : Int32).toUInt32 &&& Int32.toUInt32 31)).toInt32).toInt8.toInt32))) 0 1 3) 1 3 (vp_nar .byte ((((xs 1).toUInt32 >>> ((0 : Int32).toUInt32 &&& Int32.toUInt32 31)).toInt32).toInt8.toInt32))) 0 1 4) 1 4 (vp_nar .byte ((((xs 2).toUInt32 >>> ((24 : Int32).toUInt32 &&& Int32.toUInt32 31)).toInt32).toInt8.toInt32))) 0 1 5) 1 5 (vp_nar .byte ((((xs 2).toUInt32 >>> ((16 : Int32).toUInt32 &&& Int32.toUInt32 31)).toInt32).toInt8.toInt32))) 0 1 6) 1 6 (vp_nar .byte ((((xs 2).toUInt32 >>> ((8 : Int32).toUInt32 &&& Int32.toUInt32 31)).toInt32).toInt8.toInt32))) 0 1 7) 1 7 (vp_nar .byte ((((xs 2).toUInt32 >>> ((0 : Int32).toUInt32 &&& Int32.toUInt32 31)).toInt32).toInt8.toInt32))) 0 1 8) 1 8 (vp_nar .byte ((((xs 3).toUInt32 >>> ((24 : Int32).toUInt32 &&& Int32.toUInt32 31)).toInt32).toInt8.toInt32))) 0 1 9) 1 9 (vp_nar .byte ((((xs 3).toUInt32 >>> ((16 : Int32).toUInt32 &&& Int32.toUInt32 31)).toInt32).toInt8.toInt32))) 0 1 10) 1 10 (vp_nar .byte ((((xs 3).toUInt32 >>> ((8 : Int32).toUInt32 &&& Int32.toUInt32 31)).toInt32).toInt8.toInt32))) 0 1 11) 1 11 (vp_nar .byte ((((xs 3).toUInt32 >>> ((0 : Int32).toUInt32 &&& Int32.toUInt32 31)).toInt32).toInt8.toInt32))) 0 1 12) 1 12 (vp_nar .byte ((((xs 4).toUInt32 >>> ((24 : Int32).toUInt32 &&& Int32.toUInt32 31)).toInt32).toInt8.toInt32))) 0 1 13) 1 13 (vp_nar .byte ((((xs 4).toUInt32 >>> ((16 : Int32).toUInt32 &&& Int32.toUInt32 31)).toInt32).toInt8.toInt32))) 0 1 14) 1 14 (vp_nar .byte ((((xs 4).toUInt32 >>> ((8 : Int32).toUInt32 &&& Int32.toUInt32 31)).toInt32).toInt8.toInt32))) 0 1 15) 1 15 (vp_nar .byte ((((xs 4).toUInt32 >>> ((0 : Int32).toUInt32 &&& Int32.toUInt32 31)).toInt32).toInt8.toInt32))) 0 1 16) 1 16 (vp_nar .byte ((((xs 5).toUInt32 >>> ((24 : Int32).toUInt32 &&& Int32.toUInt32 31)).toInt32).toInt8.toInt32))) 0 1 17) 1 17 (vp_nar .byte ((((xs 5).toUInt32 >>> ((16 : Int32).toUInt32 &&& Int32.toUInt32 31)).toInt32).toInt8.toInt32))) 0 1 18) 1 18 (vp_nar .byte ((((xs 5).toUInt32 >>> ((8 : Int32).toUInt32 &&& Int32.toUInt32 31)).toInt32).toInt8.toInt32))) 0 1 19) 1 19 (vp_nar .byte ((((xs 5).toUInt32 >>> ((0 : Int32).toUInt32 &&& Int32.toUInt32 31)).toInt32).toInt8.toInt32))) 0 1 20) 71 0 (vp_nar .byte (((xs 1) >>> (24 &&& 31)).toInt8.toInt32))) 70 2 1) 71 1 (vp_nar .byte (((xs 1) >>> (16 &&& 31)).toInt8.toInt32))) 70 2 2) 71 2 (vp_nar .byte (((xs 1) >>> (8 &&& 31)).toInt8.toInt32))) 70 2 3) 71 3 (vp_nar .byte (((xs 1) >>> (0 &&& 31)).toInt8.toInt32))) 70 2 4) 71 4 (vp_nar .byte (((xs 2) >>> (24 &&& 31)).toInt8.toInt32))) 70 2 5) 71 5 (vp_nar .byte (((xs 2) >>> (16 &&& 31)).toInt8.toInt32))) 70 2 6) 71 6 (vp_nar .byte (((xs 2) >>> (8 &&& 31)).toInt8.toInt32))) 70 2 7) 71 7 (vp_nar .byte (((xs 2) >>> (0 &&& 31)).toInt8.toInt32))) 70 2 8) 71 8 (vp_nar .byte (((xs 3) >>> (24 &&& 31)).toInt8.toInt32))) 70 2 9) 71 9 (vp_nar .byte (((xs 3) >>> (16 &&& 31)).toInt8.toInt32))) 70 2 10) 71 10 (vp_nar .byte (((xs 3) >>> (8 &&& 31)).toInt8.toInt32))) 70 2 11) 71 11 (vp_nar .byte (((xs 3) >>> (0 &&& 31)).toInt8.toInt32))) 70 2 12)
  refine go_bipush (pc := 0) (v := 24) (by decide) dX8_put_0 ?_
  refine go_istore_n (pc := 2) (Nat.le_of_ble_eq_true rfl) dX8_put_2 (go_lv (lv2 := [(0, .ref 70), (1, .int (xs 4)), (2, .int 24)]) rfl ?_)
  refine go_iload_n (pc := 3) rfl dX8_put_3 ?_
  refine go_if_lt (pc := 4) (tgt := 36) (by decide) dX8_put_4 (fun q => absurd q (by decide)) (fun _ => ?_)
  refine go_aload_n (pc := 7) rfl dX8_put_7 ?_
  refine go_getR (pc := 8) (v := .ref 71) fL_X8_7 (g_shI (g_shI (g_shI (g_shI (g_shI (g_shI (g_shI (g_shI (g_shI (g_shI (g_shI (g_shI (g_shI (g_shI (g_shI (g_shI (g_shI (g_shI (g_shI (g_shI (g_shI (g_shI (g_shI (g_shI (g_shI (g_shI (g_shI (g_shI (g_shI (g_shI (g_shI (g_shI (g_shI (g_shI (g_shI (g_shI (g_shI (g_shI (g_shI (g_shI (g_shI (g_shI (g_shI (g_shI (g_shI (g_shI (g_shI (g_shI (g_shI (g_shI (g_shI (g_shI (g_shI (g_shI (g_shI (g_shI (g_shI (g_shI (g_shI (g_shI (g_shI (g_shI (g_shI (g_shI (g_sh hpS rfl))))))))))))))))))))))))))))))))))))))))))))))))))))))))))))))))) (Nat.le_of_ble_eq_true rfl) rfl (g_rI (g_rI (g_rI (g_rI (g_rI (g_rI (g_rI (g_rI (g_rI (g_rI (g_rI (g_rI (g_rI (g_rI (g_rI (g_rI (g_rI (g_rI (g_rI (g_rI (g_rI (g_rI (g_rI (g_rI (g_rI (g_rI (g_rI (g_rI (g_rI (g_rI (g_rI (g_rI (g_rI (g_rI (g_rI (g_rI (g_rI (g_rI (g_rI (g_rI (g_rI (g_rI (g_rI (g_rI (g_rI (g_rI (g_rI (g_rI (g_rI (g_rI (g_rI (g_rI (g_rI (g_rI (g_rI (g_rI (g_rI (g_rI (g_rI (g_rI (g_rI (g_rI (g_rI (g_rI hpr_70_0)))))))))))))))))))))))))))))))))))))))))))))))))))))))))))))))) dX8_put_8 ?_
  refine go_aload_n (pc := 11) rfl dX8_put_11 ?_
  refine go_getI (pc := 12) fL_X8_151 (g_shI (g_shI (g_shI (g_shI (g_shI (g_shI (g_shI (g_shI (g_shI (g_shI (g_shI (g_shI (g_shI (g_shI (g_shI (g_shI (g_shI (g_shI (g_shI (g_shI (g_shI (g_shI (g_shI (g_shI (g_shI (g_shI (g_shI (g_shI (g_shI (g_shI (g_shI (g_shI (g_shI (g_shI (g_shI (g_shI (g_shI (g_shI (g_shI (g_shI (g_shI (g_shI (g_shI (g_shI (g_shI (g_shI (g_shI (g_shI (g_shI (g_shI (g_shI (g_shI (g_shI (g_shI (g_shI (g_shI (g_shI (g_shI (g_shI (g_shI (g_shI (g_shI (g_shI (g_shI (g_sh hpS rfl))))))))))))))))))))))))))))))))))))))))))))))))))))))))))))))))) (Nat.le_of_ble_eq_true rfl) rfl dX8_put_12 (go_topi (y := 12) g_iS ?_)
  refine go_iload_n (pc := 15) rfl dX8_put_15 ?_
  refine go_iload_n (pc := 16) rfl dX8_put_16 ?_
  refine go_ishr (pc := 17) dX8_put_17 ?_
  refine go_i2b (pc := 18) dX8_put_18 ?_
  refine go_bastj (pc := 19) (j := 12) (g_shI (g_shI (g_shI (g_shI (g_shI (g_shI (g_shI (g_shI (g_shI (g_shI (g_shI (g_shI (g_shI (g_shI (g_shI (g_shI (g_shI (g_shI (g_shI (g_shI (g_shI (g_shI (g_shI (g_shI (g_shI (g_shI (g_shI (g_shI (g_shI (g_shI (g_shI (g_shI (g_shI (g_shI (g_shI (g_shI (g_shI (g_shI (g_shI (g_shI (g_shI (g_shI (g_shI (g_shI (g_shI (g_shI (g_shI (g_shI (g_shI (g_shI (g_shI (g_shI (g_shI (g_shI (g_shI (g_shI (g_shI (g_shI (g_shI (g_shI (g_shI (g_shI (g_shI (g_shI (g_sh hpS rfl))))))))))))))))))))))))))))))))))))))))))))))))))))))))))))))))) (by decide +kernel) (by decide +kernel) dX8_put_19 ?_
  refine go_aload_n (pc := 20) rfl dX8_put_20 ?_
  refine go_dup (pc := 21) rfl dX8_put_21 ?_
  refine go_getI (pc := 22) fL_X8_151 (g_shI (g_shI (g_shI (g_shI (g_shI (g_shI (g_shI (g_shI (g_shI (g_shI (g_shI (g_shI (g_shI (g_shI (g_shI (g_shI (g_shI (g_shI (g_shI (g_shI (g_shI (g_shI (g_shI (g_shI (g_shI (g_shI (g_shI (g_shI (g_shI (g_shI (g_shI (g_shI (g_shI (g_shI (g_shI (g_shI (g_shI (g_shI (g_shI (g_shI (g_shI (g_shI (g_shI (g_shI (g_shI (g_shI (g_shI (g_shI (g_shI (g_shI (g_shI (g_shI (g_shI (g_shI (g_shI (g_shI (g_shI (g_shI (g_shI (g_shI (g_shI (g_shI (g_shI (g_shI (g_shI (g_sh hpS rfl)))))))))))))))))))))))))))))))))))))))))))))))))))))))))))))))))) (Nat.le_of_ble_eq_true rfl) rfl dX8_put_22 (go_topi (y := 12) (g_iI rfl g_iS) ?_)
  refine go_iconst (pc := 25) (v := 1) (by decide) dX8_put_25 ?_
  refine go_iadd (pc := 26) dX8_put_26 (go_topi (y := 13) (by decide) ?_)
  refine go_putI (pc := 27) (fP_X8_151 _) (g_shI (g_shI (g_shI (g_shI (g_shI (g_shI (g_shI (g_shI (g_shI (g_shI (g_shI (g_shI (g_shI (g_shI (g_shI (g_shI (g_shI (g_shI (g_shI (g_shI (g_shI (g_shI (g_shI (g_shI (g_shI (g_shI (g_shI (g_shI (g_shI (g_shI (g_shI (g_shI (g_shI (g_shI (g_shI (g_shI (g_shI (g_shI (g_shI (g_shI (g_shI (g_shI (g_shI (g_shI (g_shI (g_shI (g_shI (g_shI (g_shI (g_shI (g_shI (g_shI (g_shI (g_shI (g_shI (g_shI (g_shI (g_shI (g_shI (g_shI (g_shI (g_shI (g_shI (g_shI (g_shI (g_sh hpS rfl)))))))))))))))))))))))))))))))))))))))))))))))))))))))))))))))))) (Nat.le_of_ble_eq_true rfl) rfl (fun _ => rfl) (fun _ => rfl) dX8_put_27 ?_
  refine go_iincv (pc := 30) (y := 16) (Nat.le_of_ble_eq_true rfl) rfl (by decide) dX8_put_30 (go_lv (lv2 := [(0, .ref 70), (1, .int (xs 4)), (2, .int 16)]) rfl ?_)
  refine go_goto (pc := 33) (tgt := 3) (by decide) dX8_put_33 ?_
  refine go_iload_n (pc := 3) rfl dX8_put_3 ?_
  refine go_if_lt (pc := 4) (tgt := 36) (by decide) dX8_put_4 (fun q => absurd q (by decide)) (fun _ => ?_)
  refine go_aload_n (pc := 7) rfl dX8_put_7 ?_
  refine go_getR (pc := 8) (v := .ref 71) fL_X8_7 (g_shI (g_shI (g_shI (g_shI (g_shI (g_shI (g_shI (g_shI (g_shI (g_shI (g_shI (g_shI (g_shI (g_shI (g_shI (g_shI (g_shI (g_shI (g_shI (g_shI (g_shI (g_shI (g_shI (g_shI (g_shI (g_shI (g_shI (g_shI (g_shI (g_shI (g_shI (g_shI (g_shI (g_shI (g_shI (g_shI (g_shI (g_shI (g_shI (g_shI (g_shI (g_shI (g_shI (g_shI (g_shI (g_shI (g_shI (g_shI (g_shI (g_shI (g_shI (g_shI (g_shI (g_shI (g_shI (g_shI (g_shI (g_shI (g_shI (g_shI (g_shI (g_shI (g_shI (g_shI (g_shI (g_shI (g_sh hpS rfl))))))))))))))))))))))))))))))))))))))))))))))))))))))))))))))))))) (Nat.le_of_ble_eq_true rfl) rfl (g_rI (g_rI (g_rI (g_rI (g_rI (g_rI (g_rI (g_rI (g_rI (g_rI (g_rI (g_rI (g_rI (g_rI (g_rI (g_rI (g_rI (g_rI (g_rI (g_rI (g_rI (g_rI (g_rI (g_rI (g_rI (g_rI (g_rI (g_rI (g_rI (g_rI (g_rI (g_rI (g_rI (g_rI (g_rI (g_rI (g_rI (g_rI (g_rI (g_rI (g_rI (g_rI (g_rI (g_rI (g_rI (g_rI (g_rI (g_rI (g_rI (g_rI (g_rI (g_rI (g_rI (g_rI (g_rI (g_rI (g_rI (g_rI (g_rI (g_rI (g_rI (g_rI (g_rI (g_rI (g_rI (g_rI hpr_70_0)))))))))))))))))))))))))))))))))))))))))))))))))))))))))))))))))) dX8_put_8 ?_
  refine go_aload_n (pc := 11) rfl dX8_put_11 ?_
  refine go_getI (pc := 12) fL_X8_151 (g_shI (g_shI (g_shI (g_shI (g_shI (g_shI (g_shI (g_shI (g_shI (g_shI (g_shI (g_shI (g_shI (g_shI (g_shI (g_shI (g_shI (g_shI (g_shI (g_shI (g_shI (g_shI (g_shI (g_shI (g_shI (g_shI (g_shI (g_shI (g_shI (g_shI (g_shI (g_shI (g_shI (g_shI (g_shI (g_shI (g_shI (g_shI (g_shI (g_shI (g_shI (g_shI (g_shI (g_shI (g_shI (g_shI (g_shI (g_shI (g_shI (g_shI (g_shI (g_shI (g_shI (g_shI (g_shI (g_shI (g_shI (g_shI (g_shI (g_shI (g_shI (g_shI (g_shI (g_shI (g_shI (g_shI (g_sh hpS rfl))))))))))))))))))))))))))))))))))))))))))))))))))))))))))))))))))) (Nat.le_of_ble_eq_true rfl) rfl dX8_put_12 (go_topi (y := 13) g_iS ?_)
  refine go_iload_n (pc := 15) rfl dX8_put_15 ?_
  refine go_iload_n (pc := 16) rfl dX8_put_16 ?_
  refine go_ishr (pc := 17) dX8_put_17 ?_
  refine go_i2b (pc := 18) dX8_put_18 ?_
  refine go_bastj (pc := 19) (j := 13) (g_shI (g_shI (g_shI (g_shI (g_shI (g_shI (g_shI (g_shI (g_shI (g_shI (g_shI (g_shI (g_shI (g_shI (g_shI (g_shI (g_shI (g_shI (g_shI (g_shI (g_shI (g_shI (g_shI (g_shI (g_shI (g_shI (g_shI (g_shI (g_shI (g_shI (g_shI (g_shI (g_shI (g_shI (g_shI (g_shI (g_shI (g_shI (g_shI (g_shI (g_shI (g_shI (g_shI (g_shI (g_shI (g_shI (g_shI (g_shI (g_shI (g_shI (g_shI (g_shI (g_shI (g_shI (g_shI (g_shI (g_shI (g_shI (g_shI (g_shI (g_shI (g_shI (g_shI (g_shI (g_shI (g_shI (g_sh hpS rfl))))))))))))))))))))))))))))))))))))))))))))))))))))))))))))))))))) (by decide +kernel) (by decide +kernel) dX8_put_19 ?_
  refine go_aload_n (pc := 20) rfl dX8_put_20 ?_
  refine go_dup (pc := 21) rfl dX8_put_21 ?_
  refine go_getI (pc := 22) fL_X8_151 (g_shI (g_shI (g_shI (g_shI (g_shI (g_shI (g_shI (g_shI (g_shI (g_shI (g_shI (g_shI (g_shI (g_shI (g_shI (g_shI (g_shI (g_shI (g_shI (g_shI (g_shI (g_shI (g_shI (g_shI (g_shI (g_shI (g_shI (g_shI (g_shI (g_shI (g_shI (g_shI (g_shI (g_shI (g_shI (g_shI (g_shI (g_shI (g_shI (g_shI (g_shI (g_shI (g_shI (g_shI (g_shI (g_shI (g_shI (g_shI (g_shI (g_shI (g_shI (g_shI (g_shI (g_shI (g_shI (g_shI (g_shI (g_shI (g_shI (g_shI (g_shI (g_shI (g_shI (g_shI (g_shI (g_shI (g_shI (g_sh hpS rfl)))))))))))))))))))))))))))))))))))))))))))))))))))))))))))))))))))) (Nat.le_of_ble_eq_true rfl) rfl dX8_put_22 (go_topi (y := 13) (g_iI rfl g_iS) ?_)
  refine go_iconst (pc := 25) (v := 1) (by decide) dX8_put_25 ?_
  refine go_iadd (pc := 26) dX8_put_26 (go_topi (y := 14) (by decide) ?_)
  refine go_putI (pc := 27) (fP_X8_151 _) (g_shI (g_shI (g_shI (g_shI (g_shI (g_shI (g_shI (g_shI (g_shI (g_shI (g_shI (g_shI (g_shI (g_shI (g_shI (g_shI (g_shI (g_shI (g_shI (g_shI (g_shI (g_shI (g_shI (g_shI (g_shI (g_shI (g_shI (g_shI (g_shI (g_shI (g_shI (g_shI (g_shI (g_shI (g_shI (g_shI (g_shI (g_shI (g_shI (g_shI (g_shI (g_shI (g_shI (g_shI (g_shI (g_shI (g_shI (g_shI (g_shI (g_shI (g_shI (g_shI (g_shI (g_shI (g_shI (g_shI (g_shI (g_shI (g_shI (g_shI (g_shI (g_shI (g_shI (g_shI (g_shI (g_shI (g_shI (g_sh hpS rfl)))))))))))))))))))))))))))))))))))))))))))))))))))))))))))))))))))) (Nat.le_of_ble_eq_true rfl) rfl (fun _ => rfl) (fun _ => rfl) dX8_put_27 ?_
  refine go_iincv (pc := 30) (y := 8) (Nat.le_of_ble_eq_true rfl) rfl (by decide) dX8_put_30 (go_lv (lv2 := [(0, .ref 70), (1, .int (xs 4)), (2, .int 8)]) rfl ?_)
  refine go_goto (pc := 33) (tgt := 3) (by decide) dX8_put_33 ?_
  refine go_iload_n (pc := 3) rfl dX8_put_3 ?_
  refine go_if_lt (pc := 4) (tgt := 36) (by decide) dX8_put_4 (fun q => absurd q (by decide)) (fun _ => ?_)
  refine go_aload_n (pc := 7) rfl dX8_put_7 ?_
  refine go_getR (pc := 8) (v := .ref 71) fL_X8_7 (g_shI (g_shI (g_shI (g_shI (g_shI (g_shI (g_shI (g_shI (g_shI (g_shI (g_shI (g_shI (g_shI (g_shI (g_shI (g_shI (g_shI (g_shI (g_shI (g_shI (g_shI (g_shI (g_shI (g_shI (g_shI (g_shI (g_shI (g_shI (g_shI (g_shI (g_shI (g_shI (g_shI (g_shI (g_shI (g_shI (g_shI (g_shI (g_shI (g_shI (g_shI (g_shI (g_shI (g_shI (g_shI (g_shI (g_shI (g_shI (g_shI (g_shI (g_shI (g_shI (g_shI (g_shI (g_shI (g_shI (g_shI (g_shI (g_shI (g_shI (g_shI (g_shI (g_shI (g_shI (g_shI (g_shI (g_shI (g_shI (g_sh hpS rfl))))))))))))))))))))))))))))))))))))))))))))))))))))))))))))))))))))) (Nat.le_of_ble_eq_true rfl) rfl (g_rI (g_rI (g_rI (g_rI (g_rI (g_rI (g_rI (g_rI (g_rI (g_rI (g_rI (g_rI (g_rI (g_rI (g_rI (g_rI (g_rI (g_rI (g_rI (g_rI (g_rI (g_rI (g_rI (g_rI (g_rI (g_rI (g_rI (g_rI (g_rI (g_rI (g_rI (g_rI (g_rI (g_rI (g_rI (g_rI (g_rI (g_rI (g_rI (g_rI (g_rI (g_rI (g_rI (g_rI (g_rI (g_rI (g_rI (g_rI (g_rI (g_rI (g_rI (g_rI (g_rI (g_rI (g_rI (g_rI (g_rI (g_rI (g_rI (g_rI (g_rI (g_rI (g_rI (g_rI (g_rI (g_rI (g_rI (g_rI hpr_70_0)))))))))))))))))))))))))))))))))))))))))))))))))))))))))))))))))))) dX8_put_8 ?_
  refine go_aload_n (pc := 11) rfl dX8_put_11 ?_
  refine go_getI (pc := 12) fL_X8_151 (g_shI (g_shI (g_shI (g_shI (g_shI (g_shI (g_shI (g_shI (g_shI (g_shI (g_shI (g_shI (g_shI (g_shI (g_shI (g_shI (g_shI (g_shI (g_shI (g_shI (g_shI (g_shI (g_shI (g_shI (g_shI (g_shI (g_shI (g_shI (g_shI (g_shI (g_shI (g_shI (g_shI (g_shI (g_shI (g_shI (g_shI (g_shI (g_shI (g_shI (g_shI (g_shI (g_shI (g_shI (g_shI (g_shI (g_shI (g_shI (g_shI (g_shI (g_shI (g_shI (g_shI (g_shI (g_shI (g_shI (g_shI (g_shI (g_shI (g_shI (g_shI (g_shI (g_shI (g_shI (g_shI (g_shI (g_shI (g_shI (g_sh hpS rfl))))))))))))))))))))))))))))))))))))))))))))))))))))))))))))))))))))) (Nat.le_of_ble_eq_true rfl) rfl dX8_put_12 (go_topi (y := 14) g_iS ?_)
  refine go_iload_n (pc := 15) rfl dX8_put_15 ?_
  refine go_iload_n (pc := 16) rfl dX8_put_16 ?_
  refine go_ishr (pc := 17) dX8_put_17 ?_
  refine go_i2b (pc := 18) dX8_put_18 ?_
  refine go_bastj (pc := 19) (j := 14) (g_shI (g_shI (g_shI (g_shI (g_shI (g_shI (g_shI (g_shI (g_shI (g_shI (g_shI (g_shI (g_shI (g_shI (g_shI (g_shI (g_shI (g_shI (g_shI (g_shI (g_shI (g_shI (g_shI (g_shI (g_shI (g_shI (g_shI (g_shI (g_shI (g_shI (g_shI (g_shI (g_shI (g_shI (g_shI (g_shI (g_shI (g_shI (g_shI (g_shI (g_shI (g_shI (g_shI (g_shI (g_shI (g_shI (g_shI (g_shI (g_shI (g_shI (g_shI (g_shI (g_shI (g_shI (g_shI (g_shI (g_shI (g_shI (g_shI (g_shI (g_shI (g_shI (g_shI (g_shI (g_shI (g_shI (g_shI (g_shI (g_sh hpS rfl))))))))))))))))))))))))))))))))))))))))))))))))))))))))))))))))))))) (by decide +kernel) (by decide +kernel) dX8_put_19 ?_
  refine go_aload_n (pc := 20) rfl dX8_put_20 ?_
  refine go_dup (pc := 21) rfl dX8_put_21 ?_
  refine go_getI (pc := 22) fL_X8_151 (g_shI (g_shI (g_shI (g_shI (g_shI (g_shI (g_shI (g_shI (g_shI (g_shI (g_shI (g_shI (g_shI (g_shI (g_shI (g_shI (g_shI (g_shI (g_shI (g_shI (g_shI (g_shI (g_shI (g_shI (g_shI (g_shI (g_shI (g_shI (g_shI (g_shI (g_shI (g_shI (g_shI (g_shI (g_shI (g_shI (g_shI (g_shI (g_shI (g_shI (g_shI (g_shI (g_shI (g_shI (g_shI (g_shI (g_shI (g_shI (g_shI (g_shI (g_shI (g_shI (g_shI (g_shI (g_shI (g_shI (g_shI (g_shI (g_shI (g_shI (g_shI (g_shI (g_shI (g_shI (g_shI (g_shI (g_shI (g_shI (g_shI (g_sh hpS rfl)))))))))))))))))))))))))))))))))))))))))))))))))))))))))))))))))))))) (Nat.le_of_ble_eq_true rfl) rfl dX8_put_22 (go_topi (y := 14) (g_iI rfl g_iS) ?_)
  refine go_iconst (pc := 25) (v := 1) (by decide) dX8_put_25 ?_
  refine go_iadd (pc := 26) dX8_put_26 (go_topi (y := 15) (by decide) ?_)
  refine go_putI (pc := 27) (fP_X8_151 _) (g_shI (g_shI (g_shI (g_shI (g_shI (g_shI (g_shI (g_shI (g_shI (g_shI (g_shI (g_shI (g_shI (g_shI (g_shI (g_shI (g_shI (g_shI (g_shI (g_shI (g_shI (g_shI (g_shI (g_shI (g_shI (g_shI (g_shI (g_shI (g_shI (g_shI (g_shI (g_shI (g_shI (g_shI (g_shI (g_shI (g_shI (g_shI (g_shI (g_shI (g_shI (g_shI (g_shI (g_shI (g_shI (g_shI (g_shI (g_shI (g_shI (g_shI (g_shI (g_shI (g_shI (g_shI (g_shI (g_shI (g_shI (g_shI (g_shI (g_shI (g_shI (g_shI (g_shI (g_shI (g_shI (g_shI (g_shI (g_shI (g_shI (g_sh hpS rfl)))))))))))))))))))))))))))))))))))))))))))))))))))))))))))))))))))))) (Nat.le_of_ble_eq_true rfl) rfl (fun _ => rfl) (fun _ => rfl) dX8_put_27 ?_
  refine go_iincv (pc := 30) (y := 0) (Nat.le_of_ble_eq_true rfl) rfl (by decide) dX8_put_30 (go_lv (lv2 := [(0, .ref 70), (1, .int (xs 4)), (2, .int 0)]) rfl ?_)
  refine go_goto (pc := 33) (tgt := 3) (by decide) dX8_put_33 ?_
  refine go_iload_n (pc := 3) rfl dX8_put_3 ?_
  refine go_if_lt (pc := 4) (tgt := 36) (by decide) dX8_put_4 (fun q => absurd q (by decide)) (fun _ => ?_)
  refine go_aload_n (pc := 7) rfl dX8_put_7 ?_
  refine go_getR (pc := 8) (v := .ref 71) fL_X8_7 (g_shI (g_shI (g_shI (g_shI (g_shI (g_shI (g_shI (g_shI (g_shI (g_shI (g_shI (g_shI (g_shI (g_shI (g_shI (g_shI (g_shI (g_shI (g_shI (g_shI (g_shI (g_shI (g_shI (g_shI (g_shI (g_shI (g_shI (g_shI (g_shI (g_shI (g_shI (g_shI (g_shI (g_shI (g_shI (g_shI (g_shI (g_shI (g_shI (g_shI (g_shI (g_shI (g_shI (g_shI (g_shI (g_shI (g_shI (g_shI (g_shI (g_shI (g_shI (g_shI (g_shI (g_shI (g_shI (g_shI (g_shI (g_shI (g_shI (g_shI (g_shI (g_shI (g_shI (g_shI (g_shI (g_shI (g_shI (g_shI (g_shI (g_shI (g_sh hpS rfl))))))))))))))))))))))))))))))))))))))))))))))))))))))))))))))))))))))) (Nat.le_of_ble_eq_true rfl) rfl (g_rI (g_rI (g_rI (g_rI (g_rI (g_rI (g_rI (g_rI (g_rI (g_rI (g_rI (g_rI (g_rI (g_rI (g_rI (g_rI (g_rI (g_rI (g_rI (g_rI (g_rI (g_rI (g_rI (g_rI (g_rI (g_rI (g_rI (g_rI (g_rI (g_rI (g_rI (g_rI (g_rI (g_rI (g_rI (g_rI (g_rI (g_rI (g_rI (g_rI (g_rI (g_rI (g_rI (g_rI (g_rI (g_rI (g_rI (g_rI (g_rI (g_rI (g_rI (g_rI (g_rI (g_rI (g_rI (g_rI (g_rI (g_rI (g_rI (g_rI (g_rI (g_rI (g_rI (g_rI (g_rI (g_rI (g_rI (g_rI (g_rI (g_rI hpr_70_0)))))))))))))))))))))))))))))))))))))))))))))))))))))))))))))))))))))) dX8_put_8 ?_
  refine go_aload_n (pc := 11) rfl dX8_put_11 ?_
  refine go_getI (pc := 12) fL_X8_151 (g_shI (g_shI (g_shI (g_shI (g_shI (g_shI (g_shI (g_shI (g_shI (g_shI (g_shI (g_shI (g_shI (g_shI (g_shI (g_shI (g_shI (g_shI (g_shI (g_shI (g_shI (g_shI (g_shI (g_shI (g_shI (g_shI (g_shI (g_shI (g_shI (g_shI (g_shI (g_shI (g_shI (g_shI (g_shI (g_shI (g_shI (g_shI (g_shI (g_shI (g_shI (g_shI (g_shI (g_shI (g_shI (g_shI (g_shI (g_shI (g_shI (g_shI (g_shI (g_shI (g_shI (g_shI (g_shI (g_shI (g_shI (g_shI (g_shI (g_shI (g_shI (g_shI (g_shI (g_shI (g_shI (g_shI (g_shI (g_shI (g_shI (g_shI (g_sh hpS rfl))))))))))))))))))))))))))))))))))))))))))))))))))))))))))))))))))))))) (Nat.le_of_ble_eq_true rfl) rfl dX8_put_12 (go_topi (y := 15) g_iS ?_)
  refine go_iload_n (pc := 15) rfl dX8_put_15 ?_
  refine go_iload_n (pc := 16) rfl dX8_put_16 ?_
  refine go_ishr (pc := 17) dX8_put_17 ?_
  refine go_i2b (pc := 18) dX8_put_18 ?_
  refine go_bastj (pc := 19) (j := 15) (g_shI (g_shI (g_shI (g_shI (g_shI (g_shI (g_shI (g_shI (g_shI (g_shI (g_shI (g_shI (g_shI (g_shI (g_shI (g_shI (g_shI (g_shI (g_shI (g_shI (g_shI (g_shI (g_shI (g_shI (g_shI (g_shI (g_shI (g_shI (g_shI (g_shI (g_shI (g_shI (g_shI (g_shI (g_shI (g_shI (g_shI (g_shI (g_shI (g_shI (g_shI (g_shI (g_shI (g_shI (g_shI (g_shI (g_shI (g_shI (g_shI (g_shI (g_shI (g_shI (g_shI (g_shI (g_shI (g_shI (g_shI (g_shI (g_shI (g_shI (g_shI (g_shI (g_shI (g_shI (g_shI (g_shI (g_shI (g_shI (g_shI (g_shI (g_sh hpS rfl))))))))))))))))))))))))))))))))))))))))))))))))))))))))))))))))))))))) (by decide +kernel) (by decide +kernel) dX8_put_19 ?_
  refine go_aload_n (pc := 20) rfl dX8_put_20 ?_
  refine go_dup (pc := 21) rfl dX8_put_21 ?_
  refine go_getI (pc := 22) fL_X8_151 (g_shI (g_shI (g_shI (g_shI (g_shI (g_shI (g_shI (g_shI (g_shI (g_shI (g_shI (g_shI (g_shI (g_shI (g_shI (g_shI (g_shI (g_shI (g_shI (g_shI (g_shI (g_shI (g_shI (g_shI (g_shI (g_shI (g_shI (g_shI (g_shI (g_shI (g_shI (g_shI (g_shI (g_shI (g_shI (g_shI (g_shI (g_shI (g_shI (g_shI (g_shI (g_shI (g_shI (g_shI (g_shI (g_shI (g_shI (g_shI (g_shI (g_shI (g_shI (g_shI (g_shI (g_shI (g_shI (g_shI (g_shI (g_shI (g_shI (g_shI (g_shI (g_shI (g_shI (g_shI (g_shI (g_shI (g_shI (g_shI (g_shI (g_shI (g_shI (g_sh hpS rfl)))))))))))))))))))))))))))))))))))))))))))))))))))))))))))))))))))))))) (Nat.le_of_ble_eq_true rfl) rfl dX8_put_22 (go_topi (y := 15) (g_iI rfl g_iS) ?_)
  refine go_iconst (pc := 25) (v := 1) (by decide) dX8_put_25 ?_
  refine go_iadd (pc := 26) dX8_put_26 (go_topi (y := 16) (by decide) ?_)
  refine go_putI (pc := 27) (fP_X8_151 _) (g_shI (g_shI (g_shI (g_shI (g_shI (g_shI (g_shI (g_shI (g_shI (g_shI (g_shI (g_shI (g_shI (g_shI (g_shI (g_shI (g_shI (g_shI (g_shI (g_shI (g_shI (g_shI (g_shI (g_shI (g_shI (g_shI (g_shI (g_shI (g_shI (g_shI (g_shI (g_shI (g_shI (g_shI (g_shI (g_shI (g_shI (g_shI (g_shI (g_shI (g_shI (g_shI (g_shI (g_shI (g_shI (g_shI (g_shI (g_shI (g_shI (g_shI (g_shI (g_shI (g_shI (g_shI (g_shI (g_shI (g_shI (g_shI (g_shI (g_shI (g_shI (g_shI (g_shI (g_shI (g_shI (g_shI (g_shI (g_shI (g_shI (g_shI (g_shI (g_sh hpS rfl)))))))))))))))))))))))))))))))))))))))))))))))))))))))))))))))))))))))) (Nat.le_of_ble_eq_true rfl) rfl (fun _ => rfl) (fun _ => rfl) dX8_put_27 ?_
  refine go_iincv (pc := 30) (y := (-8)) (Nat.le_of_ble_eq_true rfl) rfl (by decide) dX8_put_30 (go_lv (lv2 := [(0, .ref 70), (1, .int (xs 4)), (2, .int (-8))]) rfl ?_)
  refine go_goto (pc := 33) (tgt := 3) (by decide) dX8_put_33 ?_
  refine go_iload_n (pc := 3) rfl dX8_put_3 ?_
  refine go_if_lt (pc := 4) (tgt := 36) (by decide) dX8_put_4 (fun _ => ?_) (fun q => absurd q (by decide))
  exact go_vret (pc := 36) (⟨rfl, rfl⟩) (g_lnI (g_lnI (g_lnI (g_lnI (g_lnI (g_lnI (g_lnI (g_lnI (g_lnI (g_lnI (g_lnI (g_lnI (g_lnI (g_lnI (g_lnI (g_lnI (g_lnI (g_lnI (g_lnI (g_lnI (g_lnI (g_lnI (g_lnI (g_lnI (g_lnI (g_lnI (g_lnI (g_lnI (g_lnI (g_lnI (g_lnI (g_lnI (g_lnI (g_lnI (g_lnI (g_lnI (g_lnI (g_lnI (g_lnI (g_lnI (g_lnI (g_lnI (g_lnI (g_lnI (g_lnI (g_lnI (g_lnI (g_lnI (g_lnI (g_lnI (g_lnI (g_lnI (g_lnI (g_lnI (g_lnI (g_lnI (g_lnI (g_lnI (g_lnI (g_lnI (g_lnI (g_lnI (g_lnI (g_lnI (g_lnI (g_lnI (g_lnI (g_lnI (g_lnI (g_lnI (g_lnI (g_lnI hpN)))))))))))))))))))))))))))))))))))))))))))))))))))))))))))))))))))))))) (Nat.le_of_ble_eq_true rfl) dX8_put_36
set_option maxHeartbeats 4000000 in
set_option maxRecDepth 100000 in
theorem k21_X8_put (l : Launch) (xs : Nat → Int32) : Mt l yX8_put cX8_put 3 none 1 [.ref 70, .int (xs 5)] (hI (hI (hI (hI (hI (hI (hI (hI (hI (hI (hI (hI (hI (hI (hI (hI (hI (hI (hI (hI (hI (hI (hI (hI (hI (hI (hI (hI (hI (hI (hI (hI (hI (hI (hI (hI (hI (hI (hI (hI (hI (hI (hI (hI (hI (hI (hI (hI (hI (hI (hI (hI (hI (hI (hI (hI (hI (hI (hI (hI (hI (hI (hI (hI (hI (hI (hI (hI (hI (hI (hI (hI hz10 1 0 (vp_nar .byte ((((xs 1).toUInt32 >>> ((24 : Int32).toUInt32 &&& Int32.toUInt32 31)).toInt32).toInt8.toInt32))) 0 1 1) 1 1 (vp_nar .byte ((((xs 1).toUInt32 >>> ((16 : Int32).toUInt32 &&& Int32.toUInt32 31)).toInt32).toInt8.toInt32))) 0 1 2) 1 2 (vp_nar .byte ((((xs 1).toUInt32 >>> ((8 : Int32).toUInt32 &&& Int32.toUInt32 31)).toInt32).toInt8.toInt32))) 0 1 3) 1 3 (vp_nar .byte ((((xs 1).toUInt32 >>> ((0 : Int32).toUInt32 &&& Int32.toUInt32 31)).toInt32).toInt8.toInt32))) 0 1 4) 1 4 (vp_nar .byte ((((xs 2).toUInt32 >>> ((24 : Int32).toUInt32 &&& Int32.toUInt32 31)).toInt32).toInt8.toInt32))) 0 1 5) 1 5 (vp_nar .byte ((((xs 2).toUInt32 >>> ((16 : Int32).toUInt32 &&& Int32.toUInt32 31)).toInt32).toInt8.toInt32))) 0 1 6) 1 6 (vp_nar .byte ((((xs 2).toUInt32 >>> ((8 : Int32).toUInt32 &&& Int32.toUInt32 31)).toInt32).toInt8.toInt32))) 0 1 7) 1 7 (vp_nar .byte ((((xs 2).toUInt32 >>> ((0 : Int32).toUInt32 &&& Int32.toUInt32 31)).toInt32).toInt8.toInt32))) 0 1 8) 1 8 (vp_nar .byte ((((xs 3).toUInt32 >>> ((24 : Int32).toUInt32 &&& Int32.toUInt32 31)).toInt32).toInt8.toInt32))) 0 1 9) 1 9 (vp_nar .byte ((((xs 3).toUInt32 >>> ((16 : Int32).toUInt32 &&& Int32.toUInt32 31)).toInt32).toInt8.toInt32))) 0 1 10) 1 10 (vp_nar .byte ((((xs 3).toUInt32 >>> ((8 : Int32).toUInt32 &&& Int32.toUInt32 31)).toInt32).toInt8.toInt32))) 0 1 11) 1 11 (vp_nar .byte ((((xs 3).toUInt32 >>> ((0 : Int32).toUInt32 &&& Int32.toUInt32 31)).toInt32).toInt8.toInt32))) 0 1 12) 1 12 (vp_nar .byte ((((xs 4).toUInt32 >>> ((24 : Int32).toUInt32 &&& Int32.toUInt32 31)).toInt32).toInt8.toInt32))) 0 1 13) 1 13 (vp_nar .byte ((((xs 4).toUInt32 >>> ((16 : Int32).toUInt32 &&& Int32.toUInt32 31)).toInt32).toInt8.toInt32))) 0 1 14) 1 14 (vp_nar .byte ((((xs 4).toUInt32 >>> ((8 : Int32).toUInt32 &&& Int32.toUInt32 31)).toInt32).toInt8.toInt32))) 0 1 15) 1 15 (vp_nar .byte ((((xs 4).toUInt32 >>> ((0 : Int32).toUInt32 &&& Int32.toUInt32 31)).toInt32).toInt8.toInt32))) 0 1 16) 1 16 (vp_nar .byte ((((xs 5).toUInt32 >>> ((24 : Int32).toUInt32 &&& Int32.toUInt32 31)).toInt32).toInt8.toInt32))) 0 1 17) 1 17 (vp_nar .byte ((((xs 5).toUInt32 >>> ((16 : Int32).toUInt32 &&& Int32.toUInt32 31)).toInt32).toInt8.toInt32))) 0 1 18) 1 18 (vp_nar .byte ((((xs 5).toUInt32 >>> ((8 : Int32).toUInt32 &&& Int32.toUInt32 31)).toInt32).toInt8.toInt32))) 0 1 19) 1 19 (vp_nar .byte ((((xs 5).toUInt32 >>> ((0 : Int32).toUInt32 &&& Int32.toUInt32 31)).toInt32).toInt8.toInt32))) 0 1 20) 71 0 (vp_nar .byte (((xs 1) >>> (24 &&& 31)).toInt8.toInt32))) 70 2 1) 71 1 (vp_nar .byte (((xs 1) >>> (16 &&& 31)).toInt8.toInt32))) 70 2 2) 71 2 (vp_nar .byte (((xs 1) >>> (8 &&& 31)).toInt8.toInt32))) 70 2 3) 71 3 (vp_nar .byte (((xs 1) >>> (0 &&& 31)).toInt8.toInt32))) 70 2 4) 71 4 (vp_nar .byte (((xs 2) >>> (24 &&& 31)).toInt8.toInt32))) 70 2 5) 71 5 (vp_nar .byte (((xs 2) >>> (16 &&& 31)).toInt8.toInt32))) 70 2 6) 71 6 (vp_nar .byte (((xs 2) >>> (8 &&& 31)).toInt8.toInt32))) 70 2 7) 71 7 (vp_nar .byte (((xs 2) >>> (0 &&& 31)).toInt8.toInt32))) 70 2 8) 71 8 (vp_nar .byte (((xs 3) >>> (24 &&& 31)).toInt8.toInt32))) 70 2 9) 71 9 (vp_nar .byte (((xs 3) >>> (16 &&& 31)).toInt8.toInt32))) 70 2 10) 71 10 (vp_nar .byte (((xs 3) >>> (8 &&& 31)).toInt8.toInt32))) 70 2 11) 71 11 (vp_nar .byte (((xs 3) >>> (0 &&& 31)).toInt8.toInt32))) 70 2 12) 71 12 (vp_nar .byte (((xs 4) >>> (24 &&& 31)).toInt8.toInt32))) 70 2 13) 71 13 (vp_nar .byte (((xs 4) >>> (16 &&& 31)).toInt8.toInt32))) 70 2 14) 71 14 (vp_nar .byte (((xs 4) >>> (8 &&& 31)).toInt8.toInt32))) 70 2 15) 71 15 (vp_nar .byte (((xs 4) >>> (0 &&& 31)).toInt8.toInt32))) 70 2 16) 0 0 (fun r h' => r = none ∧ h' = hI (hI (hI (hI (hI (hI (hI (hI (hI (hI (hI (hI (hI (hI (hI (hI (hI (hI (hI (hI (hI (hI (hI (hI (hI (hI (hI (hI (hI (hI (hI (hI (hI (hI (hI (hI (hI (hI (hI (hI (hI (hI (hI (hI (hI (hI (hI (hI (hI (hI (hI (hI (hI (hI (hI (hI (hI (hI (hI (hI (hI (hI (hI (hI (hI (hI (hI (hI (hI (hI (hI (hI (hI (hI (hI (hI (hI (hI (hI (hI hz10 1 0 (vp_nar .byte ((((xs 1).toUInt32 >>> ((24 : Int32).toUInt32 &&& Int32.toUInt32 31)).toInt32).toInt8.toInt32))) 0 1 1) 1 1 (vp_nar .byte ((((xs 1).toUInt32 >>> ((16 : Int32).toUInt32 &&& Int32.toUInt32 31)).toInt32).toInt8.toInt32))) 0 1 2) 1 2 (vp_nar .byte ((((xs 1).toUInt32 >>> ((8 : Int32).toUInt32 &&& Int32.toUInt32 31)).toInt32).toInt8.toInt32))) 0 1 3) 1 3 (vp_nar .byte ((((xs 1).toUInt32 >>> ((0 : Int32).toUInt32 &&& Int32.toUInt32 31)).toInt32).toInt8.toInt32))) 0 1 4) 1 4 (vp_nar .byte ((((xs 2).toUInt32 >>> ((24 : Int32).toUInt32 &&& Int32.toUInt32 31)).toInt32).toInt8.toInt32))) 0 1 5) 1 5 (vp_nar .byte ((((xs 2).toUInt32 >>> ((16 : Int32).toUInt32 &&& Int32.toUInt32 31)).toInt32).toInt8.toInt32))) 0 1 6) 1 6 (vp_nar .byte ((((xs 2).toUInt32 >>> ((8 : Int32).toUInt32 &&& Int32.toUInt32 31)).toInt32).toInt8.toInt32))) 0 1 7) 1 7 (vp_nar .byte ((((xs 2).toUInt32 >>> ((0 : Int32).toUInt32 &&& Int32.toUInt32 31)).toInt32).toInt8.toInt32))) 0 1 8) 1 8 (vp_nar .byte ((((xs 3).toUInt32 >>> ((24 : Int32).toUInt32 &&& Int32.toUInt32 31)).toInt32).toInt8.toInt32))) 0 1 9) 1 9 (vp_nar .byte ((((xs 3).toUInt32 >>> ((16 : Int32).toUInt32 &&& Int32.toUInt32 31)).toInt32).toInt8.toInt32))) 0 1 10) 1 10 (vp_nar .byte ((((xs 3).toUInt32 >>> ((8 : Int32).toUInt32 &&& Int32.toUInt32 31)).toInt32).toInt8.toInt32))) 0 1 11) 1 11 (vp_nar .byte ((((xs 3).toUInt32 >>> ((0 : Int32).toUInt32 &&& Int32.toUInt32 31)).toInt32).toInt8.toInt32))) 0 1 12) 1 12 (vp_nar .byte ((((xs 4).toUInt32 >>> ((24 : Int32).toUInt32 &&& Int32.toUInt32 31)).toInt32).toInt8.toInt32))) 0 1 13) 1 13 (vp_nar .byte ((((xs 4).toUInt32 >>> ((16 : Int32).toUInt32 &&& Int32.toUInt32 31)).toInt32).toInt8.toInt32))) 0 1 14) 1 14 (vp_nar .byte ((((xs 4).toUInt32 >>> ((8 : Int32).toUInt32 &&& Int32.toUInt32 31)).toInt32).toInt8.toInt32))) 0 1 15) 1 15 (vp_nar .byte ((((xs 4).toUInt32 >>> ((0 : Int32).toUInt32 &&& Int32.toUInt32 31)).toInt32).toInt8.toInt32))) 0 1 16) 1 16 (vp_nar .byte ((((xs 5).toUInt32 >>> ((24 : Int32).toUInt32 &&& Int32.toUInt32 31)).toInt32).toInt8.toInt32))) 0 1 17) 1 17 (vp_nar .byte ((((xs 5).toUInt32 >>> ((16 : Int32).toUInt32 &&& Int32.toUInt32 31)).toInt32).toInt8.toInt32))) 0 1 18) 1 18 (vp_nar .byte ((((xs 5).toUInt32 >>> ((8 : Int32).toUInt32 &&& Int32.toUInt32 31)).toInt32).toInt8.toInt32))) 0 1 19) 1 19 (vp_nar .byte ((((xs 5).toUInt32 >>> ((0 : Int32).toUInt32 &&& Int32.toUInt32 31)).toInt32).toInt8.toInt32))) 0 1 20) 71 0 (vp_nar .byte (((xs 1) >>> (24 &&& 31)).toInt8.toInt32))) 70 2 1) 71 1 (vp_nar .byte (((xs 1) >>> (16 &&& 31)).toInt8.toInt32))) 70 2 2) 71 2 (vp_nar .byte (((xs 1) >>> (8 &&& 31)).toInt8.toInt32))) 70 2 3) 71 3 (vp_nar .byte (((xs 1) >>> (0 &&& 31)).toInt8.toInt32))) 70 2 4) 71 4 (vp_nar .byte (((xs 2) >>> (24 &&& 31)).toInt8.toInt32))) 70 2 5) 71 5 (vp_nar .byte (((xs 2) >>> (16 &&& 31)).toInt8.toInt32))) 70 2 6) 71 6 (vp_nar .byte (((xs 2) >>> (8 &&& 31)).toInt8.toInt32))) 70 2 7) 71 7 (vp_nar .byte (((xs 2) >>> (0 &&& 31)).toInt8.toInt32))) 70 2 8) 71 8 (vp_nar .byte (((xs 3) >>> (24 &&& 31)).toInt8.toInt32))) 70 2 9) 71 9 (vp_nar .byte (((xs 3) >>> (16 &&& 31)).toInt8.toInt32))) 70 2 10) 71 10 (vp_nar .byte (((xs 3) >>> (8 &&& 31)).toInt8.toInt32))) 70 2 11) 71 11 (vp_nar .byte (((xs 3) >>> (0 &&& 31)).toInt8.toInt32))) 70 2 12) 71 12 (vp_nar .byte (((xs 4) >>> (24 &&& 31)).toInt8.toInt32))) 70 2 13) 71 13 (vp_nar .byte (((xs 4) >>> (16 &&& 31)).toInt8.toInt32))) 70 2 14) 71 14 (vp_nar .byte (((xs 4) >>> (8 &&& 31)).toInt8.toInt32))) 70 2 15) 71 15 (vp_nar .byte (((xs 4) >>> (0 &&& 31)).toInt8.toInt32))) 70 2 16) 71 16 (vp_nar .byte (((xs 5) >>> (24 &&& 31)).toInt8.toInt32))) 70 2 17) 71 17 (vp_nar .byte (((xs 5) >>> (16 &&& 31)).toInt8.toInt32))) 70 2 18) 71 18 (vp_nar .byte (((xs 5) >>> (8 &&& 31)).toInt8.toInt32))) 70 2 19) 71 19 (vp_nar .byte (((xs 5) >>> (0 &&& 31)).toInt8.toInt32))) 70 2 20) := by
  refine Mt_ofn 117 (g_lnI (g_lnI (g_lnI (g_lnI (g_lnI (g_lnI (g_lnI (g_lnI (g_lnI (g_lnI (g_lnI (g_lnI (g_lnI (g_lnI (g_lnI (g_lnI (g_lnI (g_lnI (g_lnI (g_lnI (g_lnI (g_lnI (g_lnI (g_lnI (g_lnI (g_lnI (g_lnI (g_lnI (g_lnI (g_lnI (g_lnI (g_lnI (g_lnI (g_lnI (g_lnI (g_lnI (g_lnI (g_lnI (g_lnI (g_lnI (g_lnI (g_lnI (g_lnI (g_lnI (g_lnI (g_lnI (g_lnI (g_lnI (g_lnI (g_lnI (g_lnI (g_lnI (g_lnI (g_lnI (g_lnI (g_lnI (g_lnI (g_lnI (g_lnI (g_lnI (g_lnI (g_lnI (g_lnI (g_lnI (g_lnI (g_lnI (g_lnI (g_lnI (g_lnI (g_lnI (g_lnI (g_lnI hpN)))))))))))))))))))))))))))))))))))))))))))))))))))))))))))))))))))))))) (by decide) (Nat.le_of_ble_eq_true rfl) ?_
  show Go l RX8 cX8_put 3 (g_rm 1 0 0) "put" none 117 0 0 _ _ 0 0 [(0, .ref 70), (1, .int (xs 5))] [] (hI (hI (hI (hI (hI (hI (hI (hI (hI (hI (hI (hI (hI (hI (hI (hI (hI (hI (hI (hI (hI (hI (hI (hI (hI (hI (hI (hI (hI (hI (hI (hI (hI (hI (hI (hI (hI (hI (hI (hI (hI (hI (hI (hI (hI (hI (hI (hI (hI (hI (hI (hI (hI (hI (hI (hI (hI (hI (hI (hI (hI (hI (hI (hI (hI (hI (hI (hI (hI (hI (hI (hI hz10 1 0 (vp_nar .byte ((((xs 1).toUInt32 >>> ((24 : Int32).toUInt32 &&& Int32.toUInt32 31)).toInt32).toInt8.toInt32))) 0 1 1) 1 1 (vp_nar .byte ((((xs 1).toUInt32 >>> ((16 : Int32).toUInt32 &&& Int32.toUInt32 31)).toInt32).toInt8.toInt32))) 0 1 2) 1 2 (vp_nar .byte ((((xs 1).toUInt32 >>> ((8 : Int32).toUInt32 &&& Int32.toUInt32 31)).toInt32).toInt8.toInt32))) 0 1 3) 1 3 (vp_nar .byte ((((xs 1).toUInt32 >>> ((0 : Int32).toUInt32 &&& Int32.toUInt32 31)).toInt32).toInt8.toInt32))) 0 1 4) 1 4 (vp_nar .byte ((((xs 2).toUInt32 >>> ((24 : Int32).toUInt32 &&& Int32.toUInt32 31)).toInt32).toInt8.toInt32))) 0 1 5) 1 5 (vp_nar .byte ((((xs 2).toUInt32 >>> ((16 : Int32).toUInt32 &&& Int32.toUInt32 31)).toInt32).toInt8.toInt32))) 0 1 6) 1 6 (vp_nar .byte ((((xs 2).toUInt32 >>> ((8 : Int32).toUInt32 &&& Int32.toUInt32 31)).toInt32).toInt8.toInt32))) 0 1 7) 1 7 (vp_nar .byte ((((xs 2).toUInt32 >>> ((0 : Int32).toUInt32 &&& Int32.toUInt32 31)).toInt32).toInt8.toInt32))) 0 1 8) 1 8 (vp_nar .byte ((((xs 3).toUInt32 >>> ((24 : Int32).toUInt32 &&& Int32.toUInt32 31)).toInt32).toInt8.toInt32))) 0 1 9) 1 9 (vp_nar .byte ((((xs 3).toUInt32 >>> ((16 : Int32).toUInt32 &&& Int32.toUInt32 31)).toInt32).toInt8.toInt32))) 0 1 10) 1 10 (vp_nar .byte ((((xs 3).toUInt32 >>> ((8 : Int32).toUInt32 &&& Int32.toUInt32 31)).toInt32).toInt8.toInt32))) 0 1 11) 1 11 (vp_nar .byte ((((xs 3).toUInt32 >>> ((0 : Int32).toUInt32 &&& Int32.toUInt32 31)).toInt32).toInt8.toInt32))) 0 1 12) 1 12 (vp_nar .byte ((((xs 4).toUInt32 >>> ((24 : Int32).toUInt32 &&& Int32.toUInt32 31)).toInt32).toInt8.toInt32))) 0 1 13) 1 13 (vp_nar .byte ((((xs 4).toUInt32 >>> ((16 : Int32).toUInt32 &&& Int32.toUInt32 31)).toInt32).toInt8.toInt32))) 0 1 14) 1 14 (vp_nar .byte ((((xs 4).toUInt32 >>> ((8 : Int32).toUInt32 &&& Int32.toUInt32 31)).toInt32).toInt8.toInt32))) 0 1 15) 1 15 (vp_nar .byte ((((xs 4).toUInt32 >>> ((0 : Int32).toUInt32 &&& Int32.toUInt32 31)).toInt32).toInt8.toInt32))) 0 1 16) 1 16 (vp_nar .byte ((((xs 5).toUInt32 >>> ((24 : Int32).toUInt32 &&& Int32.toUInt32 31)).toInt32).toInt8.toInt32))) 0 1 17) 1 17 (vp_nar .byte ((((xs 5).toUInt32 >>> ((16 : Int32).toUInt32 &&& Int32.toUInt32 31)).toInt32).toInt8.toInt32))) 0 1 18) 1 18 (vp_nar .byte ((((xs 5).toUInt32 >>> ((8 : Int32).toUInt32 &&& Int32.toUInt32 31)).toInt32).toInt8.toInt32))) 0 1 19) 1 19 (vp_nar .byte ((((xs 5).toUInt32 >>> ((0 : Int32).toUInt32 &&& Int32.toUInt32 31)).toInt32).toInt8.toInt32))) 0 1 20) 71 0 (vp_nar .byte (((xs 1) >>> (24 &&& 31)).toInt8.toInt32))) 70 2 1) 71 1 (vp_nar .byte (((xs 1) >>> (16 &&& 31)).toInt8.toInt32))) 70 2 2) 71 2 (vp_nar .byte (((xs 1) >>> (8 &&& 31)).toInt8.toInt32))) 70 2 3) 71 3 (vp_nar .byte (((xs 1) >>> (0 &&& 31)).toInt8.toInt32))) 70 2 4) 71 4 (vp_nar .byte (((xs 2) >>> (24 &&& 31)).toInt8.toInt32))) 70 2 5) 71 5 (vp_nar .byte (((xs 2) >>> (16 &&& 31)).toInt8.toInt32))) 70 2 6) 71 6 (vp_nar .byte (((xs 2) >>> (8 &&& 31)).toInt8.toInt32))) 70 2 7) 71 7 (vp_nar .byte (((xs 2) >>> (0 &&& 31)).toInt8.toInt32))) 70 2 8) 71 8 (vp_nar .byte (((xs 3) >>> (24 &&& 31)).toInt8.toInt32))) 70 2 9) 71 9 (vp_nar .byte (((xs 3) >>> (16 &&& 31)).toInt8.toInt32))) 70 2 10) 71 10 (vp_nar .byte (((xs 3) >>> (8 &&& 31)).toInt8.toInt32))) 70 2 11) 71 11 (vp_nar .byte (((xs 3) >>> (0 &&& 31)).toInt8.toInt32))) 70 2 12) 71 12 (vp_nar .byte (((xs 4) >>> (24 &&& 31)).toInt8.toInt32))) 70 2 13) 71 13 (vp_nar .byte (((xs 4) >>> (16 &&& 31)).toInt8.toInt32))) 70 2 14) 71 14 (vp_nar .byte (((xs 4) >>> (8 &&& 31)).toInt8.toInt32))) 70 2 15) 71 15 (vp_nar .byte (((xs 4) >>> (0 &&& 31)).toInt8.toInt32))) 70 2 16)
  refine go_bipush (pc := 0) (v := 24) (by decide) dX8_put_0 ?_
  refine go_istore_n (pc := 2) (Nat.le_of_ble_eq_true rfl) dX8_put_2 (go_lv (lv2 := [(0, .ref 70), (1, .int (xs 5)), (2, .int 24)]) rfl ?_)
  refine go_iload_n (pc := 3) rfl dX8_put_3 ?_
  refine go_if_lt (pc := 4) (tgt := 36) (by decide) dX8_put_4 (fun q => absurd q (by decide)) (fun _ => ?_)
  refine go_aload_n (pc := 7) rfl dX8_put_7 ?_
  refine go_getR (pc := 8) (v := .ref 71) fL_X8_7 (g_shI (g_shI (g_shI (g_shI (g_shI (g_shI (g_shI (g_shI (g_shI (g_shI (g_shI (g_shI (g_shI (g_shI (g_shI (g_shI (g_shI (g_shI (g_shI (g_shI (g_shI (g_shI (g_shI (g_shI (g_shI (g_shI (g_shI (g_shI (g_shI (g_shI (g_shI (g_shI (g_shI (g_shI (g_shI (g_shI (g_shI (g_shI (g_shI (g_shI (g_shI (g_shI (g_shI (g_shI (g_shI (g_shI (g_shI (g_shI (g_shI (g_shI (g_shI (g_shI (g_shI (g_shI (g_shI (g_shI (g_shI (g_shI (g_shI (g_shI (g_shI (g_shI (g_shI (g_shI (g_shI (g_shI (g_shI (g_shI (g_shI (g_shI (g_shI (g_shI (g_sh hpS rfl))))))))))))))))))))))))))))))))))))))))))))))))))))))))))))))))))))))))) (Nat.le_of_ble_eq_true rfl) rfl (g_rI (g_rI (g_rI (g_rI (g_rI (g_rI (g_rI (g_rI (g_rI (g_rI (g_rI (g_rI (g_rI (g_rI (g_rI (g_rI (g_rI (g_rI (g_rI (g_rI (g_rI (g_rI (g_rI (g_rI (g_rI (g_rI (g_rI (g_rI (g_rI (g_rI (g_rI (g_rI (g_rI (g_rI (g_rI (g_rI (g_rI (g_rI (g_rI (g_rI (g_rI (g_rI (g_rI (g_rI (g_rI (g_rI (g_rI (g_rI (g_rI (g_rI (g_rI (g_rI (g_rI (g_rI (g_rI (g_rI (g_rI (g_rI (g_rI (g_rI (g_rI (g_rI (g_rI (g_rI (g_rI (g_rI (g_rI (g_rI (g_rI (g_rI (g_rI (g_rI hpr_70_0)))))))))))))))))))))))))))))))))))))))))))))))))))))))))))))))))))))))) dX8_put_8 ?_
  refine go_aload_n (pc := 11) rfl dX8_put_11 ?_
  refine go_getI (pc := 12) fL_X8_151 (g_shI (g_shI (g_shI (g_shI (g_shI (g_shI (g_shI (g_shI (g_shI (g_shI (g_shI (g_shI (g_shI (g_shI (g_shI (g_shI (g_shI (g_shI (g_shI (g_shI (g_shI (g_shI (g_shI (g_shI (g_shI (g_shI (g_shI (g_shI (g_shI (g_shI (g_shI (g_shI (g_shI (g_shI (g_shI (g_shI (g_shI (g_shI (g_shI (g_shI (g_shI (g_shI (g_shI (g_shI (g_shI (g_shI (g_shI (g_shI (g_shI (g_shI (g_shI (g_shI (g_shI (g_shI (g_shI (g_shI (g_shI (g_shI (g_shI (g_shI (g_shI (g_shI (g_shI (g_shI (g_shI (g_shI (g_shI (g_shI (g_shI (g_shI (g_shI (g_shI (g_sh hpS rfl))))))))))))))))))))))))))))))))))))))))))))))))))))))))))))))))))))))))) (Nat.le_of_ble_eq_true rfl) rfl dX8_put_12 (go_topi (y := 16) g_iS ?_)
  refine go_iload_n (pc := 15) rfl dX8_put_15 ?_
  refine go_iload_n (pc := 16) rfl dX8_put_16 ?_
  refine go_ishr (pc := 17) dX8_put_17 ?_
  refine go_i2b (pc := 18) dX8_put_18 ?_
  refine go_bastj (pc := 19) (j := 16) (g_shI (g_shI (g_shI (g_shI (g_shI (g_shI (g_shI (g_shI (g_shI (g_shI (g_shI (g_shI (g_shI (g_shI (g_shI (g_shI (g_shI (g_shI (g_shI (g_shI (g_shI (g_shI (g_shI (g_shI (g_shI (g_shI (g_shI (g_shI (g_shI (g_shI (g_shI (g_shI (g_shI (g_shI (g_shI (g_shI (g_shI (g_shI (g_shI (g_shI (g_shI (g_shI (g_shI (g_shI (g_shI (g_shI (g_shI (g_shI (g_shI (g_shI (g_shI (g_shI (g_shI (g_shI (g_shI (g_shI (g_shI (g_shI (g_shI (g_shI (g_shI (g_shI (g_shI (g_shI (g_shI (g_shI (g_shI (g_shI (g_shI (g_shI (g_shI (g_shI (g_sh hpS rfl))))))))))))))))))))))))))))))))))))))))))))))))))))))))))))))))))))))))) (by decide +kernel) (by decide +kernel) dX8_put_19 ?_
  refine go_aload_n (pc := 20) rfl dX8_put_20 ?_
  refine go_dup (pc := 21) rfl dX8_put_21 ?_
  refine go_getI (pc := 22) fL_X8_151 (g_shI (g_shI (g_shI (g_shI (g_shI (g_shI (g_shI (g_shI (g_shI (g_shI (g_shI (g_shI (g_shI (g_shI (g_shI (g_shI (g_shI (g_shI (g_shI (g_shI (g_shI (g_shI (g_shI (g_shI (g_shI (g_shI (g_shI (g_shI (g_shI (g_shI (g_shI (g_shI (g_shI (g_shI (g_shI (g_shI (g_shI (g_shI (g_shI (g_shI (g_shI (g_shI (g_shI (g_shI (g_shI (g_shI (g_shI (g_shI (g_shI (g_shI (g_shI (g_shI (g_shI (g_shI (g_shI (g_shI (g_shI (g_shI (g_shI (g_shI (g_shI (g_shI (g_shI (g_shI (g_shI (g_shI (g_shI (g_shI (g_shI (g_shI (g_shI (g_shI (g_shI (g_sh hpS rfl)))))))))))))))))))))))))))))))))))))))))))))))))))))))))))))))))))))))))) (Nat.le_of_ble_eq_true rfl) rfl dX8_put_22 (go_topi (y := 16) (g_iI rfl g_iS) ?_)
  refine go_iconst (pc := 25) (v := 1) (by decide) dX8_put_25 ?_
  refine go_iadd (pc := 26) dX8_put_26 (go_topi (y := 17) (by decide) ?_)
  refine go_putI (pc := 27) (fP_X8_151 _) (g_shI (g_shI (g_shI (g_shI (g_shI (g_shI (g_shI (g_shI (g_shI (g_shI (g_shI (g_shI (g_shI (g_shI (g_shI (g_shI (g_shI (g_shI (g_shI (g_shI (g_shI (g_shI (g_shI (g_shI (g_shI (g_shI (g_shI (g_shI (g_shI (g_shI (g_shI (g_shI (g_shI (g_shI (g_shI (g_shI (g_shI (g_shI (g_shI (g_shI (g_shI (g_shI (g_shI (g_shI (g_shI (g_shI (g_shI (g_shI (g_shI (g_shI (g_shI (g_shI (g_shI (g_shI (g_shI (g_shI (g_shI (g_shI (g_shI (g_shI (g_shI (g_shI (g_shI (g_shI (g_shI (g_shI (g_shI (g_shI (g_shI (g_shI (g_shI (g_shI (g_shI (g_sh hpS rfl)))))))))))))))))))))))))))))))))))))))))))))))))))))))))))))))))))))))))) (Nat.le_of_ble_eq_true rfl) rfl (fun _ => rfl) (fun _ => rfl) dX8_put_27 ?_
  refine go_iincv (pc := 30) (y := 16) (Nat.le_of_ble_eq_true rfl) rfl (by decide) dX8_put_30 (go_lv (lv2 := [(0, .ref 70), (1, .int (xs 5)), (2, .int 16)]) rfl ?_)
  refine go_goto (pc := 33) (tgt := 3) (by decide) dX8_put_33 ?_
  refine go_iload_n (pc := 3) rfl dX8_put_3 ?_
  refine go_if_lt (pc := 4) (tgt := 36) (by decide) dX8_put_4 (fun q => absurd q (by decide)) (fun _ => ?_)
  refine go_aload_n (pc := 7) rfl dX8_put_7 ?_
  refine go_getR (pc := 8) (v := .ref 71) fL_X8_7 (g_shI (g_shI (g_shI (g_shI (g_shI (g_shI (g_shI (g_shI (g_shI (g_shI (g_shI (g_shI (g_shI (g_shI (g_shI (g_shI (g_shI (g_shI (g_shI (g_shI (g_shI (g_shI (g_shI (g_shI (g_shI (g_shI (g_shI (g_shI (g_shI (g_shI (g_shI (g_shI (g_shI (g_shI (g_shI (g_shI (g_shI (g_shI (g_shI (g_shI (g_shI (g_shI (g_shI (g_shI (g_shI (g_shI (g_shI (g_shI (g_shI (g_shI (g_shI (g_shI (g_shI (g_shI (g_shI (g_shI (g_shI (g_shI (g_shI (g_shI (g_shI (g_shI (g_shI (g_shI (g_shI (g_shI (g_shI (g_shI (g_shI (g_shI (g_shI (g_shI (g_shI (g_shI (g_sh hpS rfl))))))))))))))))))))))))))))))))))))))))))))))))))))))))))))))))))))))))))) (Nat.le_of_ble_eq_true rfl) rfl (g_rI (g_rI (g_rI (g_rI (g_rI (g_rI (g_rI (g_rI (g_rI (g_rI (g_rI (g_rI (g_rI (g_rI (g_rI (g_rI (g_rI (g_rI (g_rI (g_rI (g_rI (g_rI (g_rI (g_rI (g_rI (g_rI (g_rI (g_rI (g_rI (g_rI (g_rI (g_rI (g_rI (g_rI (g_rI (g_rI (g_rI (g_rI (g_rI (g_rI (g_rI (g_rI (g_rI (g_rI (g_rI (g_rI (g_rI (g_rI (g_rI (g_rI (g_rI (g_rI (g_rI (g_rI (g_rI (g_rI (g_rI (g_rI (g_rI (g_rI (g_rI (g_rI (g_rI (g_rI (g_rI (g_rI (g_rI (g_rI (g_rI (g_rI (g_rI (g_rI (g_rI (g_rI hpr_70_0)))))))))))))))))))))))))))))))))))))))))))))))))))))))))))))))))))))))))) dX8_put_8 ?_
  refine go_aload_n (pc := 11) rfl dX8_put_11 ?_
  refine go_getI (pc := 12) fL_X8_151 (g_shI (g_shI (g_shI (g_shI (g_shI (g_shI (g_shI (g_shI (g_shI (g_shI (g_shI (g_shI (g_shI (g_shI (g_shI (g_shI (g_shI (g_shI (g_shI (g_shI (g_shI (g_shI (g_shI (g_shI (g_shI (g_shI (g_shI (g_shI (g_shI (g_shI (g_shI (g_shI (g_shI (g_shI (g_shI (g_shI (g_shI (g_shI (g_shI (g_shI (g_shI (g_shI (g_shI (g_shI (g_shI (g_shI (g_shI (g_shI (g_shI (g_shI (g_shI (g_shI (g_shI (g_shI (g_shI (g_shI (g_shI (g_shI (g_shI (g_shI (g_shI (g_shI (g_shI (g_shI (g_shI (g_shI (g_shI (g_shI (g_shI (g_shI (g_shI (g_shI (g_shI (g_shI (g_sh hpS rfl))))))))))))))))))))))))))))))))))))))))))))))))))))))))))))))))))))))))))) (Nat.le_of_ble_eq_true rfl) rfl dX8_put_12 (go_topi (y := 17) g_iS ?_)
  refine go_iload_n (pc := 15) rfl dX8_put_15 ?_
  refine go_iload_n (pc := 16) rfl dX8_put_16 ?_
  refine go_ishr (pc := 17) dX8_put_17 ?_
  refine go_i2b (pc := 18) dX8_put_18 ?_
  refine go_bastj (pc := 19) (j := 17) (g_shI (g_shI (g_shI (g_shI (g_shI (g_shI (g_shI (g_shI (g_shI (g_shI (g_shI (g_shI (g_shI (g_shI (g_shI (g_shI (g_shI (g_shI (g_shI (g_shI (g_shI (g_shI (g_shI (g_shI (g_shI (g_shI (g_shI (g_shI (g_shI (g_shI (g_shI (g_shI (g_shI (g_shI (g_shI (g_shI (g_shI (g_shI (g_shI (g_shI (g_shI (g_shI (g_shI (g_shI (g_shI (g_shI (g_shI (g_shI (g_shI (g_shI (g_shI (g_shI (g_shI (g_shI (g_shI (g_shI (g_shI (g_shI (g_shI (g_shI (g_shI (g_shI (g_shI (g_shI (g_shI (g_shI (g_shI (g_shI (g_shI (g_shI (g_shI (g_shI (g_shI (g_shI (g_sh hpS rfl))))))))))))))))))))))))))))))))))))))))))))))))))))))))))))))))))))))))))) (by decide +kernel) (by decide +kernel) dX8_put_19 ?_
  refine go_aload_n (pc := 20) rfl dX8_put_20 ?_
  refine go_dup (pc := 21) rfl dX8_put_21 ?_
  refine go_getI (pc := 22) fL_X8_151 (g_shI (g_shI (g_shI (g_shI (g_shI (g_shI (g_shI (g_shI (g_shI (g_shI (g_shI (g_shI (g_shI (g_shI (g_shI (g_shI (g_shI (g_shI (g_shI (g_shI (g_shI (g_shI (g_shI (g_shI (g_shI (g_shI (g_shI (g_shI (g_shI (g_shI (g_shI (g_shI (g_shI (g_shI (g_shI (g_shI (g_shI (g_shI (g_shI (g_shI (g_shI (g_shI (g_shI (g_shI (g_shI (g_shI (g_shI (g_shI (g_shI (g_shI (g_shI (g_shI (g_shI (g_shI (g_shI (g_shI (g_shI (g_shI (g_shI (g_shI (g_shI (g_shI (g_shI (g_shI (g_shI (g_shI (g_shI (g_shI (g_shI (g_shI (g_shI (g_shI (g_shI (g_shI (g_shI (g_sh hpS rfl)))))))))))))))))))))))))))))))))))))))))))))))))))))))))))))))))))))))))))) (Nat.le_of_ble_eq_true rfl) rfl dX8_put_22 (go_topi (y := 17) (g_iI rfl g_iS) ?_)
  refine go_iconst (pc := 25) (v := 1) (by decide) dX8_put_25 ?_
  refine go_iadd (pc := 26) dX8_put_26 (go_topi (y := 18) (by decide) ?_)
  refine go_putI (pc := 27) (fP_X8_151 _) (g_shI (g_shI (g_shI (g_shI (g_shI (g_shI (g_shI (g_shI (g_shI (g_shI (g_shI (g_shI (g_shI (g_shI (g_shI (g_shI (g_shI (g_shI (g_shI (g_shI (g_shI (g_shI (g_shI (g_shI (g_shI (g_shI (g_shI (g_shI (g_shI (g_shI (g_shI (g_shI (g_shI (g_shI (g_shI (g_shI (g_shI (g_shI (g_shI (g_shI (g_shI (g_shI (g_shI (g_shI (g_shI (g_shI (g_shI (g_shI (g_shI (g_shI (g_shI (g_shI (g_shI (g_shI (g_shI (g_shI (g_shI (g_shI (g_shI (g_shI (g_shI (g_shI (g_shI (g_shI (g_shI (g_shI (g_shI (g_shI (g_shI (g_shI (g_shI (g_shI (g_shI (g_shI (g_shI (g_sh hpS rfl)))))))))))))))))))))))))))))))))))))))))))))))))))))))))))))))))))))))))))) (Nat.le_of_ble_eq_true rfl) rfl (fun _ => rfl) (fun _ => rfl) dX8_put_27 ?_
  refine go_iincv (pc := 30) (y := 8) (Nat.le_of_ble_eq_true rfl) rfl (by decide) dX8_put_30 (go_lv (lv2 := [(0, .ref 70), (1, .int (xs 5)), (2, .int 8)]) rfl ?_)
  refine go_goto (pc := 33) (tgt := 3) (by decide) dX8_put_33 ?_
  refine go_iload_n (pc := 3) rfl dX8_put_3 ?_
  refine go_if_lt (pc := 4) (tgt := 36) (by decide) dX8_put_4 (fun q => absurd q (by decide)) (fun _ => ?_)
  refine go_aload_n (pc := 7) rfl dX8_put_7 ?_
  refine go_getR (pc := 8) (v := .ref 71) fL_X8_7 (g_shI (g_shI (g_shI (g_shI (g_shI (g_shI (g_shI (g_shI (g_shI (g_shI (g_shI (g_shI (g_shI (g_shI (g_shI (g_shI (g_shI (g_shI (g_shI (g_shI (g_shI (g_shI (g_shI (g_shI (g_shI (g_shI (g_shI (g_shI (g_shI (g_shI (g_shI (g_shI (g_shI (g_shI (g_shI (g_shI (g_shI (g_shI (g_shI (g_shI (g_shI (g_shI (g_shI (g_shI (g_shI (g_shI (g_shI (g_shI (g_shI (g_shI (g_shI (g_shI (g_shI (g_shI (g_shI (g_shI (g_shI (g_shI (g_shI (g_shI (g_shI (g_shI (g_shI (g_shI (g_shI (g_shI (g_shI (g_shI (g_shI (g_shI (g_shI (g_shI (g_shI (g_shI (g_shI (g_shI (g_sh hpS rfl))))))))))))))))))))))))))))))))))))))))))))))))))))))))))))))))))))))))))))) (Nat.le_of_ble_eq_true rfl) rfl (g_rI (g_rI (g_rI (g_rI (g_rI (g_rI (g_rI (g_rI (g_rI (g_rI (g_rI (g_rI (g_rI (g_rI (g_rI (g_rI (g_rI (g_rI (g_rI (g_rI (g_rI (g_rI (g_rI (g_rI (g_rI (g_rI (g_rI (g_rI (g_rI (g_rI (g_rI (g_rI (g_rI (g_rI (g_rI (g_rI (g_rI (g_rI (g_rI (g_rI (g_rI (g_rI (g_rI (g_rI (g_rI (g_rI (g_rI (g_rI (g_rI (g_rI (g_rI (g_rI (g_rI (g_rI (g_rI (g_rI (g_rI (g_rI (g_rI (g_rI (g_rI (g_rI (g_rI (g_rI (g_rI (g_rI (g_rI (g_rI (g_rI (g_rI (g_rI (g_rI (g_rI (g_rI (g_rI (g_rI hpr_70_0)))))))))))))))))))))))))))))))))))))))))))))))))))))))))))))))))))))))))))) dX8_put_8 ?_
  refine go_aload_n (pc := 11) rfl dX8_put_11 ?_
  refine go_getI (pc := 12) fL_X8_151 (g_shI (g_shI (g_shI (g_shI (g_shI (g_shI (g_shI (g_shI (g_shI (g_shI (g_shI (g_shI (g_shI (g_shI (g_shI (g_shI (g_shI (g_shI (g_shI (g_shI (g_shI (g_shI (g_shI (g_shI (g_shI (g_shI (g_shI (g_shI (g_shI (g_shI (g_shI (g_shI (g_shI (g_shI (g_shI (g_shI (g_shI (g_shI (g_shI (g_shI (g_shI (g_shI (g_shI (g_shI (g_shI (g_shI (g_shI (g_shI (g_shI (g_shI (g_shI (g_shI (g_shI (g_shI (g_shI (g_shI (g_shI (g_shI (g_shI (g_shI (g_shI (g_shI (g_shI (g_shI (g_shI (g_shI (g_shI (g_shI (g_shI (g_shI (g_shI (g_shI (g_shI (g_shI (g_shI (g_shI (g_sh hpS rfl))))))))))))))))))))))))))))))))))))))))))))))))))))))))))))))))))))))))))))) (Nat.le_of_ble_eq_true rfl) rfl dX8_put_12 (go_topi (y := 18) g_iS ?_)
  refine go_iload_n (pc := 15) rfl dX8_put_15 ?_
  refine go_iload_n (pc := 16) rfl dX8_put_16 ?_
  refine go_ishr (pc := 17) dX8_put_17 ?_
  refine go_i2b (pc := 18) dX8_put_18 ?_
  refine go_bastj (pc := 19) (j := 18) (g_shI (g_shI (g_shI (g_shI (g_shI (g_shI (g_shI (g_shI (g_shI (g_shI (g_shI (g_shI (g_shI (g_shI (g_shI (g_shI (g_shI (g_shI (g_shI (g_shI (g_shI (g_shI (g_shI (g_shI (g_shI (g_shI (g_shI (g_shI (g_shI (g_shI (g_shI (g_shI (g_shI (g_shI (g_shI (g_shI (g_shI (g_shI (g_shI (g_shI (g_shI (g_shI (g_shI (g_shI (g_shI (g_shI (g_shI (g_shI (g_shI (g_shI (g_shI (g_shI (g_shI (g_shI (g_shI (g_shI (g_shI (g_shI (g_shI (g_shI (g_shI (g_shI (g_shI (g_shI (g_shI (g_shI (g_shI (g_shI (g_shI (g_shI (g_shI (g_shI (g_shI (g_shI (g_shI (g_shI (g_sh hpS rfl))))))))))))))))))))))))))))))))))))))))))))))))))))))))))))))))))))))))))))) (by decide +kernel) (by decide +kernel) dX8_put_19 ?_
  refine go_aload_n (pc := 20) rfl dX8_put_20 ?_
  refine go_dup (pc := 21) rfl dX8_put_21 ?_
  refine go_getI (pc := 22) fL_X8_151 (g_shI (g_shI (g_shI (g_shI (g_shI (g_shI (g_shI (g_shI (g_shI (g_shI (g_shI (g_shI (g_shI (g_shI (g_shI (g_shI (g_shI (g_shI (g_shI (g_shI (g_shI (g_shI (g_shI (g_shI (g_shI (g_shI (g_shI (g_shI (g_shI (g_shI (g_shI (g_shI (g_shI (g_shI (g_shI (g_shI (g_shI (g_shI (g_shI (g_shI (g_shI (g_shI (g_shI (g_shI (g_shI (g_shI (g_shI (g_shI (g_shI (g_shI (g_shI (g_shI (g_shI (g_shI (g_shI (g_shI (g_shI (g_shI (g_shI (g_shI (g_shI (g_shI (g_shI (g_shI (g_shI (g_shI (g_shI (g_shI (g_shI (g_shI (g_shI (g_shI (g_shI (g_shI (g_shI (g_shI (g_shI (g_sh hpS rfl)))))))))))))))))))))))))))))))))))))))))))))))))))))))))))))))))))))))))))))) (Nat.le_of_ble_eq_true rfl) rfl dX8_put_22 (go_topi (y := 18) (g_iI rfl g_iS) ?_)
  refine go_iconst (pc := 25) (v := 1) (by decide) dX8_put_25 ?_
  refine go_iadd (pc := 26) dX8_put_26 (go_topi (y := 19) (by decide) ?_)
  refine go_putI (pc := 27) (fP_X8_151 _) (g_shI (g_shI (g_shI (g_shI (g_shI (g_shI (g_shI (g_shI (g_shI (g_shI (g_shI (g_shI (g_shI (g_shI (g_shI (g_shI (g_shI (g_shI (g_shI (g_shI (g_shI (g_shI (g_shI (g_shI (g_shI (g_shI (g_shI (g_shI (g_shI (g_shI (g_shI (g_shI (g_shI (g_shI (g_shI (g_shI (g_shI (g_shI (g_shI (g_shI (g_shI (g_shI (g_shI (g_shI (g_shI (g_shI (g_shI (g_shI (g_shI (g_shI (g_shI (g_shI (g_shI (g_shI (g_shI (g_shI (g_shI (g_shI (g_shI (g_shI (g_shI (g_shI (g_shI (g_shI (g_shI (g_shI (g_shI (g_shI (g_shI (g_shI (g_shI (g_shI (g_shI (g_shI (g_shI (g_shI (g_shI (g_sh hpS rfl)))))))))))))))))))))))))))))))))))))))))))))))))))))))))))))))))))))))))))))) (Nat.le_of_ble_eq_true rfl) rfl (fun _ => rfl) (fun _ => rfl) dX8_put_27 ?_
  refine go_iincv (pc := 30) (y := 0) (Nat.le_of_ble_eq_true rfl) rfl (by decide) dX8_put_30 (go_lv (lv2 := [(0, .ref 70), (1, .int (xs 5)), (2, .int 0)]) rfl ?_)
  refine go_goto (pc := 33) (tgt := 3) (by decide) dX8_put_33 ?_
  refine go_iload_n (pc := 3) rfl dX8_put_3 ?_
  refine go_if_lt (pc := 4) (tgt := 36) (by decide) dX8_put_4 (fun q => absurd q (by decide)) (fun _ => ?_)
  refine go_aload_n (pc := 7) rfl dX8_put_7 ?_
  refine go_getR (pc := 8) (v := .ref 71) fL_X8_7 (g_shI (g_shI (g_shI (g_shI (g_shI (g_shI (g_shI (g_shI (g_shI (g_shI (g_shI (g_shI (g_shI (g_shI (g_shI (g_shI (g_shI (g_shI (g_shI (g_shI (g_shI (g_shI (g_shI (g_shI (g_shI (g_shI (g_shI (g_shI (g_shI (g_shI (g_shI (g_shI (g_shI (g_shI (g_shI (g_shI (g_shI (g_shI (g_shI (g_shI (g_shI (g_shI (g_shI (g_shI (g_shI (g_shI (g_shI (g_shI (g_shI (g_shI (g_shI (g_shI (g_shI (g_shI (g_shI (g_shI (g_shI (g_shI (g_shI (g_shI (g_shI (g_shI (g_shI (g_shI (g_shI (g_shI (g_shI (g_shI (g_shI (g_shI (g_shI (g_shI (g_shI (g_shI (g_shI (g_shI (g_shI (g_shI (g_sh hpS rfl))))))))))))))))))))))))))))))))))))))))))))))))))))))))))))))))))))))))))))))) (Nat.le_of_ble_eq_true rfl) rfl (g_rI (g_rI (g_rI (g_rI (g_rI (g_rI (g_rI (g_rI (g_rI (g_rI (g_rI (g_rI (g_rI (g_rI (g_rI (g_rI (g_rI (g_rI (g_rI (g_rI (g_rI (g_rI (g_rI (g_rI (g_rI (g_rI (g_rI (g_rI (g_rI (g_rI (g_rI (g_rI (g_rI (g_rI (g_rI (g_rI (g_rI (g_rI (g_rI (g_rI (g_rI (g_rI (g_rI (g_rI (g_rI (g_rI (g_rI (g_rI (g_rI (g_rI (g_rI (g_rI (g_rI (g_rI (g_rI (g_rI (g_rI (g_rI (g_rI (g_rI (g_rI (g_rI (g_rI (g_rI (g_rI (g_rI (g_rI (g_rI (g_rI (g_rI (g_rI (g_rI (g_rI (g_rI (g_rI (g_rI (g_rI (g_rI hpr_70_0)))))))))))))))))))))))))))))))))))))))))))))))))))))))))))))))))))))))))))))) dX8_put_8 ?_
  refine go_aload_n (pc := 11) rfl dX8_put_11 ?_
  refine go_getI (pc := 12) fL_X8_151 (g_shI (g_shI (g_shI (g_shI (g_shI (g_shI (g_shI (g_shI (g_shI (g_shI (g_shI (g_shI (g_shI (g_shI (g_shI (g_shI (g_shI (g_shI (g_shI (g_shI (g_shI (g_shI (g_shI (g_shI (g_shI (g_shI (g_shI (g_shI (g_shI (g_shI (g_shI (g_shI (g_shI (g_shI (g_shI (g_shI (g_shI (g_shI (g_shI (g_shI (g_shI (g_shI (g_shI (g_shI (g_shI (g_shI (g_shI (g_shI (g_shI (g_shI (g_shI (g_shI (g_shI (g_shI (g_shI (g_shI (g_shI (g_shI (g_shI (g_shI (g_shI (g_shI (g_shI (g_shI (g_shI (g_shI (g_shI (g_shI (g_shI (g_shI (g_shI (g_shI (g_shI (g_shI (g_shI (g_shI (g_shI (g_shI (g_sh hpS rfl))))))))))))))))))))))))))))))))))))))))))))))))))))))))))))))))))))))))))))))) (Nat.le_of_ble_eq_true rfl) rfl dX8_put_12 (go_topi (y := 19) g_iS ?_)
  refine go_iload_n (pc := 15) rfl dX8_put_15 ?_
  refine go_iload_n (pc := 16) rfl dX8_put_16 ?_
  refine go_ishr (pc := 17) dX8_put_17 ?_
  refine go_i2b (pc := 18) dX8_put_18 ?_
  refine go_bastj (pc := 19) (j := 19) (g_shI (g_shI (g_shI (g_shI (g_shI (g_shI (g_shI (g_shI (g_shI (g_shI (g_shI (g_shI (g_shI (g_shI (g_shI (g_shI (g_shI (g_shI (g_shI (g_shI (g_shI (g_shI (g_shI (g_shI (g_shI (g_shI (g_shI (g_shI (g_shI (g_shI (g_shI (g_shI (g_shI (g_shI (g_shI (g_shI (g_shI (g_shI (g_shI (g_shI (g_shI (g_shI (g_shI (g_shI (g_shI (g_shI (g_shI (g_shI (g_shI (g_shI (g_shI (g_shI (g_shI (g_shI (g_shI (g_shI (g_shI (g_shI (g_shI (g_shI (g_shI (g_shI (g_shI (g_shI (g_shI (g_shI (g_shI (g_shI (g_shI (g_shI (g_shI (g_shI (g_shI (g_shI (g_shI (g_shI (g_shI (g_shI (g_sh hpS rfl))))))))))))))))))))))))))))))))))))))))))))))))))))))))))))))))))))))))))))))) (by decide +kernel) (by decide +kernel) dX8_put_19 ?_
  refine go_aload_n (pc := 20) rfl dX8_put_20 ?_
  refine go_dup (pc := 21) rfl dX8_put_21 ?_
  refine go_getI (pc := 22) fL_X8_151 (g_shI (g_shI (g_shI (g_shI (g_shI (g_shI (g_shI (g_shI (g_shI (g_shI (g_shI (g_shI (g_shI (g_shI (g_shI (g_shI (g_shI (g_shI (g_shI (g_shI (g_shI (g_shI (g_shI (g_shI (g_shI (g_shI (g_shI (g_shI (g_shI (g_shI (g_shI (g_shI (g_shI (g_shI (g_shI (g_shI (g_shI (g_shI (g_shI (g_shI (g_shI (g_shI (g_shI (g_shI (g_shI (g_shI (g_shI (g_shI (g_shI (g_shI (g_shI (g_shI (g_shI (g_shI (g_shI (g_shI (g_shI (g_shI (g_shI (g_shI (g_shI (g_shI (g_shI (g_shI (g_shI (g_shI (g_shI (g_shI (g_shI (g_shI (g_shI (g_shI (g_shI (g_shI (g_shI (g_shI (g_shI (g_shI (g_shI (g_sh hpS rfl)))))))))))))))))))))))))))))))))))))))))))))))))))))))))))))))))))))))))))))))) (Nat.le_of_ble_eq_true rfl) rfl dX8_put_22 (go_topi (y := 19) (g_iI rfl g_iS) ?_)
  refine go_iconst (pc := 25) (v := 1) (by decide) dX8_put_25 ?_
  refine go_iadd (pc := 26) dX8_put_26 (go_topi (y := 20) (by decide) ?_)
  refine go_putI (pc := 27) (fP_X8_151 _) (g_shI (g_shI (g_shI (g_shI (g_shI (g_shI (g_shI (g_shI (g_shI (g_shI (g_shI (g_shI (g_shI (g_shI (g_shI (g_shI (g_shI (g_shI (g_shI (g_shI (g_shI (g_shI (g_shI (g_shI (g_shI (g_shI (g_shI (g_shI (g_shI (g_shI (g_shI (g_shI (g_shI (g_shI (g_shI (g_shI (g_shI (g_shI (g_shI (g_shI (g_shI (g_shI (g_shI (g_shI (g_shI (g_shI (g_shI (g_shI (g_shI (g_shI (g_shI (g_shI (g_shI (g_shI (g_shI (g_shI (g_shI (g_shI (g_shI (g_shI (g_shI (g_shI (g_shI (g_shI (g_shI (g_shI (g_shI (g_shI (g_shI (g_shI (g_shI (g_shI (g_shI (g_shI (g_shI (g_shI (g_shI (g_shI (g_shI (g_sh hpS rfl)))))))))))))))))))))))))))))))))))))))))))))))))))))))))))))))))))))))))))))))) (Nat.le_of_ble_eq_true rfl) rfl (fun _ => rfl) (fun _ => rfl) dX8_put_27 ?_
  refine go_iincv (pc := 30) (y := (-8)) (Nat.le_of_ble_eq_true rfl) rfl (by decide) dX8_put_30 (go_lv (lv2 := [(0, .ref 70), (1, .int (xs 5)), (2, .int (-8))]) rfl ?_)
  refine go_goto (pc := 33) (tgt := 3) (by decide) dX8_put_33 ?_
  refine go_iload_n (pc := 3) rfl dX8_put_3 ?_
  refine go_if_lt (pc := 4) (tgt := 36) (by decide) dX8_put_4 (fun _ => ?_) (fun q => absurd q (by decide))
  exact go_vret (pc := 36) (⟨rfl, rfl⟩) (g_lnI (g_lnI (g_lnI (g_lnI (g_lnI (g_lnI (g_lnI (g_lnI (g_lnI (g_lnI (g_lnI (g_lnI (g_lnI (g_lnI (g_lnI (g_lnI (g_lnI (g_lnI (g_lnI (g_lnI (g_lnI (g_lnI (g_lnI (g_lnI (g_lnI (g_lnI (g_lnI (g_lnI (g_lnI (g_lnI (g_lnI (g_lnI (g_lnI (g_lnI (g_lnI (g_lnI (g_lnI (g_lnI (g_lnI (g_lnI (g_lnI (g_lnI (g_lnI (g_lnI (g_lnI (g_lnI (g_lnI (g_lnI (g_lnI (g_lnI (g_lnI (g_lnI (g_lnI (g_lnI (g_lnI (g_lnI (g_lnI (g_lnI (g_lnI (g_lnI (g_lnI (g_lnI (g_lnI (g_lnI (g_lnI (g_lnI (g_lnI (g_lnI (g_lnI (g_lnI (g_lnI (g_lnI (g_lnI (g_lnI (g_lnI (g_lnI (g_lnI (g_lnI (g_lnI (g_lnI hpN)))))))))))))))))))))))))))))))))))))))))))))))))))))))))))))))))))))))))))))))) (Nat.le_of_ble_eq_true rfl) dX8_put_36
set_option maxHeartbeats 4000000 in
set_option maxRecDepth 100000 in
theorem k22_X8_feed (l : Launch) (xs : Nat → Int32) : Mt l yX8_feed cX8_feed 6 (some .int) 2 [.ref 70, .int (xs 1), .int (xs 2), .int (xs 3), .int (xs 4), .int (xs 5)] (hI (hI (hI (hI (hI (hI (hI (hI (hI (hI (hI (hI (hI (hI (hI (hI (hI (hI (hI (hI (hI (hI (hI (hI (hI (hI (hI (hI (hI (hI (hI (hI (hI (hI (hI (hI (hI (hI (hI (hI hz10 1 0 (vp_nar .byte ((((xs 1).toUInt32 >>> ((24 : Int32).toUInt32 &&& Int32.toUInt32 31)).toInt32).toInt8.toInt32))) 0 1 1) 1 1 (vp_nar .byte ((((xs 1).toUInt32 >>> ((16 : Int32).toUInt32 &&& Int32.toUInt32 31)).toInt32).toInt8.toInt32))) 0 1 2) 1 2 (vp_nar .byte ((((xs 1).toUInt32 >>> ((8 : Int32).toUInt32 &&& Int32.toUInt32 31)).toInt32).toInt8.toInt32))) 0 1 3) 1 3 (vp_nar .byte ((((xs 1).toUInt32 >>> ((0 : Int32).toUInt32 &&& Int32.toUInt32 31)).toInt32).toInt8.toInt32))) 0 1 4) 1 4 (vp_nar .byte ((((xs 2).toUInt32 >>> ((24 : Int32).toUInt32 &&& Int32.toUInt32 31)).toInt32).toInt8.toInt32))) 0 1 5) 1 5 (vp_nar .byte ((((xs 2).toUInt32 >>> ((16 : Int32).toUInt32 &&& Int32.toUInt32 31)).toInt32).toInt8.toInt32))) 0 1 6) 1 6 (vp_nar .byte ((((xs 2).toUInt32 >>> ((8 : Int32).toUInt32 &&& Int32.toUInt32 31)).toInt32).toInt8.toInt32))) 0 1 7) 1 7 (vp_nar .byte ((((xs 2).toUInt32 >>> ((0 : Int32).toUInt32 &&& Int32.toUInt32 31)).toInt32).toInt8.toInt32))) 0 1 8) 1 8 (vp_nar .byte ((((xs 3).toUInt32 >>> ((24 : Int32).toUInt32 &&& Int32.toUInt32 31)).toInt32).toInt8.toInt32))) 0 1 9) 1 9 (vp_nar .byte ((((xs 3).toUInt32 >>> ((16 : Int32).toUInt32 &&& Int32.toUInt32 31)).toInt32).toInt8.toInt32))) 0 1 10) 1 10 (vp_nar .byte ((((xs 3).toUInt32 >>> ((8 : Int32).toUInt32 &&& Int32.toUInt32 31)).toInt32).toInt8.toInt32))) 0 1 11) 1 11 (vp_nar .byte ((((xs 3).toUInt32 >>> ((0 : Int32).toUInt32 &&& Int32.toUInt32 31)).toInt32).toInt8.toInt32))) 0 1 12) 1 12 (vp_nar .byte ((((xs 4).toUInt32 >>> ((24 : Int32).toUInt32 &&& Int32.toUInt32 31)).toInt32).toInt8.toInt32))) 0 1 13) 1 13 (vp_nar .byte ((((xs 4).toUInt32 >>> ((16 : Int32).toUInt32 &&& Int32.toUInt32 31)).toInt32).toInt8.toInt32))) 0 1 14) 1 14 (vp_nar .byte ((((xs 4).toUInt32 >>> ((8 : Int32).toUInt32 &&& Int32.toUInt32 31)).toInt32).toInt8.toInt32))) 0 1 15) 1 15 (vp_nar .byte ((((xs 4).toUInt32 >>> ((0 : Int32).toUInt32 &&& Int32.toUInt32 31)).toInt32).toInt8.toInt32))) 0 1 16) 1 16 (vp_nar .byte ((((xs 5).toUInt32 >>> ((24 : Int32).toUInt32 &&& Int32.toUInt32 31)).toInt32).toInt8.toInt32))) 0 1 17) 1 17 (vp_nar .byte ((((xs 5).toUInt32 >>> ((16 : Int32).toUInt32 &&& Int32.toUInt32 31)).toInt32).toInt8.toInt32))) 0 1 18) 1 18 (vp_nar .byte ((((xs 5).toUInt32 >>> ((8 : Int32).toUInt32 &&& Int32.toUInt32 31)).toInt32).toInt8.toInt32))) 0 1 19) 1 19 (vp_nar .byte ((((xs 5).toUInt32 >>> ((0 : Int32).toUInt32 &&& Int32.toUInt32 31)).toInt32).toInt8.toInt32))) 0 1 20) 0 0 (fun r h' => r = some (.int 20) ∧ h' = hI (hI (hI (hI (hI (hI (hI (hI (hI (hI (hI (hI (hI (hI (hI (hI (hI (hI (hI (hI (hI (hI (hI (hI (hI (hI (hI (hI (hI (hI (hI (hI (hI (hI (hI (hI (hI (hI (hI (hI (hI (hI (hI (hI (hI (hI (hI (hI (hI (hI (hI (hI (hI (hI (hI (hI (hI (hI (hI (hI (hI (hI (hI (hI (hI (hI (hI (hI (hI (hI (hI (hI (hI (hI (hI (hI (hI (hI (hI (hI hz10 1 0 (vp_nar .byte ((((xs 1).toUInt32 >>> ((24 : Int32).toUInt32 &&& Int32.toUInt32 31)).toInt32).toInt8.toInt32))) 0 1 1) 1 1 (vp_nar .byte ((((xs 1).toUInt32 >>> ((16 : Int32).toUInt32 &&& Int32.toUInt32 31)).toInt32).toInt8.toInt32))) 0 1 2) 1 2 (vp_nar .byte ((((xs 1).toUInt32 >>> ((8 : Int32).toUInt32 &&& Int32.toUInt32 31)).toInt32).toInt8.toInt32))) 0 1 3) 1 3 (vp_nar .byte ((((xs 1).toUInt32 >>> ((0 : Int32).toUInt32 &&& Int32.toUInt32 31)).toInt32).toInt8.toInt32))) 0 1 4) 1 4 (vp_nar .byte ((((xs 2).toUInt32 >>> ((24 : Int32).toUInt32 &&& Int32.toUInt32 31)).toInt32).toInt8.toInt32))) 0 1 5) 1 5 (vp_nar .byte ((((xs 2).toUInt32 >>> ((16 : Int32).toUInt32 &&& Int32.toUInt32 31)).toInt32).toInt8.toInt32))) 0 1 6) 1 6 (vp_nar .byte ((((xs 2).toUInt32 >>> ((8 : Int32).toUInt32 &&& Int32.toUInt32 31)).toInt32).toInt8.toInt32))) 0 1 7) 1 7 (vp_nar .byte ((((xs 2).toUInt32 >>> ((0 : Int32).toUInt32 &&& Int32.toUInt32 31)).toInt32).toInt8.toInt32))) 0 1 8) 1 8 (vp_nar .byte ((((xs 3).toUInt32 >>> ((24 : Int32).toUInt32 &&& Int32.toUInt32 31)).toInt32).toInt8.toInt32))) 0 1 9) 1 9 (vp_nar .byte ((((xs 3).toUInt32 >>> ((16 : Int32).toUInt32 &&& Int32.toUInt32 31)).toInt32).toInt8.toInt32))) 0 1 10) 1 10 (vp_nar .byte ((((xs 3).toUInt32 >>> ((8 : Int32).toUInt32 &&& Int32.toUInt32 31)).toInt32).toInt8.toInt32))) 0 1 11) 1 11 (vp_nar .byte ((((xs 3).toUInt32 >>> ((0 : Int32).toUInt32 &&& Int32.toUInt32 31)).toInt32).toInt8.toInt32))) 0 1 12) 1 12 (vp_nar .byte ((((xs 4).toUInt32 >>> ((24 : Int32).toUInt32 &&& Int32.toUInt32 31)).toInt32).toInt8.toInt32))) 0 1 13) 1 13 (vp_nar .byte ((((xs 4).toUInt32 >>> ((16 : Int32).toUInt32 &&& Int32.toUInt32 31)).toInt32).toInt8.toInt32))) 0 1 14) 1 14 (vp_nar .byte ((((xs 4).toUInt32 >>> ((8 : Int32).toUInt32 &&& Int32.toUInt32 31)).toInt32).toInt8.toInt32))) 0 1 15) 1 15 (vp_nar .byte ((((xs 4).toUInt32 >>> ((0 : Int32).toUInt32 &&& Int32.toUInt32 31)).toInt32).toInt8.toInt32))) 0 1 16) 1 16 (vp_nar .byte ((((xs 5).toUInt32 >>> ((24 : Int32).toUInt32 &&& Int32.toUInt32 31)).toInt32).toInt8.toInt32))) 0 1 17) 1 17 (vp_nar .byte ((((xs 5).toUInt32 >>> ((16 : Int32).toUInt32 &&& Int32.toUInt32 31)).toInt32).toInt8.toInt32))) 0 1 18) 1 18 (vp_nar .byte ((((xs 5).toUInt32 >>> ((8 : Int32).toUInt32 &&& Int32.toUInt32 31)).toInt32).toInt8.toInt32))) 0 1 19) 1 19 (vp_nar .byte ((((xs 5).toUInt32 >>> ((0 : Int32).toUInt32 &&& Int32.toUInt32 31)).toInt32).toInt8.toInt32))) 0 1 20) 71 0 (vp_nar .byte (((xs 1) >>> (24 &&& 31)).toInt8.toInt32))) 70 2 1) 71 1 (vp_nar .byte (((xs 1) >>> (16 &&& 31)).toInt8.toInt32))) 70 2 2) 71 2 (vp_nar .byte (((xs 1) >>> (8 &&& 31)).toInt8.toInt32))) 70 2 3) 71 3 (vp_nar .byte (((xs 1) >>> (0 &&& 31)).toInt8.toInt32))) 70 2 4) 71 4 (vp_nar .byte (((xs 2) >>> (24 &&& 31)).toInt8.toInt32))) 70 2 5) 71 5 (vp_nar .byte (((xs 2) >>> (16 &&& 31)).toInt8.toInt32))) 70 2 6) 71 6 (vp_nar .byte (((xs 2) >>> (8 &&& 31)).toInt8.toInt32))) 70 2 7) 71 7 (vp_nar .byte (((xs 2) >>> (0 &&& 31)).toInt8.toInt32))) 70 2 8) 71 8 (vp_nar .byte (((xs 3) >>> (24 &&& 31)).toInt8.toInt32))) 70 2 9) 71 9 (vp_nar .byte (((xs 3) >>> (16 &&& 31)).toInt8.toInt32))) 70 2 10) 71 10 (vp_nar .byte (((xs 3) >>> (8 &&& 31)).toInt8.toInt32))) 70 2 11) 71 11 (vp_nar .byte (((xs 3) >>> (0 &&& 31)).toInt8.toInt32))) 70 2 12) 71 12 (vp_nar .byte (((xs 4) >>> (24 &&& 31)).toInt8.toInt32))) 70 2 13) 71 13 (vp_nar .byte (((xs 4) >>> (16 &&& 31)).toInt8.toInt32))) 70 2 14) 71 14 (vp_nar .byte (((xs 4) >>> (8 &&& 31)).toInt8.toInt32))) 70 2 15) 71 15 (vp_nar .byte (((xs 4) >>> (0 &&& 31)).toInt8.toInt32))) 70 2 16) 71 16 (vp_nar .byte (((xs 5) >>> (24 &&& 31)).toInt8.toInt32))) 70 2 17) 71 17 (vp_nar .byte (((xs 5) >>> (16 &&& 31)).toInt8.toInt32))) 70 2 18) 71 18 (vp_nar .byte (((xs 5) >>> (8 &&& 31)).toInt8.toInt32))) 70 2 19) 71 19 (vp_nar .byte (((xs 5) >>> (0 &&& 31)).toInt8.toInt32))) 70 2 20) := by
  refine Mt_ofn 117 (g_lnI (g_lnI (g_lnI (g_lnI (g_lnI (g_lnI (g_lnI (g_lnI (g_lnI (g_lnI (g_lnI (g_lnI (g_lnI (g_lnI (g_lnI (g_lnI (g_lnI (g_lnI (g_lnI (g_lnI (g_lnI (g_lnI (g_lnI (g_lnI (g_lnI (g_lnI (g_lnI (g_lnI (g_lnI (g_lnI (g_lnI (g_lnI (g_lnI (g_lnI (g_lnI (g_lnI (g_lnI (g_lnI (g_lnI (g_lnI hpN)))))))))))))))))))))))))))))))))))))))) (by decide) (Nat.le_of_ble_eq_true rfl) ?_
  show Go l RX8 cX8_feed 6 (g_rm 2 0 0) "feed" (some .int) 117 0 0 _ _ 0 0 [(0, .ref 70), (1, .int (xs 1)), (2, .int (xs 2)), (3, .int (xs 3)), (4, .int (xs 4)), (5, .int (xs 5))] [] (hI (hI (hI (hI (hI (hI (hI (hI (hI (hI (hI (hI (hI (hI (hI (hI (hI (hI (hI (hI (hI (hI (hI (hI (hI (hI (hI (hI (hI (hI (hI (hI (hI (hI (hI (hI (hI (hI (hI (hI hz10 1 0 (vp_nar .byte ((((xs 1).toUInt32 >>> ((24 : Int32).toUInt32 &&& Int32.toUInt32 31)).toInt32).toInt8.toInt32))) 0 1 1) 1 1 (vp_nar .byte ((((xs 1).toUInt32 >>> ((16 : Int32).toUInt32 &&& Int32.toUInt32 31)).toInt32).toInt8.toInt32))) 0 1 2) 1 2 (vp_nar .byte ((((xs 1).toUInt32 >>> ((8 : Int32).toUInt32 &&& Int32.toUInt32 31)).toInt32).toInt8.toInt32))) 0 1 3) 1 3 (vp_nar .byte ((((xs 1).toUInt32 >>> ((0 : Int32).toUInt32 &&& Int32.toUInt32 31)).toInt32).toInt8.toInt32))) 0 1 4) 1 4 (vp_nar .byte ((((xs 2).toUInt32 >>> ((24 : Int32).toUInt32 &&& Int32.toUInt32 31)).toInt32).toInt8.toInt32))) 0 1 5) 1 5 (vp_nar .byte ((((xs 2).toUInt32 >>> ((16 : Int32).toUInt32 &&& Int32.toUInt32 31)).toInt32).toInt8.toInt32))) 0 1 6) 1 6 (vp_nar .byte ((((xs 2).toUInt32 >>> ((8 : Int32).toUInt32 &&& Int32.toUInt32 31)).toInt32).toInt8.toInt32))) 0 1 7) 1 7 (vp_nar .byte ((((xs 2).toUInt32 >>> ((0 : Int32).toUInt32 &&& Int32.toUInt32 31)).toInt32).toInt8.toInt32))) 0 1 8) 1 8 (vp_nar .byte ((((xs 3).toUInt32 >>> ((24 : Int32).toUInt32 &&& Int32.toUInt32 31)).toInt32).toInt8.toInt32))) 0 1 9) 1 9 (vp_nar .byte ((((xs 3).toUInt32 >>> ((16 : Int32).toUInt32 &&& Int32.toUInt32 31)).toInt32).toInt8.toInt32))) 0 1 10) 1 10 (vp_nar .byte ((((xs 3).toUInt32 >>> ((8 : Int32).toUInt32 &&& Int32.toUInt32 31)).toInt32).toInt8.toInt32))) 0 1 11) 1 11 (vp_nar .byte ((((xs 3).toUInt32 >>> ((0 : Int32).toUInt32 &&& Int32.toUInt32 31)).toInt32).toInt8.toInt32))) 0 1 12) 1 12 (vp_nar .byte ((((xs 4).toUInt32 >>> ((24 : Int32).toUInt32 &&& Int32.toUInt32 31)).toInt32).toInt8.toInt32))) 0 1 13) 1 13 (vp_nar .byte ((((xs 4).toUInt32 >>> ((16 : Int32).toUInt32 &&& Int32.toUInt32 31)).toInt32).toInt8.toInt32))) 0 1 14) 1 14 (vp_nar .byte ((((xs 4).toUInt32 >>> ((8 : Int32).toUInt32 &&& Int32.toUInt32 31)).toInt32).toInt8.toInt32))) 0 1 15) 1 15 (vp_nar .byte ((((xs 4).toUInt32 >>> ((0 : Int32).toUInt32 &&& Int32.toUInt32 31)).toInt32).toInt8.toInt32))) 0 1 16) 1 16 (vp_nar .byte ((((xs 5).toUInt32 >>> ((24 : Int32).toUInt32 &&& Int32.toUInt32 31)).toInt32).toInt8.toInt32))) 0 1 17) 1 17 (vp_nar .byte ((((xs 5).toUInt32 >>> ((16 : Int32).toUInt32 &&& Int32.toUInt32 31)).toInt32).toInt8.toInt32))) 0 1 18) 1 18 (vp_nar .byte ((((xs 5).toUInt32 >>> ((8 : Int32).toUInt32 &&& Int32.toUInt32 31)).toInt32).toInt8.toInt32))) 0 1 19) 1 19 (vp_nar .byte ((((xs 5).toUInt32 >>> ((0 : Int32).toUInt32 &&& Int32.toUInt32 31)).toInt32).toInt8.toInt32))) 0 1 20)
  refine go_aload_n (pc := 0) rfl dX8_feed_0 ?_
  refine go_getI (pc := 1) fL_X8_151 (g_shI (g_shI (g_shI (g_shI (g_shI (g_shI (g_shI (g_shI (g_shI (g_shI (g_shI (g_shI (g_shI (g_shI (g_shI (g_shI (g_shI (g_shI (g_shI (g_shI (g_shI (g_shI (g_shI (g_shI (g_shI (g_shI (g_shI (g_shI (g_shI (g_shI (g_shI (g_shI (g_shI (g_shI (g_shI (g_shI (g_shI (g_shI (g_shI (g_shI (g_sh hpS rfl))))))))))))))))))))))))))))))))))))))))) (Nat.le_of_ble_eq_true rfl) rfl dX8_feed_1 (go_topi (y := 0) (g_iI rfl (g_iI rfl (g_iI rfl (g_iI rfl (g_iI rfl (g_iI rfl (g_iI rfl (g_iI rfl (g_iI rfl (g_iI rfl (g_iI rfl (g_iI rfl (g_iI rfl (g_iI rfl (g_iI rfl (g_iI rfl (g_iI rfl (g_iI rfl (g_iI rfl (g_iI rfl (g_iI rfl (g_iI rfl (g_iI rfl (g_iI rfl (g_iI rfl (g_iI rfl (g_iI rfl (g_iI rfl (g_iI rfl (g_iI rfl (g_iI rfl (g_iI rfl (g_iI rfl (g_iI rfl (g_iI rfl (g_iI rfl (g_iI rfl (g_iI rfl (g_iI rfl (g_iI rfl hpi_70_2)))))))))))))))))))))))))))))))))))))))) ?_)
  refine go_bipush (pc := 4) (v := 20) (by decide) dX8_feed_4 ?_
  refine go_iadd (pc := 6) dX8_feed_6 (go_topi (y := 20) (by decide) ?_)
  refine go_sipush (pc := 7) (v := 500) (by decide) dX8_feed_7 ?_
  refine go_icmp_le (pc := 10) (tgt := 15) (by decide) dX8_feed_10 (fun _ => ?_) (fun q => absurd q (by decide))
  refine go_aload_n (pc := 15) rfl dX8_feed_15 ?_
  refine go_iload_n (pc := 16) rfl dX8_feed_16 ?_
  refine go_invV (pc := 17) (sl := 0) (k17_X8_put l xs) mL_X8_155 iM_X8_put sM_X8_put (g_shI (g_shI (g_shI (g_shI (g_shI (g_shI (g_shI (g_shI (g_shI (g_shI (g_shI (g_shI (g_shI (g_shI (g_shI (g_shI (g_shI (g_shI (g_shI (g_shI (g_shI (g_shI (g_shI (g_shI (g_shI (g_shI (g_shI (g_shI (g_shI (g_shI (g_shI (g_shI (g_shI (g_shI (g_shI (g_shI (g_shI (g_shI (g_shI (g_shI (g_sh hpS rfl))))))))))))))))))))))))))))))))))))))))) rfl rfl rfl (Nat.le_of_ble_eq_true rfl) (Nat.le_of_ble_eq_true rfl) (Nat.le_of_ble_eq_true rfl) (g_c0 (g_lnI (g_lnI (g_lnI (g_lnI (g_lnI (g_lnI (g_lnI (g_lnI (g_lnI (g_lnI (g_lnI (g_lnI (g_lnI (g_lnI (g_lnI (g_lnI (g_lnI (g_lnI (g_lnI (g_lnI (g_lnI (g_lnI (g_lnI (g_lnI (g_lnI (g_lnI (g_lnI (g_lnI (g_lnI (g_lnI (g_lnI (g_lnI (g_lnI (g_lnI (g_lnI (g_lnI (g_lnI (g_lnI (g_lnI (g_lnI hpN))))))))))))))))))))))))))))))))))))))))) (Nat.le_of_ble_eq_true rfl) dX8_feed_17 ?_
  intro r h' hq _
  obtain ⟨rfl, rfl⟩ := hq
  refine go_aload_n (pc := 20) rfl dX8_feed_20 ?_
  refine go_iload_n (pc := 21) rfl dX8_feed_21 ?_
  refine go_invV (pc := 22) (sl := 0) (k18_X8_put l xs) mL_X8_155 iM_X8_put sM_X8_put (g_shI (g_shI (g_shI (g_shI (g_shI (g_shI (g_shI (g_shI (g_shI (g_shI (g_shI (g_shI (g_shI (g_shI (g_shI (g_shI (g_shI (g_shI (g_shI (g_shI (g_shI (g_shI (g_shI (g_shI (g_shI (g_shI (g_shI (g_shI (g_shI (g_shI (g_shI (g_shI (g_shI (g_shI (g_shI (g_shI (g_shI (g_shI (g_shI (g_shI (g_shI (g_shI (g_shI (g_shI (g_shI (g_shI (g_shI (g_shI (g_sh hpS rfl))))))))))))))))))))))))))))))))))))))))))))))))) rfl rfl rfl (Nat.le_of_ble_eq_true rfl) (Nat.le_of_ble_eq_true rfl) (Nat.le_of_ble_eq_true rfl) (g_c0 (g_lnI (g_lnI (g_lnI (g_lnI (g_lnI (g_lnI (g_lnI (g_lnI (g_lnI (g_lnI (g_lnI (g_lnI (g_lnI (g_lnI (g_lnI (g_lnI (g_lnI (g_lnI (g_lnI (g_lnI (g_lnI (g_lnI (g_lnI (g_lnI (g_lnI (g_lnI (g_lnI (g_lnI (g_lnI (g_lnI (g_lnI (g_lnI (g_lnI (g_lnI (g_lnI (g_lnI (g_lnI (g_lnI (g_lnI (g_lnI (g_lnI (g_lnI (g_lnI (g_lnI (g_lnI (g_lnI (g_lnI (g_lnI hpN))))))))))))))))))))))))))))))))))))))))))))))))) (Nat.le_of_ble_eq_true rfl) dX8_feed_22 ?_
  intro r h' hq _
  obtain ⟨rfl, rfl⟩ := hq
  refine go_aload_n (pc := 25) rfl dX8_feed_25 ?_
  refine go_iload_n (pc := 26) rfl dX8_feed_26 ?_
  refine go_invV (pc := 27) (sl := 0) (k19_X8_put l xs) mL_X8_155 iM_X8_put sM_X8_put (g_shI (g_shI (g_shI (g_shI (g_shI (g_shI (g_shI (g_shI (g_shI (g_shI (g_shI (g_shI (g_shI (g_shI (g_shI (g_shI (g_shI (g_shI (g_shI (g_shI (g_shI (g_shI (g_shI (g_shI (g_shI (g_shI (g_shI (g_shI (g_shI (g_shI (g_shI (g_shI (g_shI (g_shI (g_shI (g_shI (g_shI (g_shI (g_shI (g_shI (g_shI (g_shI (g_shI (g_shI (g_shI (g_shI (g_shI (g_shI (g_shI (g_shI (g_shI (g_shI (g_shI (g_shI (g_shI (g_shI (g_sh hpS rfl))))))))))))))))))))))))))))))))))))))))))))))))))))))))) rfl rfl rfl (Nat.le_of_ble_eq_true rfl) (Nat.le_of_ble_eq_true rfl) (Nat.le_of_ble_eq_true rfl) (g_c0 (g_lnI (g_lnI (g_lnI (g_lnI (g_lnI (g_lnI (g_lnI (g_lnI (g_lnI (g_lnI (g_lnI (g_lnI (g_lnI (g_lnI (g_lnI (g_lnI (g_lnI (g_lnI (g_lnI (g_lnI (g_lnI (g_lnI (g_lnI (g_lnI (g_lnI (g_lnI (g_lnI (g_lnI (g_lnI (g_lnI (g_lnI (g_lnI (g_lnI (g_lnI (g_lnI (g_lnI (g_lnI (g_lnI (g_lnI (g_lnI (g_lnI (g_lnI (g_lnI (g_lnI (g_lnI (g_lnI (g_lnI (g_lnI (g_lnI (g_lnI (g_lnI (g_lnI (g_lnI (g_lnI (g_lnI (g_lnI hpN))))))))))))))))))))))))))))))))))))))))))))))))))))))))) (Nat.le_of_ble_eq_true rfl) dX8_feed_27 ?_
  intro r h' hq _
  obtain ⟨rfl, rfl⟩ := hq
  refine go_aload_n (pc := 30) rfl dX8_feed_30 ?_
  refine go_iload (pc := 31) rfl dX8_feed_31 ?_
  refine go_invV (pc := 33) (sl := 0) (k20_X8_put l xs) mL_X8_155 iM_X8_put sM_X8_put (g_shI (g_shI (g_shI (g_shI (g_shI (g_shI (g_shI (g_shI (g_shI (g_shI (g_shI (g_shI (g_shI (g_shI (g_shI (g_shI (g_shI (g_shI (g_shI (g_shI (g_shI (g_shI (g_shI (g_shI (g_shI (g_shI (g_shI (g_shI (g_shI (g_shI (g_shI (g_shI (g_shI (g_shI (g_shI (g_shI (g_shI (g_shI (g_shI (g_shI (g_shI (g_shI (g_shI (g_shI (g_shI (g_shI (g_shI (g_shI (g_shI (g_shI (g_shI (g_shI (g_shI (g_shI (g_shI (g_shI (g_shI (g_shI (g_shI (g_shI (g_shI (g_shI (g_shI (g_shI (g_sh hpS rfl))))))))))))))))))))))))))))))))))))))))))))))))))))))))))))))))) rfl rfl rfl (Nat.le_of_ble_eq_true rfl) (Nat.le_of_ble_eq_true rfl) (Nat.le_of_ble_eq_true rfl) (g_c0 (g_lnI (g_lnI (g_lnI (g_lnI (g_lnI (g_lnI (g_lnI (g_lnI (g_lnI (g_lnI (g_lnI (g_lnI (g_lnI (g_lnI (g_lnI (g_lnI (g_lnI (g_lnI (g_lnI (g_lnI (g_lnI (g_lnI (g_lnI (g_lnI (g_lnI (g_lnI (g_lnI (g_lnI (g_lnI (g_lnI (g_lnI (g_lnI (g_lnI (g_lnI (g_lnI (g_lnI (g_lnI (g_lnI (g_lnI (g_lnI (g_lnI (g_lnI (g_lnI (g_lnI (g_lnI (g_lnI (g_lnI (g_lnI (g_lnI (g_lnI (g_lnI (g_lnI (g_lnI (g_lnI (g_lnI (g_lnI (g_lnI (g_lnI (g_lnI (g_lnI (g_lnI (g_lnI (g_lnI (g_lnI hpN))))))))))))))))))))))))))))))))))))))))))))))))))))))))))))))))) (Nat.le_of_ble_eq_true rfl) dX8_feed_33 ?_
  intro r h' hq _
  obtain ⟨rfl, rfl⟩ := hq
  refine go_aload_n (pc := 36) rfl dX8_feed_36 ?_
  refine go_iload (pc := 37) rfl dX8_feed_37 ?_
  refine go_invV (pc := 39) (sl := 0) (k21_X8_put l xs) mL_X8_155 iM_X8_put sM_X8_put (g_shI (g_shI (g_shI (g_shI (g_shI (g_shI (g_shI (g_shI (g_shI (g_shI (g_shI (g_shI (g_shI (g_shI (g_shI (g_shI (g_shI (g_shI (g_shI (g_shI (g_shI (g_shI (g_shI (g_shI (g_shI (g_shI (g_shI (g_shI (g_shI (g_shI (g_shI (g_shI (g_shI (g_shI (g_shI (g_shI (g_shI (g_shI (g_shI (g_shI (g_shI (g_shI (g_shI (g_shI (g_shI (g_shI (g_shI (g_shI (g_shI (g_shI (g_shI (g_shI (g_shI (g_shI (g_shI (g_shI (g_shI (g_shI (g_shI (g_shI (g_shI (g_shI (g_shI (g_shI (g_shI (g_shI (g_shI (g_shI (g_shI (g_shI (g_shI (g_shI (g_sh hpS rfl))))))))))))))))))))))))))))))))))))))))))))))))))))))))))))))))))))))))) rfl rfl rfl (Nat.le_of_ble_eq_true rfl) (Nat.le_of_ble_eq_true rfl) (Nat.le_of_ble_eq_true rfl) (g_c0 (g_lnI (g_lnI (g_lnI (g_lnI (g_lnI (g_lnI (g_lnI (g_lnI (g_lnI (g_lnI (g_lnI (g_lnI (g_lnI (g_lnI (g_lnI (g_lnI (g_lnI (g_lnI (g_lnI (g_lnI (g_lnI (g_lnI (g_lnI (g_lnI (g_lnI (g_lnI (g_lnI (g_lnI (g_lnI (g_lnI (g_lnI (g_lnI (g_lnI (g_lnI (g_lnI (g_lnI (g_lnI (g_lnI (g_lnI (g_lnI (g_lnI (g_lnI (g_lnI (g_lnI (g_lnI (g_lnI (g_lnI (g_lnI (g_lnI (g_lnI (g_lnI (g_lnI (g_lnI (g_lnI (g_lnI (g_lnI (g_lnI (g_lnI (g_lnI (g_lnI (g_lnI (g_lnI (g_lnI (g_lnI (g_lnI (g_lnI (g_lnI (g_lnI (g_lnI (g_lnI (g_lnI (g_lnI hpN))))))))))))))))))))))))))))))))))))))))))))))))))))))))))))))))))))))))) (Nat.le_of_ble_eq_true rfl) dX8_feed_39 ?_
  intro r h' hq _
  obtain ⟨rfl, rfl⟩ := hq
  refine go_aload_n (pc := 42) rfl dX8_feed_42 ?_
  refine go_getI (pc := 43) fL_X8_151 (g_shI (g_shI (g_shI (g_shI (g_shI (g_shI (g_shI (g_shI (g_shI (g_shI (g_shI (g_shI (g_shI (g_shI (g_shI (g_shI (g_shI (g_shI (g_shI (g_shI (g_shI (g_shI (g_shI (g_shI (g_shI (g_shI (g_shI (g_shI (g_shI (g_shI (g_shI (g_shI (g_shI (g_shI (g_shI (g_shI (g_shI (g_shI (g_shI (g_shI (g_shI (g_shI (g_shI (g_shI (g_shI (g_shI (g_shI (g_shI (g_shI (g_shI (g_shI (g_shI (g_shI (g_shI (g_shI (g_shI (g_shI (g_shI (g_shI (g_shI (g_shI (g_shI (g_shI (g_shI (g_shI (g_shI (g_shI (g_shI (g_shI (g_shI (g_shI (g_shI (g_shI (g_shI (g_shI (g_shI (g_shI (g_shI (g_shI (g_shI (g_sh hpS rfl))))))))))))))))))))))))))))))))))))))))))))))))))))))))))))))))))))))))))))))))) (Nat.le_of_ble_eq_true rfl) rfl dX8_feed_43 (go_topi (y := 20) g_iS ?_)
  exact go_iret (pc := 46) rfl (⟨rfl, rfl⟩) (g_lnI (g_lnI (g_lnI (g_lnI (g_lnI (g_lnI (g_lnI (g_lnI (g_lnI (g_lnI (g_lnI (g_lnI (g_lnI (g_lnI (g_lnI (g_lnI (g_lnI (g_lnI (g_lnI (g_lnI (g_lnI (g_lnI (g_lnI (g_lnI (g_lnI (g_lnI (g_lnI (g_lnI (g_lnI (g_lnI (g_lnI (g_lnI (g_lnI (g_lnI (g_lnI (g_lnI (g_lnI (g_lnI (g_lnI (g_lnI (g_lnI (g_lnI (g_lnI (g_lnI (g_lnI (g_lnI (g_lnI (g_lnI (g_lnI (g_lnI (g_lnI (g_lnI (g_lnI (g_lnI (g_lnI (g_lnI (g_lnI (g_lnI (g_lnI (g_lnI (g_lnI (g_lnI (g_lnI (g_lnI (g_lnI (g_lnI (g_lnI (g_lnI (g_lnI (g_lnI (g_lnI (g_lnI (g_lnI (g_lnI (g_lnI (g_lnI (g_lnI (g_lnI (g_lnI (g_lnI hpN)))))))))))))))))))))))))))))))))))))))))))))))))))))))))))))))))))))))))))))))) (Nat.le_of_ble_eq_true rfl) dX8_feed_46
set_option maxHeartbeats 4000000 in
set_option maxRecDepth 100000 in
theorem k23_X7_end (l : Launch) (xs : Nat → Int32) : Mt l yX7_end cX7_end 2 (some .boolean) 1 [.ref 0, .int (xs 1)] (hz10) 0 0 (fun r h' => ((xs 1) < 0 ∧ r = some (.int 0) ∧ h' = hz10) ∨ (¬ (xs 1) < 0 ∧ (xs 1) ≤ 0 ∧ r = some (.int 1) ∧ h' = hI hz10 0 1 (xs 1)) ∨ (¬ (xs 1) < 0 ∧ ¬ (xs 1) ≤ 0 ∧ r = some (.int 0) ∧ h' = hz10)) := by
  refine Mt_ofn 117 hpN (by decide) (Nat.le_of_ble_eq_true rfl) ?_
  show Go l RX7 cX7_end 2 (g_rm 1 0 0) "end" (some .boolean) 117 0 0 _ _ 0 0 [(0, .ref 0), (1, .int (xs 1))] [] (hz10)
  refine go_iload_n (pc := 0) rfl dX7_end_0 ?_
  refine go_if_lt (pc := 1) (tgt := 12) (by decide) dX7_end_1 (fun q1 => ?_) (fun q1 => ?_)
  ·
    refine go_iconst (pc := 12) (v := 0) (by decide) dX7_end_12 ?_
    exact go_iret (pc := 13) rfl (Or.inl ⟨q1, rfl, rfl⟩) hpN (Nat.le_of_ble_eq_true rfl) dX7_end_13
  ·
    refine go_iload_n (pc := 4) rfl dX7_end_4 ?_
    refine go_aload_n (pc := 5) rfl dX7_end_5 ?_
    refine go_getI (pc := 6) fL_X7_13 (g_sh hpS rfl) (Nat.le_of_ble_eq_true rfl) rfl dX7_end_6 (go_topi (y := 0) hpi_0_1 ?_)
    refine go_icmp_le (pc := 9) (tgt := 14) (by decide) dX7_end_9 (fun q2 => ?_) (fun q2 => ?_)
    ·
      refine go_aload_n (pc := 14) rfl dX7_end_14 ?_
      refine go_iload_n (pc := 15) rfl dX7_end_15 ?_
      refine go_putI (pc := 16) (fP_X7_13 _) (g_sh hpS rfl) (Nat.le_of_ble_eq_true rfl) rfl (fun _ => rfl) (fun _ => rfl) dX7_end_16 ?_
      refine go_iconst (pc := 19) (v := 1) (by decide) dX7_end_19 ?_
      exact go_iret (pc := 20) rfl (Or.inr (Or.inl ⟨q1, q2, rfl, rfl⟩)) (g_lnI hpN) (Nat.le_of_ble_eq_true rfl) dX7_end_20
    ·
      refine go_iconst (pc := 12) (v := 0) (by decide) dX7_end_12 ?_
      exact go_iret (pc := 13) rfl (Or.inr (Or.inr (⟨q1, q2, rfl, rfl⟩))) hpN (Nat.le_of_ble_eq_true rfl) dX7_end_13
set_option maxHeartbeats 4000000 in
set_option maxRecDepth 100000 in
theorem k24_X8_isIn (l : Launch) (xs : Nat → Int32) : Mt l yX8_isIn cX8_isIn 3 (some .boolean) 1 [.int (xs 1), .int 0, .int 0] (hz10) 0 0 (fun r h' => ((xs 1) < 0 ∧ r = some (.int 0) ∧ h' = hz10) ∨ (¬ (xs 1) < 0 ∧ 0 < (xs 1) ∧ r = some (.int 0) ∧ h' = hz10) ∨ (¬ (xs 1) < 0 ∧ ¬ 0 < (xs 1) ∧ r = some (.int 1) ∧ h' = hz10)) := by
  refine Mt_ofn 117 hpN (by decide) (Nat.le_of_ble_eq_true rfl) ?_
  show Go l RX8 cX8_isIn 3 (g_rm 1 0 0) "isIn" (some .boolean) 117 0 0 _ _ 0 0 [(0, .int (xs 1)), (1, .int 0), (2, .int 0)] [] (hz10)
  refine go_iload_n (pc := 0) rfl dX8_isIn_0 ?_
  refine go_iload_n (pc := 1) rfl dX8_isIn_1 ?_
  refine go_icmp_lt (pc := 2) (tgt := 14) (by decide) dX8_isIn_2 (fun q1 => ?_) (fun q1 => ?_)
  ·
    refine go_iconst (pc := 14) (v := 0) (by decide) dX8_isIn_14 ?_
    exact go_iret (pc := 15) rfl (Or.inl ⟨q1, rfl, rfl⟩) hpN (Nat.le_of_ble_eq_true rfl) dX8_isIn_15
  ·
    refine go_iload_n (pc := 5) rfl dX8_isIn_5 ?_
    refine go_iload_n (pc := 6) rfl dX8_isIn_6 ?_
    refine go_icmp_gt (pc := 7) (tgt := 14) (by decide) dX8_isIn_7 (fun q2 => ?_) (fun q2 => ?_)
    ·
      refine go_iconst (pc := 14) (v := 0) (by decide) dX8_isIn_14 ?_
      exact go_iret (pc := 15) rfl (Or.inr (Or.inl ⟨q1, q2, rfl, rfl⟩)) hpN (Nat.le_of_ble_eq_true rfl) dX8_isIn_15
    ·
      refine go_iconst (pc := 10) (v := 1) (by decide) dX8_isIn_10 ?_
      refine go_goto (pc := 11) (tgt := 15) (by decide) dX8_isIn_11 ?_
      exact go_iret (pc := 15) rfl (Or.inr (Or.inr (⟨q1, q2, rfl, rfl⟩))) hpN (Nat.le_of_ble_eq_true rfl) dX8_isIn_15
set_option maxHeartbeats 4000000 in
set_option maxRecDepth 100000 in
theorem k25_X8_end (l : Launch) (xs : Nat → Int32) : Mt l yX8_end cX8_end 2 (some .boolean) 2 [.ref 70, .int (xs 1)] (hz10) 0 0 (fun r h' => ((xs 1) < 0 ∧ r = some (.int 0) ∧ h' = hz10) ∨ (¬ (xs 1) < 0 ∧ 0 < (xs 1) ∧ r = some (.int 0) ∧ h' = hz10) ∨ (¬ (xs 1) < 0 ∧ ¬ 0 < (xs 1) ∧ r = some (.int 1) ∧ h' = hI hz10 70 2 (xs 1))) := by
  refine Mt_ofn 117 hpN (by decide) (Nat.le_of_ble_eq_true rfl) ?_
  show Go l RX8 cX8_end 2 (g_rm 2 0 0) "end" (some .boolean) 117 0 0 _ _ 0 0 [(0, .ref 70), (1, .int (xs 1))] [] (hz10)
  refine go_iload_n (pc := 0) rfl dX8_end_0 ?_
  refine go_iconst (pc := 1) (v := 0) (by decide) dX8_end_1 ?_
  refine go_aload_n (pc := 2) rfl dX8_end_2 ?_
  refine go_getI (pc := 3) fL_X8_151 (g_sh hpS rfl) (Nat.le_of_ble_eq_true rfl) rfl dX8_end_3 (go_topi (y := 0) hpi_70_2 ?_)
  refine go_invS (pc := 6) (sl := 0) (k24_X8_isIn l xs) mL_X8_159 iM_X8_isIn rfl rfl (Nat.le_of_ble_eq_true rfl) (Nat.le_of_ble_eq_true rfl) (Nat.le_of_ble_eq_true rfl) (g_c0 hpN) (Nat.le_of_ble_eq_true rfl) dX8_end_6 ?_
  intro r h' hq _
  rcases hq with ⟨q1, rfl, rfl⟩ | ⟨q1, q2, rfl, rfl⟩ | ⟨q1, q2, rfl, rfl⟩
  ·
    refine go_if_ne (pc := 9) (tgt := 14) (by decide) dX8_end_9 (fun q => absurd q (by decide)) (fun _ => ?_)
    refine go_iconst (pc := 12) (v := 0) (by decide) dX8_end_12 ?_
    exact go_iret (pc := 13) rfl (Or.inl ⟨q1, rfl, rfl⟩) hpN (Nat.le_of_ble_eq_true rfl) dX8_end_13
  ·
    refine go_if_ne (pc := 9) (tgt := 14) (by decide) dX8_end_9 (fun q => absurd q (by decide)) (fun _ => ?_)
    refine go_iconst (pc := 12) (v := 0) (by decide) dX8_end_12 ?_
    exact go_iret (pc := 13) rfl (Or.inr (Or.inl ⟨q1, q2, rfl, rfl⟩)) hpN (Nat.le_of_ble_eq_true rfl) dX8_end_13
  ·
    refine go_if_ne (pc := 9) (tgt := 14) (by decide) dX8_end_9 (fun _ => ?_) (fun q => absurd q (by decide))
    refine go_aload_n (pc := 14) rfl dX8_end_14 ?_
    refine go_iload_n (pc := 15) rfl dX8_end_15 ?_
    refine go_putI (pc := 16) (fP_X8_151 _) (g_sh hpS rfl) (Nat.le_of_ble_eq_true rfl) rfl (fun _ => rfl) (fun _ => rfl) dX8_end_16 ?_
    refine go_iconst (pc := 19) (v := 1) (by decide) dX8_end_19 ?_
    exact go_iret (pc := 20) rfl (Or.inr (Or.inr (⟨q1, q2, rfl, rfl⟩))) (g_lnI hpN) (Nat.le_of_ble_eq_true rfl) dX8_end_20
set_option maxHeartbeats 4000000 in
set_option maxRecDepth 100000 in
theorem k26_X8_isIn (l : Launch) (xs : Nat → Int32) : Mt l yX8_isIn cX8_isIn 3 (some .boolean) 1 [.int (xs 1), .int 0, .int 0] (hI hz10 0 1 (xs 1)) 0 0 (fun r h' => ((xs 1) < 0 ∧ r = some (.int 0) ∧ h' = hI hz10 0 1 (xs 1)) ∨ (¬ (xs 1) < 0 ∧ 0 < (xs 1) ∧ r = some (.int 0) ∧ h' = hI hz10 0 1 (xs 1)) ∨ (¬ (xs 1) < 0 ∧ ¬ 0 < (xs 1) ∧ r = some (.int 1) ∧ h' = hI hz10 0 1 (xs 1))) := by
  refine Mt_ofn 117 (g_lnI hpN) (by decide) (Nat.le_of_ble_eq_true rfl) ?_
  show Go l RX8 cX8_isIn 3 (g_rm 1 0 0) "isIn" (some .boolean) 117 0 0 _ _ 0 0 [(0, .int (xs 1)), (1, .int 0), (2, .int 0)] [] (hI hz10 0 1 (xs 1))
  refine go_iload_n (pc := 0) rfl dX8_isIn_0 ?_
  refine go_iload_n (pc := 1) rfl dX8_isIn_1 ?_
  refine go_icmp_lt (pc := 2) (tgt := 14) (by decide) dX8_isIn_2 (fun q1 => ?_) (fun q1 => ?_)
  ·
    refine go_iconst (pc := 14) (v := 0) (by decide) dX8_isIn_14 ?_
    exact go_iret (pc := 15) rfl (Or.inl ⟨q1, rfl, rfl⟩) (g_lnI hpN) (Nat.le_of_ble_eq_true rfl) dX8_isIn_15
  ·
    refine go_iload_n (pc := 5) rfl dX8_isIn_5 ?_
    refine go_iload_n (pc := 6) rfl dX8_isIn_6 ?_
    refine go_icmp_gt (pc := 7) (tgt := 14) (by decide) dX8_isIn_7 (fun q2 => ?_) (fun q2 => ?_)
    ·
      refine go_iconst (pc := 14) (v := 0) (by decide) dX8_isIn_14 ?_
      exact go_iret (pc := 15) rfl (Or.inr (Or.inl ⟨q1, q2, rfl, rfl⟩)) (g_lnI hpN) (Nat.le_of_ble_eq_true rfl) dX8_isIn_15
    ·
      refine go_iconst (pc := 10) (v := 1) (by decide) dX8_isIn_10 ?_
      refine go_goto (pc := 11) (tgt := 15) (by decide) dX8_isIn_11 ?_
      exact go_iret (pc := 15) rfl (Or.inr (Or.inr (⟨q1, q2, rfl, rfl⟩))) (g_lnI hpN) (Nat.le_of_ble_eq_true rfl) dX8_isIn_15
set_option maxHeartbeats 4000000 in
set_option maxRecDepth 100000 in
theorem k27_X8_end (l : Launch) (xs : Nat → Int32) : Mt l yX8_end cX8_end 2 (some .boolean) 2 [.ref 70, .int (xs 1)] (hI hz10 0 1 (xs 1)) 0 0 (fun r h' => ((xs 1) < 0 ∧ r = some (.int 0) ∧ h' = hI hz10 0 1 (xs 1)) ∨ (¬ (xs 1) < 0 ∧ 0 < (xs 1) ∧ r = some (.int 0) ∧ h' = hI hz10 0 1 (xs 1)) ∨ (¬ (xs 1) < 0 ∧ ¬ 0 < (xs 1) ∧ r = some (.int 1) ∧ h' = hI (hI hz10 0 1 (xs 1)) 70 2 (xs 1))) := by
  refine Mt_ofn 117 (g_lnI hpN) (by decide) (Nat.le_of_ble_eq_true rfl) ?_
  show Go l RX8 cX8_end 2 (g_rm 2 0 0) "end" (some .boolean) 117 0 0 _ _ 0 0 [(0, .ref 70), (1, .int (xs 1))] [] (hI hz10 0 1 (xs 1))
  refine go_iload_n (pc := 0) rfl dX8_end_0 ?_
  refine go_iconst (pc := 1) (v := 0) (by decide) dX8_end_1 ?_
  refine go_aload_n (pc := 2) rfl dX8_end_2 ?_
  refine go_getI (pc := 3) fL_X8_151 (g_shI (g_sh hpS rfl)) (Nat.le_of_ble_eq_true rfl) rfl dX8_end_3 (go_topi (y := 0) (g_iI rfl hpi_70_2) ?_)
  refine go_invS (pc := 6) (sl := 0) (k26_X8_isIn l xs) mL_X8_159 iM_X8_isIn rfl rfl (Nat.le_of_ble_eq_true rfl) (Nat.le_of_ble_eq_true rfl) (Nat.le_of_ble_eq_true rfl) (g_c0 (g_lnI hpN)) (Nat.le_of_ble_eq_true rfl) dX8_end_6 ?_
  intro r h' hq _
  rcases hq with ⟨q1, rfl, rfl⟩ | ⟨q1, q2, rfl, rfl⟩ | ⟨q1, q2, rfl, rfl⟩
  ·
    refine go_if_ne (pc := 9) (tgt := 14) (by decide) dX8_end_9 (fun q => absurd q (by decide)) (fun _ => ?_)
    refine go_iconst (pc := 12) (v := 0) (by decide) dX8_end_12 ?_
    exact go_iret (pc := 13) rfl (Or.inl ⟨q1, rfl, rfl⟩) (g_lnI hpN) (Nat.le_of_ble_eq_true rfl) dX8_end_13
  ·
    refine go_if_ne (pc := 9) (tgt := 14) (by decide) dX8_end_9 (fun q => absurd q (by decide)) (fun _ => ?_)
    refine go_iconst (pc := 12) (v := 0) (by decide) dX8_end_12 ?_
    exact go_iret (pc := 13) rfl (Or.inr (Or.inl ⟨q1, q2, rfl, rfl⟩)) (g_lnI hpN) (Nat.le_of_ble_eq_true rfl) dX8_end_13
  ·
    refine go_if_ne (pc := 9) (tgt := 14) (by decide) dX8_end_9 (fun _ => ?_) (fun q => absurd q (by decide))
    refine go_aload_n (pc := 14) rfl dX8_end_14 ?_
    refine go_iload_n (pc := 15) rfl dX8_end_15 ?_
    refine go_putI (pc := 16) (fP_X8_151 _) (g_shI (g_sh hpS rfl)) (Nat.le_of_ble_eq_true rfl) rfl (fun _ => rfl) (fun _ => rfl) dX8_end_16 ?_
    refine go_iconst (pc := 19) (v := 1) (by decide) dX8_end_19 ?_
    exact go_iret (pc := 20) rfl (Or.inr (Or.inr (⟨q1, q2, rfl, rfl⟩))) (g_lnI (g_lnI hpN)) (Nat.le_of_ble_eq_true rfl) dX8_end_20
set_option maxHeartbeats 4000000 in
set_option maxRecDepth 100000 in
theorem k28_X0_clear (l : Launch) : Mt l yX0_clear cX0_clear 1 none 1 [.ref 18] (hR (hI (hI (hI (hR (hI hz10 0 1 0) 34 0 (.ref 1)) 34 1 0) 34 2 0) 34 3 0) 34 4 (.ref 18)) 0 0 (fun r h' => r = none ∧ h' = hI (hI (hL (hI (hI (hR (hI (hI (hI (hR (hI hz10 0 1 0) 34 0 (.ref 1)) 34 1 0) 34 2 0) 34 3 0) 34 4 (.ref 18)) 18 0 0) 18 1 0) 18 2 0) 18 3 0) 18 4 0) := by
  refine Mt_ofn 117 (g_lnR (g_lnI (g_lnI (g_lnI (g_lnR (g_lnI hpN)))))) (by decide) (Nat.le_of_ble_eq_true rfl) ?_
  show Go l RX0 cX0_clear 1 (g_rm 1 0 0) "clear" none 117 0 0 _ _ 0 0 [(0, .ref 18)] [] (hR (hI (hI (hI (hR (hI hz10 0 1 0) 34 0 (.ref 1)) 34 1 0) 34 2 0) 34 3 0) 34 4 (.ref 18))
  refine go_aload_n (pc := 0) rfl dX0_clear_0 ?_
  refine go_iconst (pc := 1) (v := 0) (by decide) dX0_clear_1 ?_
  refine go_putI (pc := 2) (fP_X0_9 _) (g_shR (g_shI (g_shI (g_shI (g_shR (g_shI (g_sh hpS rfl))))))) (Nat.le_of_ble_eq_true rfl) rfl (fun _ => rfl) (fun _ => rfl) dX0_clear_2 ?_
  refine go_aload_n (pc := 5) rfl dX0_clear_5 ?_
  refine go_iconst (pc := 6) (v := 0) (by decide) dX0_clear_6 ?_
  refine go_putI (pc := 7) (fP_X0_15 _) (g_shI (g_shR (g_shI (g_shI (g_shI (g_shR (g_shI (g_sh hpS rfl)))))))) (Nat.le_of_ble_eq_true rfl) rfl (fun _ => rfl) (fun _ => rfl) dX0_clear_7 ?_
  refine go_aload_n (pc := 10) rfl dX0_clear_10 ?_
  refine go_lconst (pc := 11) (v := 0) (by decide) dX0_clear_11 ?_
  refine go_putL (pc := 12) (fP_X0_18 _) (g_shI (g_shI (g_shR (g_shI (g_shI (g_shI (g_shR (g_shI (g_sh hpS rfl))))))))) (Nat.le_of_ble_eq_true rfl) rfl (fun _ => rfl) (fun _ => rfl) dX0_clear_12 ?_
  refine go_aload_n (pc := 15) rfl dX0_clear_15 ?_
  refine go_iconst (pc := 16) (v := 0) (by decide) dX0_clear_16 ?_
  refine go_putI (pc := 17) (fP_X0_22 _) (g_shL (g_shI (g_shI (g_shR (g_shI (g_shI (g_shI (g_shR (g_shI (g_sh hpS rfl)))))))))) (Nat.le_of_ble_eq_true rfl) rfl (fun _ => rfl) (fun _ => rfl) dX0_clear_17 ?_
  refine go_aload_n (pc := 20) rfl dX0_clear_20 ?_
  refine go_iconst (pc := 21) (v := 0) (by decide) dX0_clear_21 ?_
  refine go_putI (pc := 22) (fP_X0_25 _) (g_shI (g_shL (g_shI (g_shI (g_shR (g_shI (g_shI (g_shI (g_shR (g_shI (g_sh hpS rfl))))))))))) (Nat.le_of_ble_eq_true rfl) rfl (fun _ => rfl) (fun _ => rfl) dX0_clear_22 ?_
  exact go_vret (pc := 25) (⟨rfl, rfl⟩) (g_lnI (g_lnI (g_lnL (g_lnI (g_lnI (g_lnR (g_lnI (g_lnI (g_lnI (g_lnR (g_lnI hpN))))))))))) (Nat.le_of_ble_eq_true rfl) dX0_clear_25
set_option maxHeartbeats 4000000 in
set_option maxRecDepth 100000 in
theorem k29_X3_start (l : Launch) : Mt l yX3_start cX3_start 4 none 2 [.ref 34, .ref 1, .int 0, .ref 18] (hI hz10 0 1 0) 0 0 (fun r h' => r = none ∧ h' = hI (hI (hI (hI (hL (hI (hI (hR (hI (hI (hI (hR (hI hz10 0 1 0) 34 0 (.ref 1)) 34 1 0) 34 2 0) 34 3 0) 34 4 (.ref 18)) 18 0 0) 18 1 0) 18 2 0) 18 3 0) 18 4 0) 36 0 0) 34 7 0) := by
  refine Mt_ofn 117 (g_lnI hpN) (by decide) (Nat.le_of_ble_eq_true rfl) ?_
  show Go l RX3 cX3_start 4 (g_rm 2 0 0) "start" none 117 0 0 _ _ 0 0 [(0, .ref 34), (1, .ref 1), (2, .int 0), (3, .ref 18)] [] (hI hz10 0 1 0)
  refine go_aload_n (pc := 0) rfl dX3_start_0 ?_
  refine go_aload_n (pc := 1) rfl dX3_start_1 ?_
  refine go_putR (pc := 2) (x := .ref 1) (fP_X3_9 _) (g_shI (g_sh hpS rfl)) (Nat.le_of_ble_eq_true rfl) rfl (fun _ => rfl) (fun _ => rfl) dX3_start_2 ?_
  refine go_aload_n (pc := 5) rfl dX3_start_5 ?_
  refine go_iload_n (pc := 6) rfl dX3_start_6 ?_
  refine go_aload_n (pc := 7) rfl dX3_start_7 ?_
  refine go_alen (pc := 8) (v := 500) (g_shR (g_shI (g_sh hpS rfl))) (by decide) (by decide) dX3_start_8 ?_
  refine go_mmin (pc := 9) mm_L (Nat.le_of_ble_eq_true rfl) (Nat.le_of_ble_eq_true rfl) (Nat.le_of_ble_eq_true rfl) (g_c1 (g_lnR (g_lnI hpN))) (Nat.le_of_ble_eq_true rfl) dX3_start_9 (go_topi (y := 0) (by decide) ?_)
  refine go_putI (pc := 12) (fP_X3_15 _) (g_shR (g_shI (g_sh hpS rfl))) (Nat.le_of_ble_eq_true rfl) rfl (fun _ => rfl) (fun _ => rfl) dX3_start_12 ?_
  refine go_aload_n (pc := 15) rfl dX3_start_15 ?_
  refine go_iconst (pc := 16) (v := 0) (by decide) dX3_start_16 ?_
  refine go_putI (pc := 17) (fP_X3_19 _) (g_shI (g_shR (g_shI (g_sh hpS rfl)))) (Nat.le_of_ble_eq_true rfl) rfl (fun _ => rfl) (fun _ => rfl) dX3_start_17 ?_
  refine go_aload_n (pc := 20) rfl dX3_start_20 ?_
  refine go_iconst (pc := 21) (v := 0) (by decide) dX3_start_21 ?_
  refine go_putI (pc := 22) (fP_X3_22 _) (g_shI (g_shI (g_shR (g_shI (g_sh hpS rfl))))) (Nat.le_of_ble_eq_true rfl) rfl (fun _ => rfl) (fun _ => rfl) dX3_start_22 ?_
  refine go_aload_n (pc := 25) rfl dX3_start_25 ?_
  refine go_aload_n (pc := 26) rfl dX3_start_26 ?_
  refine go_putR (pc := 27) (x := .ref 18) (fP_X3_46 _) (g_shI (g_shI (g_shI (g_shR (g_shI (g_sh hpS rfl)))))) (Nat.le_of_ble_eq_true rfl) rfl (fun _ => rfl) (fun _ => rfl) dX3_start_27 ?_
  refine go_aload_n (pc := 30) rfl dX3_start_30 ?_
  refine go_getR (pc := 31) (v := .ref 18) fL_X3_46 (g_shR (g_shI (g_shI (g_shI (g_shR (g_shI (g_sh hpS rfl))))))) (Nat.le_of_ble_eq_true rfl) rfl g_rS dX3_start_31 ?_
  refine go_invV (pc := 34) (sl := 0) (k28_X0_clear l) mL_X3_89 iM_X0_clear sM_X0_clear (g_shR (g_shI (g_shI (g_shI (g_shR (g_shI (g_sh hpS rfl))))))) rfl rfl rfl (Nat.le_of_ble_eq_true rfl) (Nat.le_of_ble_eq_true rfl) (Nat.le_of_ble_eq_true rfl) (g_c0 (g_lnR (g_lnI (g_lnI (g_lnI (g_lnR (g_lnI hpN))))))) (Nat.le_of_ble_eq_true rfl) dX3_start_34 ?_
  intro r h' hq _
  obtain ⟨rfl, rfl⟩ := hq
  refine go_aload_n (pc := 37) rfl dX3_start_37 ?_
  refine go_getR (pc := 38) (v := .ref 36) fL_X3_28 (g_shI (g_shI (g_shL (g_shI (g_shI (g_shR (g_shI (g_shI (g_shI (g_shR (g_shI (g_sh hpS rfl)))))))))))) (Nat.le_of_ble_eq_true rfl) rfl (g_rI (g_rI (g_rL (g_rI (g_rI (g_rR rfl (g_rI (g_rI (g_rI (g_rR rfl (g_rI hpr_34_5))))))))))) dX3_start_38 ?_
  refine go_iconst (pc := 41) (v := 0) (by decide) dX3_start_41 ?_
  refine go_putI (pc := 42) (fP_X3_94 _) (g_shI (g_shI (g_shL (g_shI (g_shI (g_shR (g_shI (g_shI (g_shI (g_shR (g_shI (g_sh hpS rfl)))))))))))) (Nat.le_of_ble_eq_true rfl) rfl (fun _ => rfl) (fun _ => rfl) dX3_start_42 ?_
  refine go_aload_n (pc := 45) rfl dX3_start_45 ?_
  refine go_iconst (pc := 46) (v := 0) (by decide) dX3_start_46 ?_
  refine go_putI (pc := 47) (fP_X3_32 _) (g_shI (g_shI (g_shI (g_shL (g_shI (g_shI (g_shR (g_shI (g_shI (g_shI (g_shR (g_shI (g_sh hpS rfl))))))))))))) (Nat.le_of_ble_eq_true rfl) rfl (fun _ => rfl) (fun _ => rfl) dX3_start_47 ?_
  exact go_vret (pc := 50) (⟨rfl, rfl⟩) (g_lnI (g_lnI (g_lnI (g_lnI (g_lnL (g_lnI (g_lnI (g_lnR (g_lnI (g_lnI (g_lnI (g_lnR (g_lnI hpN))))))))))))) (Nat.le_of_ble_eq_true rfl) dX3_start_50
set_option maxHeartbeats 4000000 in
set_option maxRecDepth 100000 in
theorem k30_X3_look (l : Launch) : Mt l yX3_look cX3_look 1 (some .int) 1 [.ref 34] (hI (hI (hI (hI (hL (hI (hI (hR (hI (hI (hI (hR (hI hz10 0 1 0) 34 0 (.ref 1)) 34 1 0) 34 2 0) 34 3 0) 34 4 (.ref 18)) 18 0 0) 18 1 0) 18 2 0) 18 3 0) 18 4 0) 36 0 0) 34 7 0) 0 0 (fun r h' => r = some (.int (-1)) ∧ h' = hI (hI (hI (hI (hL (hI (hI (hR (hI (hI (hI (hR (hI hz10 0 1 0) 34 0 (.ref 1)) 34 1 0) 34 2 0) 34 3 0) 34 4 (.ref 18)) 18 0 0) 18 1 0) 18 2 0) 18 3 0) 18 4 0) 36 0 0) 34 7 0) := by
  refine Mt_ofn 117 (g_lnI (g_lnI (g_lnI (g_lnI (g_lnL (g_lnI (g_lnI (g_lnR (g_lnI (g_lnI (g_lnI (g_lnR (g_lnI hpN))))))))))))) (by decide) (Nat.le_of_ble_eq_true rfl) ?_
  show Go l RX3 cX3_look 1 (g_rm 1 0 0) "look" (some .int) 117 0 0 _ _ 0 0 [(0, .ref 34)] [] (hI (hI (hI (hI (hL (hI (hI (hR (hI (hI (hI (hR (hI hz10 0 1 0) 34 0 (.ref 1)) 34 1 0) 34 2 0) 34 3 0) 34 4 (.ref 18)) 18 0 0) 18 1 0) 18 2 0) 18 3 0) 18 4 0) 36 0 0) 34 7 0)
  refine go_aload_n (pc := 0) rfl dX3_look_0 ?_
  refine go_getI (pc := 1) fL_X3_19 (g_shI (g_shI (g_shI (g_shI (g_shL (g_shI (g_shI (g_shR (g_shI (g_shI (g_shI (g_shR (g_shI (g_sh hpS rfl)))))))))))))) (Nat.le_of_ble_eq_true rfl) rfl dX3_look_1 (go_topi (y := 0) (g_iI rfl (g_iI rfl (g_iI rfl (g_iI rfl (g_iL (g_iI rfl (g_iI rfl (g_iR (g_iI rfl g_iS))))))))) ?_)
  refine go_aload_n (pc := 4) rfl dX3_look_4 ?_
  refine go_getI (pc := 5) fL_X3_15 (g_shI (g_shI (g_shI (g_shI (g_shL (g_shI (g_shI (g_shR (g_shI (g_shI (g_shI (g_shR (g_shI (g_sh hpS rfl)))))))))))))) (Nat.le_of_ble_eq_true rfl) rfl dX3_look_5 (go_topi (y := 0) (g_iI rfl (g_iI rfl (g_iI rfl (g_iI rfl (g_iL (g_iI rfl (g_iI rfl (g_iR (g_iI rfl (g_iI rfl g_iS)))))))))) ?_)
  refine go_icmp_ge (pc := 8) (tgt := 52) (by decide) dX3_look_8 (fun _ => ?_) (fun q => absurd q (by decide))
  refine go_aload_n (pc := 52) rfl dX3_look_52 ?_
  refine go_getI (pc := 53) fL_X3_19 (g_shI (g_shI (g_shI (g_shI (g_shL (g_shI (g_shI (g_shR (g_shI (g_shI (g_shI (g_shR (g_shI (g_sh hpS rfl)))))))))))))) (Nat.le_of_ble_eq_true rfl) rfl dX3_look_53 (go_topi (y := 0) (g_iI rfl (g_iI rfl (g_iI rfl (g_iI rfl (g_iL (g_iI rfl (g_iI rfl (g_iR (g_iI rfl g_iS))))))))) ?_)
  refine go_aload_n (pc := 56) rfl dX3_look_56 ?_
  refine go_getI (pc := 57) fL_X3_15 (g_shI (g_shI (g_shI (g_shI (g_shL (g_shI (g_shI (g_shR (g_shI (g_shI (g_shI (g_shR (g_shI (g_sh hpS rfl)))))))))))))) (Nat.le_of_ble_eq_true rfl) rfl dX3_look_57 (go_topi (y := 0) (g_iI rfl (g_iI rfl (g_iI rfl (g_iI rfl (g_iL (g_iI rfl (g_iI rfl (g_iR (g_iI rfl (g_iI rfl g_iS)))))))))) ?_)
  refine go_icmp_ge (pc := 60) (tgt := 79) (by decide) dX3_look_60 (fun _ => ?_) (fun q => absurd q (by decide))
  refine go_iconst (pc := 79) (v := (-1)) (by decide) dX3_look_79 ?_
  exact go_iret (pc := 80) rfl (⟨rfl, rfl⟩) (g_lnI (g_lnI (g_lnI (g_lnI (g_lnL (g_lnI (g_lnI (g_lnR (g_lnI (g_lnI (g_lnI (g_lnR (g_lnI hpN))))))))))))) (Nat.le_of_ble_eq_true rfl) dX3_look_80
set_option maxHeartbeats 4000000 in
set_option maxRecDepth 100000 in
theorem k31_X3_blame (l : Launch) : Mt l yX3_blame cX3_blame 3 none 1 [.ref 34, .int 1, .int 0] (hI (hI (hI (hI (hL (hI (hI (hR (hI (hI (hI (hR (hI hz10 0 1 0) 34 0 (.ref 1)) 34 1 0) 34 2 0) 34 3 0) 34 4 (.ref 18)) 18 0 0) 18 1 0) 18 2 0) 18 3 0) 18 4 0) 36 0 0) 34 7 0) 0 0 (fun r h' => r = none ∧ h' = hI (hI (hI (hI (hI (hL (hI (hI (hR (hI (hI (hI (hR (hI hz10 0 1 0) 34 0 (.ref 1)) 34 1 0) 34 2 0) 34 3 0) 34 4 (.ref 18)) 18 0 0) 18 1 0) 18 2 0) 18 3 0) 18 4 0) 36 0 0) 34 7 0) 34 3 1) := by
  refine Mt_ofn 117 (g_lnI (g_lnI (g_lnI (g_lnI (g_lnL (g_lnI (g_lnI (g_lnR (g_lnI (g_lnI (g_lnI (g_lnR (g_lnI hpN))))))))))))) (by decide) (Nat.le_of_ble_eq_true rfl) ?_
  show Go l RX3 cX3_blame 3 (g_rm 1 0 0) "blame" none 117 0 0 _ _ 0 0 [(0, .ref 34), (1, .int 1), (2, .int 0)] [] (hI (hI (hI (hI (hL (hI (hI (hR (hI (hI (hI (hR (hI hz10 0 1 0) 34 0 (.ref 1)) 34 1 0) 34 2 0) 34 3 0) 34 4 (.ref 18)) 18 0 0) 18 1 0) 18 2 0) 18 3 0) 18 4 0) 36 0 0) 34 7 0)
  refine go_aload_n (pc := 0) rfl dX3_blame_0 ?_
  refine go_getI (pc := 1) fL_X3_22 (g_shI (g_shI (g_shI (g_shI (g_shL (g_shI (g_shI (g_shR (g_shI (g_shI (g_shI (g_shR (g_shI (g_sh hpS rfl)))))))))))))) (Nat.le_of_ble_eq_true rfl) rfl dX3_blame_1 (go_topi (y := 0) (g_iI rfl (g_iI rfl (g_iI rfl (g_iI rfl (g_iL (g_iI rfl (g_iI rfl (g_iR g_iS)))))))) ?_)
  refine go_if_ne (pc := 4) (tgt := 17) (by decide) dX3_blame_4 (fun q => absurd q (by decide)) (fun _ => ?_)
  refine go_aload_n (pc := 7) rfl dX3_blame_7 ?_
  refine go_iload_n (pc := 8) rfl dX3_blame_8 ?_
  refine go_bipush (pc := 9) (v := 8) (by decide) dX3_blame_9 ?_
  refine go_iload_n (pc := 11) rfl dX3_blame_11 ?_
  refine go_imul (pc := 12) dX3_blame_12 (go_topi (y := 0) (by decide) ?_)
  refine go_iadd (pc := 13) dX3_blame_13 (go_topi (y := 1) (by decide) ?_)
  refine go_putI (pc := 14) (fP_X3_22 _) (g_shI (g_shI (g_shI (g_shI (g_shL (g_shI (g_shI (g_shR (g_shI (g_shI (g_shI (g_shR (g_shI (g_sh hpS rfl)))))))))))))) (Nat.le_of_ble_eq_true rfl) rfl (fun _ => rfl) (fun _ => rfl) dX3_blame_14 ?_
  exact go_vret (pc := 17) (⟨rfl, rfl⟩) (g_lnI (g_lnI (g_lnI (g_lnI (g_lnI (g_lnL (g_lnI (g_lnI (g_lnR (g_lnI (g_lnI (g_lnI (g_lnR (g_lnI hpN)))))))))))))) (Nat.le_of_ble_eq_true rfl) dX3_blame_17
set_option maxHeartbeats 4000000 in
set_option maxRecDepth 100000 in
theorem k32_X3_readProcedure (l : Launch) : Mt l yX3_readProcedure cX3_readProcedure 2 none 2 [.ref 34] (hI (hI (hI (hI (hL (hI (hI (hR (hI (hI (hI (hR (hI hz10 0 1 0) 34 0 (.ref 1)) 34 1 0) 34 2 0) 34 3 0) 34 4 (.ref 18)) 18 0 0) 18 1 0) 18 2 0) 18 3 0) 18 4 0) 36 0 0) 34 7 0) 0 0 (fun r h' => r = none ∧ h' = hI (hI (hI (hI (hI (hL (hI (hI (hR (hI (hI (hI (hR (hI hz10 0 1 0) 34 0 (.ref 1)) 34 1 0) 34 2 0) 34 3 0) 34 4 (.ref 18)) 18 0 0) 18 1 0) 18 2 0) 18 3 0) 18 4 0) 36 0 0) 34 7 0) 34 3 1) := by
  refine Mt_ofn 117 (g_lnI (g_lnI (g_lnI (g_lnI (g_lnL (g_lnI (g_lnI (g_lnR (g_lnI (g_lnI (g_lnI (g_lnR (g_lnI hpN))))))))))))) (by decide) (Nat.le_of_ble_eq_true rfl) ?_
  show Go l RX3 cX3_readProcedure 2 (g_rm 2 0 0) "readProcedure" none 117 0 0 _ _ 0 0 [(0, .ref 34)] [] (hI (hI (hI (hI (hL (hI (hI (hR (hI (hI (hI (hR (hI hz10 0 1 0) 34 0 (.ref 1)) 34 1 0) 34 2 0) 34 3 0) 34 4 (.ref 18)) 18 0 0) 18 1 0) 18 2 0) 18 3 0) 18 4 0) 36 0 0) 34 7 0)
  refine go_aload_n (pc := 0) rfl dX3_readProcedure_0 ?_
  refine go_invV (pc := 1) (sl := 0) (k30_X3_look l) mL_X3_66 iM_X3_look sM_X3_look (g_shI (g_shI (g_shI (g_shI (g_shL (g_shI (g_shI (g_shR (g_shI (g_shI (g_shI (g_shR (g_shI (g_sh hpS rfl)))))))))))))) rfl rfl rfl (Nat.le_of_ble_eq_true rfl) (Nat.le_of_ble_eq_true rfl) (Nat.le_of_ble_eq_true rfl) (g_c0 (g_lnI (g_lnI (g_lnI (g_lnI (g_lnL (g_lnI (g_lnI (g_lnR (g_lnI (g_lnI (g_lnI (g_lnR (g_lnI hpN)))))))))))))) (Nat.le_of_ble_eq_true rfl) dX3_readProcedure_1 ?_
  intro r h' hq _
  obtain ⟨rfl, rfl⟩ := hq
  refine go_istore_n (pc := 4) (Nat.le_of_ble_eq_true rfl) dX3_readProcedure_4 (go_lv (lv2 := [(0, .ref 34), (1, .int (-1))]) rfl ?_)
  refine go_iload_n (pc := 5) rfl dX3_readProcedure_5 ?_
  refine go_bipush (pc := 6) (v := 65) (by decide) dX3_readProcedure_6 ?_
  refine go_icmp_lt (pc := 8) (tgt := 17) (by decide) dX3_readProcedure_8 (fun _ => ?_) (fun q => absurd q (by decide))
  refine go_aload_n (pc := 17) rfl dX3_readProcedure_17 ?_
  refine go_iconst (pc := 18) (v := 1) (by decide) dX3_readProcedure_18 ?_
  refine go_aload_n (pc := 19) rfl dX3_readProcedure_19 ?_
  refine go_getI (pc := 20) fL_X3_19 (g_shI (g_shI (g_shI (g_shI (g_shL (g_shI (g_shI (g_shR (g_shI (g_shI (g_shI (g_shR (g_shI (g_sh hpS rfl)))))))))))))) (Nat.le_of_ble_eq_true rfl) rfl dX3_readProcedure_20 (go_topi (y := 0) (g_iI rfl (g_iI rfl (g_iI rfl (g_iI rfl (g_iL (g_iI rfl (g_iI rfl (g_iR (g_iI rfl g_iS))))))))) ?_)
  refine go_invV (pc := 23) (sl := 0) (k31_X3_blame l) mL_X3_101 iM_X3_blame sM_X3_blame (g_shI (g_shI (g_shI (g_shI (g_shL (g_shI (g_shI (g_shR (g_shI (g_shI (g_shI (g_shR (g_shI (g_sh hpS rfl)))))))))))))) rfl rfl rfl (Nat.le_of_ble_eq_true rfl) (Nat.le_of_ble_eq_true rfl) (Nat.le_of_ble_eq_true rfl) (g_c0 (g_lnI (g_lnI (g_lnI (g_lnI (g_lnL (g_lnI (g_lnI (g_lnR (g_lnI (g_lnI (g_lnI (g_lnR (g_lnI hpN)))))))))))))) (Nat.le_of_ble_eq_true rfl) dX3_readProcedure_23 ?_
  intro r h' hq _
  obtain ⟨rfl, rfl⟩ := hq
  refine go_goto (pc := 26) (tgt := 95) (by decide) dX3_readProcedure_26 ?_
  exact go_vret (pc := 95) (⟨rfl, rfl⟩) (g_lnI (g_lnI (g_lnI (g_lnI (g_lnI (g_lnL (g_lnI (g_lnI (g_lnR (g_lnI (g_lnI (g_lnI (g_lnR (g_lnI hpN)))))))))))))) (Nat.le_of_ble_eq_true rfl) dX3_readProcedure_95
set_option maxHeartbeats 4000000 in
set_option maxRecDepth 100000 in
theorem k33_X3_finish (l : Launch) : Mt l yX3_finish cX3_finish 1 none 1 [.ref 34] (hI (hI (hI (hI (hI (hL (hI (hI (hR (hI (hI (hI (hR (hI hz10 0 1 0) 34 0 (.ref 1)) 34 1 0) 34 2 0) 34 3 0) 34 4 (.ref 18)) 18 0 0) 18 1 0) 18 2 0) 18 3 0) 18 4 0) 36 0 0) 34 7 0) 34 3 1) 0 0 (fun r h' => r = none ∧ h' = hI (hI (hI (hI (hI (hL (hI (hI (hR (hI (hI (hI (hR (hI hz10 0 1 0) 34 0 (.ref 1)) 34 1 0) 34 2 0) 34 3 0) 34 4 (.ref 18)) 18 0 0) 18 1 0) 18 2 0) 18 3 0) 18 4 0) 36 0 0) 34 7 0) 34 3 1) := by
  refine Mt_ofn 117 (g_lnI (g_lnI (g_lnI (g_lnI (g_lnI (g_lnL (g_lnI (g_lnI (g_lnR (g_lnI (g_lnI (g_lnI (g_lnR (g_lnI hpN)))))))))))))) (by decide) (Nat.le_of_ble_eq_true rfl) ?_
  show Go l RX3 cX3_finish 1 (g_rm 1 0 0) "finish" none 117 0 0 _ _ 0 0 [(0, .ref 34)] [] (hI (hI (hI (hI (hI (hL (hI (hI (hR (hI (hI (hI (hR (hI hz10 0 1 0) 34 0 (.ref 1)) 34 1 0) 34 2 0) 34 3 0) 34 4 (.ref 18)) 18 0 0) 18 1 0) 18 2 0) 18 3 0) 18 4 0) 36 0 0) 34 7 0) 34 3 1)
  refine go_aload_n (pc := 0) rfl dX3_finish_0 ?_
  refine go_getI (pc := 1) fL_X3_22 (g_shI (g_shI (g_shI (g_shI (g_shI (g_shL (g_shI (g_shI (g_shR (g_shI (g_shI (g_shI (g_shR (g_shI (g_sh hpS rfl))))))))))))))) (Nat.le_of_ble_eq_true rfl) rfl dX3_finish_1 (go_topi (y := 1) g_iS ?_)
  refine go_if_eq (pc := 4) (tgt := 8) (by decide) dX3_finish_4 (fun q => absurd q (by decide)) (fun _ => ?_)
  exact go_vret (pc := 7) (⟨rfl, rfl⟩) (g_lnI (g_lnI (g_lnI (g_lnI (g_lnI (g_lnL (g_lnI (g_lnI (g_lnR (g_lnI (g_lnI (g_lnI (g_lnR (g_lnI hpN)))))))))))))) (Nat.le_of_ble_eq_true rfl) dX3_finish_7
set_option maxHeartbeats 4000000 in
set_option maxRecDepth 100000 in
theorem k34_X3_read (l : Launch) : Mt l yX3_read cX3_read 6 (some .int) 3 [.ref 34, .ref 1, .int 0, .ref 18] (hI hz10 0 1 0) 0 0 (fun r h' => r = some (.int 1) ∧ h' = hI (hI (hI (hI (hI (hL (hI (hI (hR (hI (hI (hI (hR (hI hz10 0 1 0) 34 0 (.ref 1)) 34 1 0) 34 2 0) 34 3 0) 34 4 (.ref 18)) 18 0 0) 18 1 0) 18 2 0) 18 3 0) 18 4 0) 36 0 0) 34 7 0) 34 3 1) := by
  refine Mt_ofn 117 (g_lnI hpN) (by decide) (Nat.le_of_ble_eq_true rfl) ?_
  show Go l RX3 cX3_read 6 (g_rm 3 0 0) "read" (some .int) 117 0 0 _ _ 0 0 [(0, .ref 34), (1, .ref 1), (2, .int 0), (3, .ref 18)] [] (hI hz10 0 1 0)
  refine go_aload_n (pc := 0) rfl dX3_read_0 ?_
  refine go_aload_n (pc := 1) rfl dX3_read_1 ?_
  refine go_iload_n (pc := 2) rfl dX3_read_2 ?_
  refine go_aload_n (pc := 3) rfl dX3_read_3 ?_
  refine go_invV (pc := 4) (sl := 0) (k29_X3_start l) mL_X3_59 iM_X3_start sM_X3_start (g_shI (g_sh hpS rfl)) rfl rfl rfl (Nat.le_of_ble_eq_true rfl) (Nat.le_of_ble_eq_true rfl) (Nat.le_of_ble_eq_true rfl) (g_c0 (g_lnI hpN)) (Nat.le_of_ble_eq_true rfl) dX3_read_4 ?_
  intro r h' hq _
  obtain ⟨rfl, rfl⟩ := hq
  refine go_aload_n (pc := 7) rfl dX3_read_7 ?_
  refine go_invV (pc := 8) (sl := 0) (k32_X3_readProcedure l) mL_X3_63 iM_X3_readProcedure sM_X3_readProcedure (g_shI (g_shI (g_shI (g_shI (g_shL (g_shI (g_shI (g_shR (g_shI (g_shI (g_shI (g_shR (g_shI (g_sh hpS rfl)))))))))))))) rfl rfl rfl (Nat.le_of_ble_eq_true rfl) (Nat.le_of_ble_eq_true rfl) (Nat.le_of_ble_eq_true rfl) (g_c0 (g_lnI (g_lnI (g_lnI (g_lnI (g_lnL (g_lnI (g_lnI (g_lnR (g_lnI (g_lnI (g_lnI (g_lnR (g_lnI hpN)))))))))))))) (Nat.le_of_ble_eq_true rfl) dX3_read_8 ?_
  intro r h' hq _
  obtain ⟨rfl, rfl⟩ := hq
  refine go_iconst (pc := 11) (v := 0) (by decide) dX3_read_11 ?_
  refine go_istore (pc := 12) (Nat.le_of_ble_eq_true rfl) dX3_read_12 (go_lv (lv2 := [(0, .ref 34), (1, .ref 1), (2, .int 0), (3, .ref 18), (4, .int 0)]) rfl ?_)
  refine go_iload (pc := 14) rfl dX3_read_14 ?_
  refine go_sipush (pc := 16) (v := 500) (by decide) dX3_read_16 ?_
  refine go_icmp_gt (pc := 19) (tgt := 105) (by decide) dX3_read_19 (fun q => absurd q (by decide)) (fun _ => ?_)
  refine go_aload_n (pc := 22) rfl dX3_read_22 ?_
  refine go_getI (pc := 23) fL_X3_22 (g_shI (g_shI (g_shI (g_shI (g_shI (g_shL (g_shI (g_shI (g_shR (g_shI (g_shI (g_shI (g_shR (g_shI (g_sh hpS rfl))))))))))))))) (Nat.le_of_ble_eq_true rfl) rfl dX3_read_23 (go_topi (y := 1) g_iS ?_)
  refine go_if_ne (pc := 26) (tgt := 105) (by decide) dX3_read_26 (fun _ => ?_) (fun q => absurd q (by decide))
  refine go_aload_n (pc := 105) rfl dX3_read_105 ?_
  refine go_invV (pc := 106) (sl := 0) (k33_X3_finish l) mL_X3_80 iM_X3_finish sM_X3_finish (g_shI (g_shI (g_shI (g_shI (g_shI (g_shL (g_shI (g_shI (g_shR (g_shI (g_shI (g_shI (g_shR (g_shI (g_sh hpS rfl))))))))))))))) rfl rfl rfl (Nat.le_of_ble_eq_true rfl) (Nat.le_of_ble_eq_true rfl) (Nat.le_of_ble_eq_true rfl) (g_c0 (g_lnI (g_lnI (g_lnI (g_lnI (g_lnI (g_lnL (g_lnI (g_lnI (g_lnR (g_lnI (g_lnI (g_lnI (g_lnR (g_lnI hpN))))))))))))))) (Nat.le_of_ble_eq_true rfl) dX3_read_106 ?_
  intro r h' hq _
  obtain ⟨rfl, rfl⟩ := hq
  refine go_aload_n (pc := 109) rfl dX3_read_109 ?_
  refine go_getI (pc := 110) fL_X3_22 (g_shI (g_shI (g_shI (g_shI (g_shI (g_shL (g_shI (g_shI (g_shR (g_shI (g_shI (g_shI (g_shR (g_shI (g_sh hpS rfl))))))))))))))) (Nat.le_of_ble_eq_true rfl) rfl dX3_read_110 (go_topi (y := 1) g_iS ?_)
  exact go_iret (pc := 113) rfl (⟨rfl, rfl⟩) (g_lnI (g_lnI (g_lnI (g_lnI (g_lnI (g_lnL (g_lnI (g_lnI (g_lnR (g_lnI (g_lnI (g_lnI (g_lnR (g_lnI hpN)))))))))))))) (Nat.le_of_ble_eq_true rfl) dX3_read_113
set_option maxHeartbeats 4000000 in
set_option maxRecDepth 100000 in
theorem k35_X7_program (l : Launch) : Mt l yX7_program cX7_program 3 (some .int) 4 [.ref 0] (hz10) 0 0 (fun r h' => r = some (.int (-2)) ∧ h' = hI (hI (hI (hI (hI (hI (hL (hI (hI (hR (hI (hI (hI (hR (hI hz10 0 1 0) 34 0 (.ref 1)) 34 1 0) 34 2 0) 34 3 0) 34 4 (.ref 18)) 18 0 0) 18 1 0) 18 2 0) 18 3 0) 18 4 0) 36 0 0) 34 7 0) 34 3 1) 0 2 1) := by
  refine Mt_ofn 117 hpN (by decide) (Nat.le_of_ble_eq_true rfl) ?_
  show Go l RX7 cX7_program 3 (g_rm 4 0 0) "program" (some .int) 117 0 0 _ _ 0 0 [(0, .ref 0)] [] (hz10)
  refine go_aload_n (pc := 0) rfl dX7_program_0 ?_
  refine go_getI (pc := 1) fL_X7_13 (g_sh hpS rfl) (Nat.le_of_ble_eq_true rfl) rfl dX7_program_1 (go_topi (y := 0) hpi_0_1 ?_)
  refine go_istore_n (pc := 4) (Nat.le_of_ble_eq_true rfl) dX7_program_4 (go_lv (lv2 := [(0, .ref 0), (1, .int 0)]) rfl ?_)
  refine go_aload_n (pc := 5) rfl dX7_program_5 ?_
  refine go_iconst (pc := 6) (v := 0) (by decide) dX7_program_6 ?_
  refine go_putI (pc := 7) (fP_X7_13 _) (g_sh hpS rfl) (Nat.le_of_ble_eq_true rfl) rfl (fun _ => rfl) (fun _ => rfl) dX7_program_7 ?_
  refine go_aload_n (pc := 10) rfl dX7_program_10 ?_
  refine go_aload_n (pc := 11) rfl dX7_program_11 ?_
  refine go_getR (pc := 12) (v := .ref 34) fL_X7_35 (g_shI (g_sh hpS rfl)) (Nat.le_of_ble_eq_true rfl) rfl (g_rI hpr_0_5) dX7_program_12 ?_
  refine go_aload_n (pc := 15) rfl dX7_program_15 ?_
  refine go_getR (pc := 16) (v := .ref 1) fL_X7_9 (g_shI (g_sh hpS rfl)) (Nat.le_of_ble_eq_true rfl) rfl (g_rI hpr_0_0) dX7_program_16 ?_
  refine go_iload_n (pc := 19) rfl dX7_program_19 ?_
  refine go_aload_n (pc := 20) rfl dX7_program_20 ?_
  refine go_getR (pc := 21) (v := .ref 18) fL_X7_27 (g_shI (g_sh hpS rfl)) (Nat.le_of_ble_eq_true rfl) rfl (g_rI hpr_0_4) dX7_program_21 ?_
  refine go_invV (pc := 24) (sl := 0) (k34_X3_read l) mL_X7_57 iM_X3_read sM_X3_read (g_shI (g_sh hpS rfl)) rfl rfl rfl (Nat.le_of_ble_eq_true rfl) (Nat.le_of_ble_eq_true rfl) (Nat.le_of_ble_eq_true rfl) (g_c0 (g_lnI hpN)) (Nat.le_of_ble_eq_true rfl) dX7_program_24 ?_
  intro r h' hq _
  obtain ⟨rfl, rfl⟩ := hq
  refine go_putI (pc := 27) (fP_X7_17 _) (g_shI (g_shI (g_shI (g_shI (g_shI (g_shL (g_shI (g_shI (g_shR (g_shI (g_shI (g_shI (g_shR (g_shI (g_sh hpS rfl))))))))))))))) (Nat.le_of_ble_eq_true rfl) rfl (fun _ => rfl) (fun _ => rfl) dX7_program_27 ?_
  refine go_aload_n (pc := 30) rfl dX7_program_30 ?_
  refine go_getI (pc := 31) fL_X7_17 (g_shI (g_shI (g_shI (g_shI (g_shI (g_shI (g_shL (g_shI (g_shI (g_shR (g_shI (g_shI (g_shI (g_shR (g_shI (g_sh hpS rfl)))))))))))))))) (Nat.le_of_ble_eq_true rfl) rfl dX7_program_31 (go_topi (y := 1) g_iS ?_)
  refine go_if_eq (pc := 34) (tgt := 40) (by decide) dX7_program_34 (fun q => absurd q (by decide)) (fun _ => ?_)
  refine go_bipush (pc := 37) (v := (-2)) (by decide) dX7_program_37 ?_
  exact go_iret (pc := 39) rfl (⟨rfl, rfl⟩) (g_lnI (g_lnI (g_lnI (g_lnI (g_lnI (g_lnI (g_lnL (g_lnI (g_lnI (g_lnR (g_lnI (g_lnI (g_lnI (g_lnR (g_lnI hpN))))))))))))))) (Nat.le_of_ble_eq_true rfl) dX7_program_39
set_option maxHeartbeats 4000000 in
set_option maxRecDepth 100000 in
theorem k36_X8_here (l : Launch) : Mt l yX8_here cX8_here 1 (some .int) 1 [.ref 70] (hI (hI (hI (hI (hI (hI (hI (hI (hI (hI (hI (hI (hI (hI (hI (hL (hI (hI (hR (hI (hI (hI (hR (hI hz10 0 1 0) 34 0 (.ref 1)) 34 1 0) 34 2 0) 34 3 0) 34 4 (.ref 18)) 18 0 0) 18 1 0) 18 2 0) 18 3 0) 18 4 0) 36 0 0) 34 7 0) 34 3 1) 0 2 1) 70 3 0) 70 2 0) 70 4 0) 70 5 0) 70 6 1) 73 1 0) 74 1 0) 75 1 0) 76 1 0) 0 0 (fun r h' => r = some (.int (-1)) ∧ h' = hI (hI (hI (hI (hI (hI (hI (hI (hI (hI (hI (hI (hI (hI (hI (hL (hI (hI (hR (hI (hI (hI (hR (hI hz10 0 1 0) 34 0 (.ref 1)) 34 1 0) 34 2 0) 34 3 0) 34 4 (.ref 18)) 18 0 0) 18 1 0) 18 2 0) 18 3 0) 18 4 0) 36 0 0) 34 7 0) 34 3 1) 0 2 1) 70 3 0) 70 2 0) 70 4 0) 70 5 0) 70 6 1) 73 1 0) 74 1 0) 75 1 0) 76 1 0) := by
  refine Mt_ofn 117 (g_lnI (g_lnI (g_lnI (g_lnI (g_lnI (g_lnI (g_lnI (g_lnI (g_lnI (g_lnI (g_lnI (g_lnI (g_lnI (g_lnI (g_lnI (g_lnL (g_lnI (g_lnI (g_lnR (g_lnI (g_lnI (g_lnI (g_lnR (g_lnI hpN)))))))))))))))))))))))) (by decide) (Nat.le_of_ble_eq_true rfl) ?_
  show Go l RX8 cX8_here 1 (g_rm 1 0 0) "here" (some .int) 117 0 0 _ _ 0 0 [(0, .ref 70)] [] (hI (hI (hI (hI (hI (hI (hI (hI (hI (hI (hI (hI (hI (hI (hI (hL (hI (hI (hR (hI (hI (hI (hR (hI hz10 0 1 0) 34 0 (.ref 1)) 34 1 0) 34 2 0) 34 3 0) 34 4 (.ref 18)) 18 0 0) 18 1 0) 18 2 0) 18 3 0) 18 4 0) 36 0 0) 34 7 0) 34 3 1) 0 2 1) 70 3 0) 70 2 0) 70 4 0) 70 5 0) 70 6 1) 73 1 0) 74 1 0) 75 1 0) 76 1 0)
  refine go_aload_n (pc := 0) rfl dX8_here_0 ?_
  refine go_getI (pc := 1) fL_X8_163 (g_shI (g_shI (g_shI (g_shI (g_shI (g_shI (g_shI (g_shI (g_shI (g_shI (g_shI (g_shI (g_shI (g_shI (g_shI (g_shL (g_shI (g_shI (g_shR (g_shI (g_shI (g_shI (g_shR (g_shI (g_sh hpS rfl))))))))))))))))))))))))) (Nat.le_of_ble_eq_true rfl) rfl dX8_here_1 (go_topi (y := 0) (g_iI rfl (g_iI rfl (g_iI rfl (g_iI rfl (g_iI rfl (g_iI rfl g_iS)))))) ?_)
  refine go_aload_n (pc := 4) rfl dX8_here_4 ?_
  refine go_getI (pc := 5) fL_X8_166 (g_shI (g_shI (g_shI (g_shI (g_shI (g_shI (g_shI (g_shI (g_shI (g_shI (g_shI (g_shI (g_shI (g_shI (g_shI (g_shL (g_shI (g_shI (g_shR (g_shI (g_shI (g_shI (g_shR (g_shI (g_sh hpS rfl))))))))))))))))))))))))) (Nat.le_of_ble_eq_true rfl) rfl dX8_here_5 (go_topi (y := 0) (g_iI rfl (g_iI rfl (g_iI rfl (g_iI rfl (g_iI rfl (g_iI rfl (g_iI rfl (g_iI rfl g_iS)))))))) ?_)
  refine go_icmp_ge (pc := 8) (tgt := 52) (by decide) dX8_here_8 (fun _ => ?_) (fun q => absurd q (by decide))
  refine go_aload_n (pc := 52) rfl dX8_here_52 ?_
  refine go_getI (pc := 53) fL_X8_163 (g_shI (g_shI (g_shI (g_shI (g_shI (g_shI (g_shI (g_shI (g_shI (g_shI (g_shI (g_shI (g_shI (g_shI (g_shI (g_shL (g_shI (g_shI (g_shR (g_shI (g_shI (g_shI (g_shR (g_shI (g_sh hpS rfl))))))))))))))))))))))))) (Nat.le_of_ble_eq_true rfl) rfl dX8_here_53 (go_topi (y := 0) (g_iI rfl (g_iI rfl (g_iI rfl (g_iI rfl (g_iI rfl (g_iI rfl g_iS)))))) ?_)
  refine go_aload_n (pc := 56) rfl dX8_here_56 ?_
  refine go_getI (pc := 57) fL_X8_166 (g_shI (g_shI (g_shI (g_shI (g_shI (g_shI (g_shI (g_shI (g_shI (g_shI (g_shI (g_shI (g_shI (g_shI (g_shI (g_shL (g_shI (g_shI (g_shR (g_shI (g_shI (g_shI (g_shR (g_shI (g_sh hpS rfl))))))))))))))))))))))))) (Nat.le_of_ble_eq_true rfl) rfl dX8_here_57 (go_topi (y := 0) (g_iI rfl (g_iI rfl (g_iI rfl (g_iI rfl (g_iI rfl (g_iI rfl (g_iI rfl (g_iI rfl g_iS)))))))) ?_)
  refine go_icmp_ge (pc := 60) (tgt := 79) (by decide) dX8_here_60 (fun _ => ?_) (fun q => absurd q (by decide))
  refine go_iconst (pc := 79) (v := (-1)) (by decide) dX8_here_79 ?_
  exact go_iret (pc := 80) rfl (⟨rfl, rfl⟩) (g_lnI (g_lnI (g_lnI (g_lnI (g_lnI (g_lnI (g_lnI (g_lnI (g_lnI (g_lnI (g_lnI (g_lnI (g_lnI (g_lnI (g_lnI (g_lnL (g_lnI (g_lnI (g_lnR (g_lnI (g_lnI (g_lnI (g_lnR (g_lnI hpN)))))))))))))))))))))))) (Nat.le_of_ble_eq_true rfl) dX8_here_80
set_option maxHeartbeats 4000000 in
set_option maxRecDepth 100000 in
theorem k37_X8_isIn (l : Launch) : Mt l yX8_isIn cX8_isIn 3 (some .boolean) 1 [.int (-1), .int 65, .int 90] (hI (hI (hI (hI (hI (hI (hI (hI (hI (hI (hI (hI (hI (hI (hI (hL (hI (hI (hR (hI (hI (hI (hR (hI hz10 0 1 0) 34 0 (.ref 1)) 34 1 0) 34 2 0) 34 3 0) 34 4 (.ref 18)) 18 0 0) 18 1 0) 18 2 0) 18 3 0) 18 4 0) 36 0 0) 34 7 0) 34 3 1) 0 2 1) 70 3 0) 70 2 0) 70 4 0) 70 5 0) 70 6 1) 73 1 0) 74 1 0) 75 1 0) 76 1 0) 0 0 (fun r h' => r = some (.int 0) ∧ h' = hI (hI (hI (hI (hI (hI (hI (hI (hI (hI (hI (hI (hI (hI (hI (hL (hI (hI (hR (hI (hI (hI (hR (hI hz10 0 1 0) 34 0 (.ref 1)) 34 1 0) 34 2 0) 34 3 0) 34 4 (.ref 18)) 18 0 0) 18 1 0) 18 2 0) 18 3 0) 18 4 0) 36 0 0) 34 7 0) 34 3 1) 0 2 1) 70 3 0) 70 2 0) 70 4 0) 70 5 0) 70 6 1) 73 1 0) 74 1 0) 75 1 0) 76 1 0) := by
  refine Mt_ofn 117 (g_lnI (g_lnI (g_lnI (g_lnI (g_lnI (g_lnI (g_lnI (g_lnI (g_lnI (g_lnI (g_lnI (g_lnI (g_lnI (g_lnI (g_lnI (g_lnL (g_lnI (g_lnI (g_lnR (g_lnI (g_lnI (g_lnI (g_lnR (g_lnI hpN)))))))))))))))))))))))) (by decide) (Nat.le_of_ble_eq_true rfl) ?_
  show Go l RX8 cX8_isIn 3 (g_rm 1 0 0) "isIn" (some .boolean) 117 0 0 _ _ 0 0 [(0, .int (-1)), (1, .int 65), (2, .int 90)] [] (hI (hI (hI (hI (hI (hI (hI (hI (hI (hI (hI (hI (hI (hI (hI (hL (hI (hI (hR (hI (hI (hI (hR (hI hz10 0 1 0) 34 0 (.ref 1)) 34 1 0) 34 2 0) 34 3 0) 34 4 (.ref 18)) 18 0 0) 18 1 0) 18 2 0) 18 3 0) 18 4 0) 36 0 0) 34 7 0) 34 3 1) 0 2 1) 70 3 0) 70 2 0) 70 4 0) 70 5 0) 70 6 1) 73 1 0) 74 1 0) 75 1 0) 76 1 0)
  refine go_iload_n (pc := 0) rfl dX8_isIn_0 ?_
  refine go_iload_n (pc := 1) rfl dX8_isIn_1 ?_
  refine go_icmp_lt (pc := 2) (tgt := 14) (by decide) dX8_isIn_2 (fun _ => ?_) (fun q => absurd q (by decide))
  refine go_iconst (pc := 14) (v := 0) (by decide) dX8_isIn_14 ?_
  exact go_iret (pc := 15) rfl (⟨rfl, rfl⟩) (g_lnI (g_lnI (g_lnI (g_lnI (g_lnI (g_lnI (g_lnI (g_lnI (g_lnI (g_lnI (g_lnI (g_lnI (g_lnI (g_lnI (g_lnI (g_lnL (g_lnI (g_lnI (g_lnR (g_lnI (g_lnI (g_lnI (g_lnR (g_lnI hpN)))))))))))))))))))))))) (Nat.le_of_ble_eq_true rfl) dX8_isIn_15
set_option maxHeartbeats 4000000 in
set_option maxRecDepth 100000 in
theorem k38_X8_fails (l : Launch) : Mt l yX8_fails cX8_fails 2 none 1 [.ref 70, .int 1] (hI (hI (hI (hI (hI (hI (hI (hI (hI (hI (hI (hI (hI (hI (hI (hL (hI (hI (hR (hI (hI (hI (hR (hI hz10 0 1 0) 34 0 (.ref 1)) 34 1 0) 34 2 0) 34 3 0) 34 4 (.ref 18)) 18 0 0) 18 1 0) 18 2 0) 18 3 0) 18 4 0) 36 0 0) 34 7 0) 34 3 1) 0 2 1) 70 3 0) 70 2 0) 70 4 0) 70 5 0) 70 6 1) 73 1 0) 74 1 0) 75 1 0) 76 1 0) 0 0 (fun r h' => r = none ∧ h' = hI (hI (hI (hI (hI (hI (hI (hI (hI (hI (hI (hI (hI (hI (hI (hI (hL (hI (hI (hR (hI (hI (hI (hR (hI hz10 0 1 0) 34 0 (.ref 1)) 34 1 0) 34 2 0) 34 3 0) 34 4 (.ref 18)) 18 0 0) 18 1 0) 18 2 0) 18 3 0) 18 4 0) 36 0 0) 34 7 0) 34 3 1) 0 2 1) 70 3 0) 70 2 0) 70 4 0) 70 5 0) 70 6 1) 73 1 0) 74 1 0) 75 1 0) 76 1 0) 70 5 1) := by
  refine Mt_ofn 117 (g_lnI (g_lnI (g_lnI (g_lnI (g_lnI (g_lnI (g_lnI (g_lnI (g_lnI (g_lnI (g_lnI (g_lnI (g_lnI (g_lnI (g_lnI (g_lnL (g_lnI (g_lnI (g_lnR (g_lnI (g_lnI (g_lnI (g_lnR (g_lnI hpN)))))))))))))))))))))))) (by decide) (Nat.le_of_ble_eq_true rfl) ?_
  show Go l RX8 cX8_fails 2 (g_rm 1 0 0) "fails" none 117 0 0 _ _ 0 0 [(0, .ref 70), (1, .int 1)] [] (hI (hI (hI (hI (hI (hI (hI (hI (hI (hI (hI (hI (hI (hI (hI (hL (hI (hI (hR (hI (hI (hI (hR (hI hz10 0 1 0) 34 0 (.ref 1)) 34 1 0) 34 2 0) 34 3 0) 34 4 (.ref 18)) 18 0 0) 18 1 0) 18 2 0) 18 3 0) 18 4 0) 36 0 0) 34 7 0) 34 3 1) 0 2 1) 70 3 0) 70 2 0) 70 4 0) 70 5 0) 70 6 1) 73 1 0) 74 1 0) 75 1 0) 76 1 0)
  refine go_aload_n (pc := 0) rfl dX8_fails_0 ?_
  refine go_getI (pc := 1) fL_X8_169 (g_shI (g_shI (g_shI (g_shI (g_shI (g_shI (g_shI (g_shI (g_shI (g_shI (g_shI (g_shI (g_shI (g_shI (g_shI (g_shL (g_shI (g_shI (g_shR (g_shI (g_shI (g_shI (g_shR (g_shI (g_sh hpS rfl))))))))))))))))))))))))) (Nat.le_of_ble_eq_true rfl) rfl dX8_fails_1 (go_topi (y := 0) (g_iI rfl (g_iI rfl (g_iI rfl (g_iI rfl (g_iI rfl g_iS))))) ?_)
  refine go_if_ne (pc := 4) (tgt := 20) (by decide) dX8_fails_4 (fun q => absurd q (by decide)) (fun _ => ?_)
  refine go_aload_n (pc := 7) rfl dX8_fails_7 ?_
  refine go_iload_n (pc := 8) rfl dX8_fails_8 ?_
  refine go_bipush (pc := 9) (v := 8) (by decide) dX8_fails_9 ?_
  refine go_aload_n (pc := 11) rfl dX8_fails_11 ?_
  refine go_getI (pc := 12) fL_X8_163 (g_shI (g_shI (g_shI (g_shI (g_shI (g_shI (g_shI (g_shI (g_shI (g_shI (g_shI (g_shI (g_shI (g_shI (g_shI (g_shL (g_shI (g_shI (g_shR (g_shI (g_shI (g_shI (g_shR (g_shI (g_sh hpS rfl))))))))))))))))))))))))) (Nat.le_of_ble_eq_true rfl) rfl dX8_fails_12 (go_topi (y := 0) (g_iI rfl (g_iI rfl (g_iI rfl (g_iI rfl (g_iI rfl (g_iI rfl g_iS)))))) ?_)
  refine go_imul (pc := 15) dX8_fails_15 (go_topi (y := 0) (by decide) ?_)
  refine go_iadd (pc := 16) dX8_fails_16 (go_topi (y := 1) (by decide) ?_)
  refine go_putI (pc := 17) (fP_X8_169 _) (g_shI (g_shI (g_shI (g_shI (g_shI (g_shI (g_shI (g_shI (g_shI (g_shI (g_shI (g_shI (g_shI (g_shI (g_shI (g_shL (g_shI (g_shI (g_shR (g_shI (g_shI (g_shI (g_shR (g_shI (g_sh hpS rfl))))))))))))))))))))))))) (Nat.le_of_ble_eq_true rfl) rfl (fun _ => rfl) (fun _ => rfl) dX8_fails_17 ?_
  exact go_vret (pc := 20) (⟨rfl, rfl⟩) (g_lnI (g_lnI (g_lnI (g_lnI (g_lnI (g_lnI (g_lnI (g_lnI (g_lnI (g_lnI (g_lnI (g_lnI (g_lnI (g_lnI (g_lnI (g_lnI (g_lnL (g_lnI (g_lnI (g_lnR (g_lnI (g_lnI (g_lnI (g_lnR (g_lnI hpN))))))))))))))))))))))))) (Nat.le_of_ble_eq_true rfl) dX8_fails_20
set_option maxHeartbeats 4000000 in
set_option maxRecDepth 100000 in
theorem k39_X8_isGood (l : Launch) : Mt l yX8_isGood cX8_isGood 1 (some .boolean) 1 [.ref 70] (hI (hI (hI (hI (hI (hI (hI (hI (hI (hI (hI (hI (hI (hI (hI (hI (hL (hI (hI (hR (hI (hI (hI (hR (hI hz10 0 1 0) 34 0 (.ref 1)) 34 1 0) 34 2 0) 34 3 0) 34 4 (.ref 18)) 18 0 0) 18 1 0) 18 2 0) 18 3 0) 18 4 0) 36 0 0) 34 7 0) 34 3 1) 0 2 1) 70 3 0) 70 2 0) 70 4 0) 70 5 0) 70 6 1) 73 1 0) 74 1 0) 75 1 0) 76 1 0) 70 5 1) 0 0 (fun r h' => r = some (.int 0) ∧ h' = hI (hI (hI (hI (hI (hI (hI (hI (hI (hI (hI (hI (hI (hI (hI (hI (hL (hI (hI (hR (hI (hI (hI (hR (hI hz10 0 1 0) 34 0 (.ref 1)) 34 1 0) 34 2 0) 34 3 0) 34 4 (.ref 18)) 18 0 0) 18 1 0) 18 2 0) 18 3 0) 18 4 0) 36 0 0) 34 7 0) 34 3 1) 0 2 1) 70 3 0) 70 2 0) 70 4 0) 70 5 0) 70 6 1) 73 1 0) 74 1 0) 75 1 0) 76 1 0) 70 5 1) := by
  refine Mt_ofn 117 (g_lnI (g_lnI (g_lnI (g_lnI (g_lnI (g_lnI (g_lnI (g_lnI (g_lnI (g_lnI (g_lnI (g_lnI (g_lnI (g_lnI (g_lnI (g_lnI (g_lnL (g_lnI (g_lnI (g_lnR (g_lnI (g_lnI (g_lnI (g_lnR (g_lnI hpN))))))))))))))))))))))))) (by decide) (Nat.le_of_ble_eq_true rfl) ?_
  show Go l RX8 cX8_isGood 1 (g_rm 1 0 0) "isGood" (some .boolean) 117 0 0 _ _ 0 0 [(0, .ref 70)] [] (hI (hI (hI (hI (hI (hI (hI (hI (hI (hI (hI (hI (hI (hI (hI (hI (hL (hI (hI (hR (hI (hI (hI (hR (hI hz10 0 1 0) 34 0 (.ref 1)) 34 1 0) 34 2 0) 34 3 0) 34 4 (.ref 18)) 18 0 0) 18 1 0) 18 2 0) 18 3 0) 18 4 0) 36 0 0) 34 7 0) 34 3 1) 0 2 1) 70 3 0) 70 2 0) 70 4 0) 70 5 0) 70 6 1) 73 1 0) 74 1 0) 75 1 0) 76 1 0) 70 5 1)
  refine go_aload_n (pc := 0) rfl dX8_isGood_0 ?_
  refine go_getI (pc := 1) fL_X8_169 (g_shI (g_shI (g_shI (g_shI (g_shI (g_shI (g_shI (g_shI (g_shI (g_shI (g_shI (g_shI (g_shI (g_shI (g_shI (g_shI (g_shL (g_shI (g_shI (g_shR (g_shI (g_shI (g_shI (g_shR (g_shI (g_sh hpS rfl)))))))))))))))))))))))))) (Nat.le_of_ble_eq_true rfl) rfl dX8_isGood_1 (go_topi (y := 1) g_iS ?_)
  refine go_if_ne (pc := 4) (tgt := 11) (by decide) dX8_isGood_4 (fun _ => ?_) (fun q => absurd q (by decide))
  refine go_iconst (pc := 11) (v := 0) (by decide) dX8_isGood_11 ?_
  exact go_iret (pc := 12) rfl (⟨rfl, rfl⟩) (g_lnI (g_lnI (g_lnI (g_lnI (g_lnI (g_lnI (g_lnI (g_lnI (g_lnI (g_lnI (g_lnI (g_lnI (g_lnI (g_lnI (g_lnI (g_lnI (g_lnL (g_lnI (g_lnI (g_lnR (g_lnI (g_lnI (g_lnI (g_lnR (g_lnI hpN))))))))))))))))))))))))) (Nat.le_of_ble_eq_true rfl) dX8_isGood_12
set_option maxHeartbeats 4000000 in
set_option maxRecDepth 100000 in
theorem k40_X8_readAll (l : Launch) : Mt l yX8_readAll cX8_readAll 3 none 2 [.ref 70] (hI (hI (hI (hI (hI (hI (hI (hI (hI (hI (hI (hI (hI (hI (hI (hL (hI (hI (hR (hI (hI (hI (hR (hI hz10 0 1 0) 34 0 (.ref 1)) 34 1 0) 34 2 0) 34 3 0) 34 4 (.ref 18)) 18 0 0) 18 1 0) 18 2 0) 18 3 0) 18 4 0) 36 0 0) 34 7 0) 34 3 1) 0 2 1) 70 3 0) 70 2 0) 70 4 0) 70 5 0) 70 6 1) 73 1 0) 74 1 0) 75 1 0) 76 1 0) 0 0 (fun r h' => r = none ∧ h' = hI (hI (hI (hI (hI (hI (hI (hI (hI (hI (hI (hI (hI (hI (hI (hI (hL (hI (hI (hR (hI (hI (hI (hR (hI hz10 0 1 0) 34 0 (.ref 1)) 34 1 0) 34 2 0) 34 3 0) 34 4 (.ref 18)) 18 0 0) 18 1 0) 18 2 0) 18 3 0) 18 4 0) 36 0 0) 34 7 0) 34 3 1) 0 2 1) 70 3 0) 70 2 0) 70 4 0) 70 5 0) 70 6 1) 73 1 0) 74 1 0) 75 1 0) 76 1 0) 70 5 1) := by
  refine Mt_ofn 117 (g_lnI (g_lnI (g_lnI (g_lnI (g_lnI (g_lnI (g_lnI (g_lnI (g_lnI (g_lnI (g_lnI (g_lnI (g_lnI (g_lnI (g_lnI (g_lnL (g_lnI (g_lnI (g_lnR (g_lnI (g_lnI (g_lnI (g_lnR (g_lnI hpN)))))))))))))))))))))))) (by decide) (Nat.le_of_ble_eq_true rfl) ?_
  show Go l RX8 cX8_readAll 3 (g_rm 2 0 0) "readAll" none 117 0 0 _ _ 0 0 [(0, .ref 70)] [] (hI (hI (hI (hI (hI (hI (hI (hI (hI (hI (hI (hI (hI (hI (hI (hL (hI (hI (hR (hI (hI (hI (hR (hI hz10 0 1 0) 34 0 (.ref 1)) 34 1 0) 34 2 0) 34 3 0) 34 4 (.ref 18)) 18 0 0) 18 1 0) 18 2 0) 18 3 0) 18 4 0) 36 0 0) 34 7 0) 34 3 1) 0 2 1) 70 3 0) 70 2 0) 70 4 0) 70 5 0) 70 6 1) 73 1 0) 74 1 0) 75 1 0) 76 1 0)
  refine go_aload_n (pc := 0) rfl dX8_readAll_0 ?_
  refine go_invV (pc := 1) (sl := 0) (k36_X8_here l) mL_X8_176 iM_X8_here sM_X8_here (g_shI (g_shI (g_shI (g_shI (g_shI (g_shI (g_shI (g_shI (g_shI (g_shI (g_shI (g_shI (g_shI (g_shI (g_shI (g_shL (g_shI (g_shI (g_shR (g_shI (g_shI (g_shI (g_shR (g_shI (g_sh hpS rfl))))))))))))))))))))))))) rfl rfl rfl (Nat.le_of_ble_eq_true rfl) (Nat.le_of_ble_eq_true rfl) (Nat.le_of_ble_eq_true rfl) (g_c0 (g_lnI (g_lnI (g_lnI (g_lnI (g_lnI (g_lnI (g_lnI (g_lnI (g_lnI (g_lnI (g_lnI (g_lnI (g_lnI (g_lnI (g_lnI (g_lnL (g_lnI (g_lnI (g_lnR (g_lnI (g_lnI (g_lnI (g_lnR (g_lnI hpN))))))))))))))))))))))))) (Nat.le_of_ble_eq_true rfl) dX8_readAll_1 ?_
  intro r h' hq _
  obtain ⟨rfl, rfl⟩ := hq
  refine go_istore_n (pc := 4) (Nat.le_of_ble_eq_true rfl) dX8_readAll_4 (go_lv (lv2 := [(0, .ref 70), (1, .int (-1))]) rfl ?_)
  refine go_iload_n (pc := 5) rfl dX8_readAll_5 ?_
  refine go_bipush (pc := 6) (v := 65) (by decide) dX8_readAll_6 ?_
  refine go_bipush (pc := 8) (v := 90) (by decide) dX8_readAll_8 ?_
  refine go_invS (pc := 10) (sl := 0) (k37_X8_isIn l) mL_X8_159 iM_X8_isIn rfl rfl (Nat.le_of_ble_eq_true rfl) (Nat.le_of_ble_eq_true rfl) (Nat.le_of_ble_eq_true rfl) (g_c0 (g_lnI (g_lnI (g_lnI (g_lnI (g_lnI (g_lnI (g_lnI (g_lnI (g_lnI (g_lnI (g_lnI (g_lnI (g_lnI (g_lnI (g_lnI (g_lnL (g_lnI (g_lnI (g_lnR (g_lnI (g_lnI (g_lnI (g_lnR (g_lnI hpN))))))))))))))))))))))))) (Nat.le_of_ble_eq_true rfl) dX8_readAll_10 ?_
  intro r h' hq _
  obtain ⟨rfl, rfl⟩ := hq
  refine go_if_ne (pc := 13) (tgt := 24) (by decide) dX8_readAll_13 (fun q => absurd q (by decide)) (fun _ => ?_)
  refine go_aload_n (pc := 16) rfl dX8_readAll_16 ?_
  refine go_iconst (pc := 17) (v := 1) (by decide) dX8_readAll_17 ?_
  refine go_invV (pc := 18) (sl := 0) (k38_X8_fails l) mL_X8_180 iM_X8_fails sM_X8_fails (g_shI (g_shI (g_shI (g_shI (g_shI (g_shI (g_shI (g_shI (g_shI (g_shI (g_shI (g_shI (g_shI (g_shI (g_shI (g_shL (g_shI (g_shI (g_shR (g_shI (g_shI (g_shI (g_shR (g_shI (g_sh hpS rfl))))))))))))))))))))))))) rfl rfl rfl (Nat.le_of_ble_eq_true rfl) (Nat.le_of_ble_eq_true rfl) (Nat.le_of_ble_eq_true rfl) (g_c0 (g_lnI (g_lnI (g_lnI (g_lnI (g_lnI (g_lnI (g_lnI (g_lnI (g_lnI (g_lnI (g_lnI (g_lnI (g_lnI (g_lnI (g_lnI (g_lnL (g_lnI (g_lnI (g_lnR (g_lnI (g_lnI (g_lnI (g_lnR (g_lnI hpN))))))))))))))))))))))))) (Nat.le_of_ble_eq_true rfl) dX8_readAll_18 ?_
  intro r h' hq _
  obtain ⟨rfl, rfl⟩ := hq
  refine go_goto (pc := 21) (tgt := 58) (by decide) dX8_readAll_21 ?_
  refine go_aload_n (pc := 58) rfl dX8_readAll_58 ?_
  refine go_invV (pc := 59) (sl := 0) (k39_X8_isGood l) mL_X8_172 iM_X8_isGood sM_X8_isGood (g_shI (g_shI (g_shI (g_shI (g_shI (g_shI (g_shI (g_shI (g_shI (g_shI (g_shI (g_shI (g_shI (g_shI (g_shI (g_shI (g_shL (g_shI (g_shI (g_shR (g_shI (g_shI (g_shI (g_shR (g_shI (g_sh hpS rfl)))))))))))))))))))))))))) rfl rfl rfl (Nat.le_of_ble_eq_true rfl) (Nat.le_of_ble_eq_true rfl) (Nat.le_of_ble_eq_true rfl) (g_c0 (g_lnI (g_lnI (g_lnI (g_lnI (g_lnI (g_lnI (g_lnI (g_lnI (g_lnI (g_lnI (g_lnI (g_lnI (g_lnI (g_lnI (g_lnI (g_lnI (g_lnL (g_lnI (g_lnI (g_lnR (g_lnI (g_lnI (g_lnI (g_lnR (g_lnI hpN)))))))))))))))))))))))))) (Nat.le_of_ble_eq_true rfl) dX8_readAll_59 ?_
  intro r h' hq _
  obtain ⟨rfl, rfl⟩ := hq
  refine go_if_ne (pc := 62) (tgt := 66) (by decide) dX8_readAll_62 (fun q => absurd q (by decide)) (fun _ => ?_)
  exact go_vret (pc := 65) (⟨rfl, rfl⟩) (g_lnI (g_lnI (g_lnI (g_lnI (g_lnI (g_lnI (g_lnI (g_lnI (g_lnI (g_lnI (g_lnI (g_lnI (g_lnI (g_lnI (g_lnI (g_lnI (g_lnL (g_lnI (g_lnI (g_lnR (g_lnI (g_lnI (g_lnI (g_lnR (g_lnI hpN))))))))))))))))))))))))) (Nat.le_of_ble_eq_true rfl) dX8_readAll_65
set_option maxHeartbeats 4000000 in
set_option maxRecDepth 100000 in
theorem k41_X8_program (l : Launch) : Mt l yX8_program cX8_program 2 (some .int) 3 [.ref 70] (hI (hI (hI (hI (hI (hI (hL (hI (hI (hR (hI (hI (hI (hR (hI hz10 0 1 0) 34 0 (.ref 1)) 34 1 0) 34 2 0) 34 3 0) 34 4 (.ref 18)) 18 0 0) 18 1 0) 18 2 0) 18 3 0) 18 4 0) 36 0 0) 34 7 0) 34 3 1) 0 2 1) 0 0 (fun r h' => r = some (.int (-2)) ∧ h' = hI (hI (hI (hI (hI (hI (hI (hI (hI (hI (hI (hI (hI (hI (hI (hI (hL (hI (hI (hR (hI (hI (hI (hR (hI hz10 0 1 0) 34 0 (.ref 1)) 34 1 0) 34 2 0) 34 3 0) 34 4 (.ref 18)) 18 0 0) 18 1 0) 18 2 0) 18 3 0) 18 4 0) 36 0 0) 34 7 0) 34 3 1) 0 2 1) 70 3 0) 70 2 0) 70 4 0) 70 5 0) 70 6 1) 73 1 0) 74 1 0) 75 1 0) 76 1 0) 70 5 1) := by
  refine Mt_ofn 117 (g_lnI (g_lnI (g_lnI (g_lnI (g_lnI (g_lnI (g_lnL (g_lnI (g_lnI (g_lnR (g_lnI (g_lnI (g_lnI (g_lnR (g_lnI hpN))))))))))))))) (by decide) (Nat.le_of_ble_eq_true rfl) ?_
  show Go l RX8 cX8_program 2 (g_rm 3 0 0) "program" (some .int) 117 0 0 _ _ 0 0 [(0, .ref 70)] [] (hI (hI (hI (hI (hI (hI (hL (hI (hI (hR (hI (hI (hI (hR (hI hz10 0 1 0) 34 0 (.ref 1)) 34 1 0) 34 2 0) 34 3 0) 34 4 (.ref 18)) 18 0 0) 18 1 0) 18 2 0) 18 3 0) 18 4 0) 36 0 0) 34 7 0) 34 3 1) 0 2 1)
  refine go_aload_n (pc := 0) rfl dX8_program_0 ?_
  refine go_aload_n (pc := 1) rfl dX8_program_1 ?_
  refine go_getI (pc := 2) fL_X8_151 (g_shI (g_shI (g_shI (g_shI (g_shI (g_shI (g_shL (g_shI (g_shI (g_shR (g_shI (g_shI (g_shI (g_shR (g_shI (g_sh hpS rfl)))))))))))))))) (Nat.le_of_ble_eq_true rfl) rfl dX8_program_2 (go_topi (y := 0) (g_iI rfl (g_iI rfl (g_iI rfl (g_iI rfl (g_iI rfl (g_iI rfl (g_iL (g_iI rfl (g_iI rfl (g_iR (g_iI rfl (g_iI rfl (g_iI rfl (g_iR (g_iI rfl hpi_70_2))))))))))))))) ?_)
  refine go_putI (pc := 5) (fP_X8_166 _) (g_shI (g_shI (g_shI (g_shI (g_shI (g_shI (g_shL (g_shI (g_shI (g_shR (g_shI (g_shI (g_shI (g_shR (g_shI (g_sh hpS rfl)))))))))))))))) (Nat.le_of_ble_eq_true rfl) rfl (fun _ => rfl) (fun _ => rfl) dX8_program_5 ?_
  refine go_iconst (pc := 8) (v := 0) (by decide) dX8_program_8 ?_
  refine go_istore_n (pc := 9) (Nat.le_of_ble_eq_true rfl) dX8_program_9 (go_lv (lv2 := [(0, .ref 70), (1, .int 0)]) rfl ?_)
  refine go_iload_n (pc := 10) rfl dX8_program_10 ?_
  refine go_aload_n (pc := 11) rfl dX8_program_11 ?_
  refine go_getI (pc := 12) fL_X8_166 (g_shI (g_shI (g_shI (g_shI (g_shI (g_shI (g_shI (g_shL (g_shI (g_shI (g_shR (g_shI (g_shI (g_shI (g_shR (g_shI (g_sh hpS rfl))))))))))))))))) (Nat.le_of_ble_eq_true rfl) rfl dX8_program_12 (go_topi (y := 0) g_iS ?_)
  refine go_icmp_ge (pc := 15) (tgt := 36) (by decide) dX8_program_15 (fun _ => ?_) (fun q => absurd q (by decide))
  refine go_aload_n (pc := 36) rfl dX8_program_36 ?_
  refine go_iconst (pc := 37) (v := 0) (by decide) dX8_program_37 ?_
  refine go_putI (pc := 38) (fP_X8_151 _) (g_shI (g_shI (g_shI (g_shI (g_shI (g_shI (g_shI (g_shL (g_shI (g_shI (g_shR (g_shI (g_shI (g_shI (g_shR (g_shI (g_sh hpS rfl))))))))))))))))) (Nat.le_of_ble_eq_true rfl) rfl (fun _ => rfl) (fun _ => rfl) dX8_program_38 ?_
  refine go_aload_n (pc := 41) rfl dX8_program_41 ?_
  refine go_iconst (pc := 42) (v := 0) (by decide) dX8_program_42 ?_
  refine go_putI (pc := 43) (fP_X8_163 _) (g_shI (g_shI (g_shI (g_shI (g_shI (g_shI (g_shI (g_shI (g_shL (g_shI (g_shI (g_shR (g_shI (g_shI (g_shI (g_shR (g_shI (g_sh hpS rfl)))))))))))))))))) (Nat.le_of_ble_eq_true rfl) rfl (fun _ => rfl) (fun _ => rfl) dX8_program_43 ?_
  refine go_aload_n (pc := 46) rfl dX8_program_46 ?_
  refine go_iconst (pc := 47) (v := 0) (by decide) dX8_program_47 ?_
  refine go_putI (pc := 48) (fP_X8_169 _) (g_shI (g_shI (g_shI (g_shI (g_shI (g_shI (g_shI (g_shI (g_shI (g_shL (g_shI (g_shI (g_shR (g_shI (g_shI (g_shI (g_shR (g_shI (g_sh hpS rfl))))))))))))))))))) (Nat.le_of_ble_eq_true rfl) rfl (fun _ => rfl) (fun _ => rfl) dX8_program_48 ?_
  refine go_aload_n (pc := 51) rfl dX8_program_51 ?_
  refine go_iconst (pc := 52) (v := 1) (by decide) dX8_program_52 ?_
  refine go_aload_n (pc := 53) rfl dX8_program_53 ?_
  refine go_getI (pc := 54) fL_X8_228 (g_shI (g_shI (g_shI (g_shI (g_shI (g_shI (g_shI (g_shI (g_shI (g_shI (g_shL (g_shI (g_shI (g_shR (g_shI (g_shI (g_shI (g_shR (g_shI (g_sh hpS rfl)))))))))))))))))))) (Nat.le_of_ble_eq_true rfl) rfl dX8_program_54 (go_topi (y := 0) (g_iI rfl (g_iI rfl (g_iI rfl (g_iI rfl (g_iI rfl (g_iI rfl (g_iI rfl (g_iI rfl (g_iI rfl (g_iI rfl (g_iL (g_iI rfl (g_iI rfl (g_iR (g_iI rfl (g_iI rfl (g_iI rfl (g_iR (g_iI rfl hpi_70_29))))))))))))))))))) ?_)
  refine go_isub (pc := 57) dX8_program_57 (go_topi (y := 1) (by decide) ?_)
  refine go_putI (pc := 58) (fP_X8_187 _) (g_shI (g_shI (g_shI (g_shI (g_shI (g_shI (g_shI (g_shI (g_shI (g_shI (g_shL (g_shI (g_shI (g_shR (g_shI (g_shI (g_shI (g_shR (g_shI (g_sh hpS rfl)))))))))))))))))))) (Nat.le_of_ble_eq_true rfl) rfl (fun _ => rfl) (fun _ => rfl) dX8_program_58 ?_
  refine go_aload_n (pc := 61) rfl dX8_program_61 ?_
  refine go_getR (pc := 62) (v := .ref 73) fL_X8_16 (g_shI (g_shI (g_shI (g_shI (g_shI (g_shI (g_shI (g_shI (g_shI (g_shI (g_shI (g_shL (g_shI (g_shI (g_shR (g_shI (g_shI (g_shI (g_shR (g_shI (g_sh hpS rfl))))))))))))))))))))) (Nat.le_of_ble_eq_true rfl) rfl (g_rI (g_rI (g_rI (g_rI (g_rI (g_rI (g_rI (g_rI (g_rI (g_rI (g_rI (g_rL (g_rI (g_rI (g_rR rfl (g_rI (g_rI (g_rI (g_rR rfl (g_rI hpr_70_7)))))))))))))))))))) dX8_program_62 ?_
  refine go_aload_n (pc := 65) rfl dX8_program_65 ?_
  refine go_getI (pc := 66) fL_X8_187 (g_shI (g_shI (g_shI (g_shI (g_shI (g_shI (g_shI (g_shI (g_shI (g_shI (g_shI (g_shL (g_shI (g_shI (g_shR (g_shI (g_shI (g_shI (g_shR (g_shI (g_sh hpS rfl))))))))))))))))))))) (Nat.le_of_ble_eq_true rfl) rfl dX8_program_66 (go_topi (y := 1) g_iS ?_)
  refine go_iconst (pc := 69) (v := 0) (by decide) dX8_program_69 ?_
  refine go_iastj (pc := 70) (j := 1) (g_shI (g_shI (g_shI (g_shI (g_shI (g_shI (g_shI (g_shI (g_shI (g_shI (g_shI (g_shL (g_shI (g_shI (g_shR (g_shI (g_shI (g_shI (g_shR (g_shI (g_sh hpS rfl))))))))))))))))))))) (by decide +kernel) (by decide +kernel) dX8_program_70 ?_
  refine go_aload_n (pc := 71) rfl dX8_program_71 ?_
  refine go_getR (pc := 72) (v := .ref 74) fL_X8_20 (g_shI (g_shI (g_shI (g_shI (g_shI (g_shI (g_shI (g_shI (g_shI (g_shI (g_shI (g_shI (g_shL (g_shI (g_shI (g_shR (g_shI (g_shI (g_shI (g_shR (g_shI (g_sh hpS rfl)))))))))))))))))))))) (Nat.le_of_ble_eq_true rfl) rfl (g_rI (g_rI (g_rI (g_rI (g_rI (g_rI (g_rI (g_rI (g_rI (g_rI (g_rI (g_rI (g_rL (g_rI (g_rI (g_rR rfl (g_rI (g_rI (g_rI (g_rR rfl (g_rI hpr_70_8))))))))))))))))))))) dX8_program_72 ?_
  refine go_aload_n (pc := 75) rfl dX8_program_75 ?_
  refine go_getI (pc := 76) fL_X8_187 (g_shI (g_shI (g_shI (g_shI (g_shI (g_shI (g_shI (g_shI (g_shI (g_shI (g_shI (g_shI (g_shL (g_shI (g_shI (g_shR (g_shI (g_shI (g_shI (g_shR (g_shI (g_sh hpS rfl)))))))))))))))))))))) (Nat.le_of_ble_eq_true rfl) rfl dX8_program_76 (go_topi (y := 1) (g_iI rfl g_iS) ?_)
  refine go_iconst (pc := 79) (v := 0) (by decide) dX8_program_79 ?_
  refine go_iastj (pc := 80) (j := 1) (g_shI (g_shI (g_shI (g_shI (g_shI (g_shI (g_shI (g_shI (g_shI (g_shI (g_shI (g_shI (g_shL (g_shI (g_shI (g_shR (g_shI (g_shI (g_shI (g_shR (g_shI (g_sh hpS rfl)))))))))))))))))))))) (by decide +kernel) (by decide +kernel) dX8_program_80 ?_
  refine go_aload_n (pc := 81) rfl dX8_program_81 ?_
  refine go_getR (pc := 82) (v := .ref 75) fL_X8_23 (g_shI (g_shI (g_shI (g_shI (g_shI (g_shI (g_shI (g_shI (g_shI (g_shI (g_shI (g_shI (g_shI (g_shL (g_shI (g_shI (g_shR (g_shI (g_shI (g_shI (g_shR (g_shI (g_sh hpS rfl))))))))))))))))))))))) (Nat.le_of_ble_eq_true rfl) rfl (g_rI (g_rI (g_rI (g_rI (g_rI (g_rI (g_rI (g_rI (g_rI (g_rI (g_rI (g_rI (g_rI (g_rL (g_rI (g_rI (g_rR rfl (g_rI (g_rI (g_rI (g_rR rfl (g_rI hpr_70_9)))))))))))))))))))))) dX8_program_82 ?_
  refine go_aload_n (pc := 85) rfl dX8_program_85 ?_
  refine go_getI (pc := 86) fL_X8_187 (g_shI (g_shI (g_shI (g_shI (g_shI (g_shI (g_shI (g_shI (g_shI (g_shI (g_shI (g_shI (g_shI (g_shL (g_shI (g_shI (g_shR (g_shI (g_shI (g_shI (g_shR (g_shI (g_sh hpS rfl))))))))))))))))))))))) (Nat.le_of_ble_eq_true rfl) rfl dX8_program_86 (go_topi (y := 1) (g_iI rfl (g_iI rfl g_iS)) ?_)
  refine go_iconst (pc := 89) (v := 0) (by decide) dX8_program_89 ?_
  refine go_iastj (pc := 90) (j := 1) (g_shI (g_shI (g_shI (g_shI (g_shI (g_shI (g_shI (g_shI (g_shI (g_shI (g_shI (g_shI (g_shI (g_shL (g_shI (g_shI (g_shR (g_shI (g_shI (g_shI (g_shR (g_shI (g_sh hpS rfl))))))))))))))))))))))) (by decide +kernel) (by decide +kernel) dX8_program_90 ?_
  refine go_aload_n (pc := 91) rfl dX8_program_91 ?_
  refine go_getR (pc := 92) (v := .ref 76) fL_X8_26 (g_shI (g_shI (g_shI (g_shI (g_shI (g_shI (g_shI (g_shI (g_shI (g_shI (g_shI (g_shI (g_shI (g_shI (g_shL (g_shI (g_shI (g_shR (g_shI (g_shI (g_shI (g_shR (g_shI (g_sh hpS rfl)))))))))))))))))))))))) (Nat.le_of_ble_eq_true rfl) rfl (g_rI (g_rI (g_rI (g_rI (g_rI (g_rI (g_rI (g_rI (g_rI (g_rI (g_rI (g_rI (g_rI (g_rI (g_rL (g_rI (g_rI (g_rR rfl (g_rI (g_rI (g_rI (g_rR rfl (g_rI hpr_70_10))))))))))))))))))))))) dX8_program_92 ?_
  refine go_aload_n (pc := 95) rfl dX8_program_95 ?_
  refine go_getI (pc := 96) fL_X8_187 (g_shI (g_shI (g_shI (g_shI (g_shI (g_shI (g_shI (g_shI (g_shI (g_shI (g_shI (g_shI (g_shI (g_shI (g_shL (g_shI (g_shI (g_shR (g_shI (g_shI (g_shI (g_shR (g_shI (g_sh hpS rfl)))))))))))))))))))))))) (Nat.le_of_ble_eq_true rfl) rfl dX8_program_96 (go_topi (y := 1) (g_iI rfl (g_iI rfl (g_iI rfl g_iS))) ?_)
  refine go_iconst (pc := 99) (v := 0) (by decide) dX8_program_99 ?_
  refine go_iastj (pc := 100) (j := 1) (g_shI (g_shI (g_shI (g_shI (g_shI (g_shI (g_shI (g_shI (g_shI (g_shI (g_shI (g_shI (g_shI (g_shI (g_shL (g_shI (g_shI (g_shR (g_shI (g_shI (g_shI (g_shR (g_shI (g_sh hpS rfl)))))))))))))))))))))))) (by decide +kernel) (by decide +kernel) dX8_program_100 ?_
  refine go_aload_n (pc := 101) rfl dX8_program_101 ?_
  refine go_invV (pc := 102) (sl := 0) (k40_X8_readAll l) mL_X8_231 iM_X8_readAll sM_X8_readAll (g_shI (g_shI (g_shI (g_shI (g_shI (g_shI (g_shI (g_shI (g_shI (g_shI (g_shI (g_shI (g_shI (g_shI (g_shI (g_shL (g_shI (g_shI (g_shR (g_shI (g_shI (g_shI (g_shR (g_shI (g_sh hpS rfl))))))))))))))))))))))))) rfl rfl rfl (Nat.le_of_ble_eq_true rfl) (Nat.le_of_ble_eq_true rfl) (Nat.le_of_ble_eq_true rfl) (g_c0 (g_lnI (g_lnI (g_lnI (g_lnI (g_lnI (g_lnI (g_lnI (g_lnI (g_lnI (g_lnI (g_lnI (g_lnI (g_lnI (g_lnI (g_lnI (g_lnL (g_lnI (g_lnI (g_lnR (g_lnI (g_lnI (g_lnI (g_lnR (g_lnI hpN))))))))))))))))))))))))) (Nat.le_of_ble_eq_true rfl) dX8_program_102 ?_
  intro r h' hq _
  obtain ⟨rfl, rfl⟩ := hq
  refine go_aload_n (pc := 105) rfl dX8_program_105 ?_
  refine go_invV (pc := 106) (sl := 0) (k39_X8_isGood l) mL_X8_172 iM_X8_isGood sM_X8_isGood (g_shI (g_shI (g_shI (g_shI (g_shI (g_shI (g_shI (g_shI (g_shI (g_shI (g_shI (g_shI (g_shI (g_shI (g_shI (g_shI (g_shL (g_shI (g_shI (g_shR (g_shI (g_shI (g_shI (g_shR (g_shI (g_sh hpS rfl)))))))))))))))))))))))))) rfl rfl rfl (Nat.le_of_ble_eq_true rfl) (Nat.le_of_ble_eq_true rfl) (Nat.le_of_ble_eq_true rfl) (g_c0 (g_lnI (g_lnI (g_lnI (g_lnI (g_lnI (g_lnI (g_lnI (g_lnI (g_lnI (g_lnI (g_lnI (g_lnI (g_lnI (g_lnI (g_lnI (g_lnI (g_lnL (g_lnI (g_lnI (g_lnR (g_lnI (g_lnI (g_lnI (g_lnR (g_lnI hpN)))))))))))))))))))))))))) (Nat.le_of_ble_eq_true rfl) dX8_program_106 ?_
  intro r h' hq _
  obtain ⟨rfl, rfl⟩ := hq
  refine go_if_eq (pc := 109) (tgt := 124) (by decide) dX8_program_109 (fun _ => ?_) (fun q => absurd q (by decide))
  refine go_aload_n (pc := 124) rfl dX8_program_124 ?_
  refine go_invV (pc := 125) (sl := 0) (k39_X8_isGood l) mL_X8_172 iM_X8_isGood sM_X8_isGood (g_shI (g_shI (g_shI (g_shI (g_shI (g_shI (g_shI (g_shI (g_shI (g_shI (g_shI (g_shI (g_shI (g_shI (g_shI (g_shI (g_shL (g_shI (g_shI (g_shR (g_shI (g_shI (g_shI (g_shR (g_shI (g_sh hpS rfl)))))))))))))))))))))))))) rfl rfl rfl (Nat.le_of_ble_eq_true rfl) (Nat.le_of_ble_eq_true rfl) (Nat.le_of_ble_eq_true rfl) (g_c0 (g_lnI (g_lnI (g_lnI (g_lnI (g_lnI (g_lnI (g_lnI (g_lnI (g_lnI (g_lnI (g_lnI (g_lnI (g_lnI (g_lnI (g_lnI (g_lnI (g_lnL (g_lnI (g_lnI (g_lnR (g_lnI (g_lnI (g_lnI (g_lnR (g_lnI hpN)))))))))))))))))))))))))) (Nat.le_of_ble_eq_true rfl) dX8_program_125 ?_
  intro r h' hq _
  obtain ⟨rfl, rfl⟩ := hq
  refine go_if_eq (pc := 128) (tgt := 205) (by decide) dX8_program_128 (fun _ => ?_) (fun q => absurd q (by decide))
  refine go_aload_n (pc := 205) rfl dX8_program_205 ?_
  refine go_invV (pc := 206) (sl := 0) (k39_X8_isGood l) mL_X8_172 iM_X8_isGood sM_X8_isGood (g_shI (g_shI (g_shI (g_shI (g_shI (g_shI (g_shI (g_shI (g_shI (g_shI (g_shI (g_shI (g_shI (g_shI (g_shI (g_shI (g_shL (g_shI (g_shI (g_shR (g_shI (g_shI (g_shI (g_shR (g_shI (g_sh hpS rfl)))))))))))))))))))))))))) rfl rfl rfl (Nat.le_of_ble_eq_true rfl) (Nat.le_of_ble_eq_true rfl) (Nat.le_of_ble_eq_true rfl) (g_c0 (g_lnI (g_lnI (g_lnI (g_lnI (g_lnI (g_lnI (g_lnI (g_lnI (g_lnI (g_lnI (g_lnI (g_lnI (g_lnI (g_lnI (g_lnI (g_lnI (g_lnL (g_lnI (g_lnI (g_lnR (g_lnI (g_lnI (g_lnI (g_lnR (g_lnI hpN)))))))))))))))))))))))))) (Nat.le_of_ble_eq_true rfl) dX8_program_206 ?_
  intro r h' hq _
  obtain ⟨rfl, rfl⟩ := hq
  refine go_if_ne (pc := 209) (tgt := 215) (by decide) dX8_program_209 (fun q => absurd q (by decide)) (fun _ => ?_)
  refine go_bipush (pc := 212) (v := (-2)) (by decide) dX8_program_212 ?_
  exact go_iret (pc := 214) rfl (⟨rfl, rfl⟩) (g_lnI (g_lnI (g_lnI (g_lnI (g_lnI (g_lnI (g_lnI (g_lnI (g_lnI (g_lnI (g_lnI (g_lnI (g_lnI (g_lnI (g_lnI (g_lnI (g_lnL (g_lnI (g_lnI (g_lnR (g_lnI (g_lnI (g_lnI (g_lnR (g_lnI hpN))))))))))))))))))))))))) (Nat.le_of_ble_eq_true rfl) dX8_program_214
set_option maxHeartbeats 4000000 in
set_option maxRecDepth 100000 in
theorem k42_X7_fault (l : Launch) : Mt l yX7_fault cX7_fault 1 (some .int) 1 [.ref 0] (hz10) 0 0 (fun r h' => r = some (.int 0) ∧ h' = hz10) := by
  refine Mt_ofn 117 hpN (by decide) (Nat.le_of_ble_eq_true rfl) ?_
  show Go l RX7 cX7_fault 1 (g_rm 1 0 0) "fault" (some .int) 117 0 0 _ _ 0 0 [(0, .ref 0)] [] (hz10)
  refine go_aload_n (pc := 0) rfl dX7_fault_0 ?_
  refine go_getI (pc := 1) fL_X7_17 (g_sh hpS rfl) (Nat.le_of_ble_eq_true rfl) rfl dX7_fault_1 (go_topi (y := 0) hpi_0_2 ?_)
  exact go_iret (pc := 4) rfl (⟨rfl, rfl⟩) hpN (Nat.le_of_ble_eq_true rfl) dX7_fault_4
set_option maxHeartbeats 4000000 in
set_option maxRecDepth 100000 in
theorem k43_X8_fault (l : Launch) : Mt l yX8_fault cX8_fault 1 (some .int) 1 [.ref 70] (hz10) 0 0 (fun r h' => r = some (.int 0) ∧ h' = hz10) := by
  refine Mt_ofn 117 hpN (by decide) (Nat.le_of_ble_eq_true rfl) ?_
  show Go l RX8 cX8_fault 1 (g_rm 1 0 0) "fault" (some .int) 117 0 0 _ _ 0 0 [(0, .ref 70)] [] (hz10)
  refine go_aload_n (pc := 0) rfl dX8_fault_0 ?_
  refine go_getI (pc := 1) fL_X8_169 (g_sh hpS rfl) (Nat.le_of_ble_eq_true rfl) rfl dX8_fault_1 (go_topi (y := 0) hpi_70_5 ?_)
  exact go_iret (pc := 4) rfl (⟨rfl, rfl⟩) hpN (Nat.le_of_ble_eq_true rfl) dX8_fault_4
set_option maxHeartbeats 4000000 in
set_option maxRecDepth 100000 in
theorem k44_J13_bitCount_95d88 (l : Launch) : Mt l yJ13_bitCount_95d88 cJ13_bitCount_95d88 2 (some .int) 1 [.long 0] (hz10) 0 0 (fun r h' => r = some (.int 0) ∧ h' = hz10) := by
  refine Mt_ofn 117 hpN (by decide) (Nat.le_of_ble_eq_true rfl) ?_
  show Go l RJ13 cJ13_bitCount_95d88 2 (g_rm 1 0 0) "bitCount" (some .int) 117 0 0 _ _ 0 0 [(0, .long 0)] [] (hz10)
  refine go_lload_n (pc := 0) rfl dJ13_bitCount_95d88_0 ?_
  refine go_lload_n (pc := 1) rfl dJ13_bitCount_95d88_1 ?_
  refine go_iconst (pc := 2) (v := 1) (by decide) dJ13_bitCount_95d88_2 ?_
  refine go_lushr (pc := 3) dJ13_bitCount_95d88_3 (go_topl (y := 0) (by decide) ?_)
  refine go_ldc2 (pc := 4) kL_J13_314 dJ13_bitCount_95d88_4 ?_
  refine go_land (pc := 7) dJ13_bitCount_95d88_7 (go_topl (y := 0) (by decide) ?_)
  refine go_lsub (pc := 8) dJ13_bitCount_95d88_8 (go_topl (y := 0) (by decide) ?_)
  refine go_lstore_n (pc := 9) (Nat.le_of_ble_eq_true rfl) dJ13_bitCount_95d88_9 (go_lv (lv2 := [(0, .long 0)]) rfl ?_)
  refine go_lload_n (pc := 10) rfl dJ13_bitCount_95d88_10 ?_
  refine go_ldc2 (pc := 11) kL_J13_316 dJ13_bitCount_95d88_11 ?_
  refine go_land (pc := 14) dJ13_bitCount_95d88_14 (go_topl (y := 0) (by decide) ?_)
  refine go_lload_n (pc := 15) rfl dJ13_bitCount_95d88_15 ?_
  refine go_iconst (pc := 16) (v := 2) (by decide) dJ13_bitCount_95d88_16 ?_
  refine go_lushr (pc := 17) dJ13_bitCount_95d88_17 (go_topl (y := 0) (by decide) ?_)
  refine go_ldc2 (pc := 18) kL_J13_316 dJ13_bitCount_95d88_18 ?_
  refine go_land (pc := 21) dJ13_bitCount_95d88_21 (go_topl (y := 0) (by decide) ?_)
  refine go_ladd (pc := 22) dJ13_bitCount_95d88_22 (go_topl (y := 0) (by decide) ?_)
  refine go_lstore_n (pc := 23) (Nat.le_of_ble_eq_true rfl) dJ13_bitCount_95d88_23 (go_lv (lv2 := [(0, .long 0)]) rfl ?_)
  refine go_lload_n (pc := 24) rfl dJ13_bitCount_95d88_24 ?_
  refine go_lload_n (pc := 25) rfl dJ13_bitCount_95d88_25 ?_
  refine go_iconst (pc := 26) (v := 4) (by decide) dJ13_bitCount_95d88_26 ?_
  refine go_lushr (pc := 27) dJ13_bitCount_95d88_27 (go_topl (y := 0) (by decide) ?_)
  refine go_ladd (pc := 28) dJ13_bitCount_95d88_28 (go_topl (y := 0) (by decide) ?_)
  refine go_ldc2 (pc := 29) kL_J13_318 dJ13_bitCount_95d88_29 ?_
  refine go_land (pc := 32) dJ13_bitCount_95d88_32 (go_topl (y := 0) (by decide) ?_)
  refine go_lstore_n (pc := 33) (Nat.le_of_ble_eq_true rfl) dJ13_bitCount_95d88_33 (go_lv (lv2 := [(0, .long 0)]) rfl ?_)
  refine go_lload_n (pc := 34) rfl dJ13_bitCount_95d88_34 ?_
  refine go_lload_n (pc := 35) rfl dJ13_bitCount_95d88_35 ?_
  refine go_bipush (pc := 36) (v := 8) (by decide) dJ13_bitCount_95d88_36 ?_
  refine go_lushr (pc := 38) dJ13_bitCount_95d88_38 (go_topl (y := 0) (by decide) ?_)
  refine go_ladd (pc := 39) dJ13_bitCount_95d88_39 (go_topl (y := 0) (by decide) ?_)
  refine go_lstore_n (pc := 40) (Nat.le_of_ble_eq_true rfl) dJ13_bitCount_95d88_40 (go_lv (lv2 := [(0, .long 0)]) rfl ?_)
  refine go_lload_n (pc := 41) rfl dJ13_bitCount_95d88_41 ?_
  refine go_lload_n (pc := 42) rfl dJ13_bitCount_95d88_42 ?_
  refine go_bipush (pc := 43) (v := 16) (by decide) dJ13_bitCount_95d88_43 ?_
  refine go_lushr (pc := 45) dJ13_bitCount_95d88_45 (go_topl (y := 0) (by decide) ?_)
  refine go_ladd (pc := 46) dJ13_bitCount_95d88_46 (go_topl (y := 0) (by decide) ?_)
  refine go_lstore_n (pc := 47) (Nat.le_of_ble_eq_true rfl) dJ13_bitCount_95d88_47 (go_lv (lv2 := [(0, .long 0)]) rfl ?_)
  refine go_lload_n (pc := 48) rfl dJ13_bitCount_95d88_48 ?_
  refine go_lload_n (pc := 49) rfl dJ13_bitCount_95d88_49 ?_
  refine go_bipush (pc := 50) (v := 32) (by decide) dJ13_bitCount_95d88_50 ?_
  refine go_lushr (pc := 52) dJ13_bitCount_95d88_52 (go_topl (y := 0) (by decide) ?_)
  refine go_ladd (pc := 53) dJ13_bitCount_95d88_53 (go_topl (y := 0) (by decide) ?_)
  refine go_lstore_n (pc := 54) (Nat.le_of_ble_eq_true rfl) dJ13_bitCount_95d88_54 (go_lv (lv2 := [(0, .long 0)]) rfl ?_)
  refine go_lload_n (pc := 55) rfl dJ13_bitCount_95d88_55 ?_
  refine go_l2i (pc := 56) dJ13_bitCount_95d88_56 (go_topi (y := 0) (by decide) ?_)
  refine go_bipush (pc := 57) (v := 127) (by decide) dJ13_bitCount_95d88_57 ?_
  refine go_iand (pc := 59) dJ13_bitCount_95d88_59 (go_topi (y := 0) (by decide) ?_)
  exact go_iret (pc := 60) rfl (⟨rfl, rfl⟩) hpN (Nat.le_of_ble_eq_true rfl) dJ13_bitCount_95d88_60
set_option maxHeartbeats 4000000 in
set_option maxRecDepth 100000 in
theorem k45_X7_count (l : Launch) (xs : Nat → Int32) : Mt l yX7_count cX7_count 2 (some .int) 2 [.ref 0, .int (xs 1)] (hz10) 0 0 (fun r h' => ((xs 1) = 0 ∧ r = some (.int 0) ∧ h' = hz10) ∨ (¬ (xs 1) = 0 ∧ (xs 1) = 1 ∧ r = some (.int 0) ∧ h' = hz10) ∨ (¬ (xs 1) = 0 ∧ ¬ (xs 1) = 1 ∧ (xs 1) = 2 ∧ r = some (.int 0) ∧ h' = hz10) ∨ (¬ (xs 1) = 0 ∧ ¬ (xs 1) = 1 ∧ ¬ (xs 1) = 2 ∧ (xs 1) = 3 ∧ r = some (.int 0) ∧ h' = hz10) ∨ (¬ (xs 1) = 0 ∧ ¬ (xs 1) = 1 ∧ ¬ (xs 1) = 2 ∧ ¬ (xs 1) = 3 ∧ (xs 1) = 4 ∧ r = some (.int 0) ∧ h' = hz10) ∨ (¬ (xs 1) = 0 ∧ ¬ (xs 1) = 1 ∧ ¬ (xs 1) = 2 ∧ ¬ (xs 1) = 3 ∧ ¬ (xs 1) = 4 ∧ (xs 1) = 5 ∧ r = some (.int 0) ∧ h' = hz10) ∨ (¬ (xs 1) = 0 ∧ ¬ (xs 1) = 1 ∧ ¬ (xs 1) = 2 ∧ ¬ (xs 1) = 3 ∧ ¬ (xs 1) = 4 ∧ ¬ (xs 1) = 5 ∧ r = some (.int (-1)) ∧ h' = hz10)) := by
  refine Mt_ofn 117 hpN (by decide) (Nat.le_of_ble_eq_true rfl) ?_
  show Go l RX7 cX7_count 2 (g_rm 2 0 0) "count" (some .int) 117 0 0 _ _ 0 0 [(0, .ref 0), (1, .int (xs 1))] [] (hz10)
  refine go_iload_n (pc := 0) rfl dX7_count_0 ?_
  by_cases q1 : (xs 1) = 0
  ·
    refine go_tableIn (pc := 1) (tgt := 40) (off := 39) (by rw [q1]; decide) (by rw [q1]; decide) (by rw [q1]; decide) (by decide) dX7_count_1 ?_
    refine go_aload_n (pc := 40) rfl dX7_count_40 ?_
    refine go_getR (pc := 41) (v := .ref 2) fL_X7_23 (g_sh hpS rfl) (Nat.le_of_ble_eq_true rfl) rfl hpr_0_3 dX7_count_41 ?_
    refine go_getI (pc := 44) fL_X7_65 (g_sh hpS rfl) (Nat.le_of_ble_eq_true rfl) rfl dX7_count_44 (go_topi (y := 0) hpi_2_0 ?_)
    exact go_iret (pc := 47) rfl (Or.inl ⟨q1, rfl, rfl⟩) hpN (Nat.le_of_ble_eq_true rfl) dX7_count_47
  by_cases q2 : (xs 1) = 1
  ·
    refine go_tableIn (pc := 1) (tgt := 48) (off := 47) (by rw [q2]; decide) (by rw [q2]; decide) (by rw [q2]; decide) (by decide) dX7_count_1 ?_
    refine go_aload_n (pc := 48) rfl dX7_count_48 ?_
    refine go_getR (pc := 49) (v := .ref 2) fL_X7_23 (g_sh hpS rfl) (Nat.le_of_ble_eq_true rfl) rfl hpr_0_3 dX7_count_49 ?_
    refine go_getI (pc := 52) fL_X7_68 (g_sh hpS rfl) (Nat.le_of_ble_eq_true rfl) rfl dX7_count_52 (go_topi (y := 0) hpi_2_1 ?_)
    exact go_iret (pc := 55) rfl (Or.inr (Or.inl ⟨q1, q2, rfl, rfl⟩)) hpN (Nat.le_of_ble_eq_true rfl) dX7_count_55
  by_cases q3 : (xs 1) = 2
  ·
    refine go_tableIn (pc := 1) (tgt := 56) (off := 55) (by rw [q3]; decide) (by rw [q3]; decide) (by rw [q3]; decide) (by decide) dX7_count_1 ?_
    refine go_aload_n (pc := 56) rfl dX7_count_56 ?_
    refine go_getR (pc := 57) (v := .ref 2) fL_X7_23 (g_sh hpS rfl) (Nat.le_of_ble_eq_true rfl) rfl hpr_0_3 dX7_count_57 ?_
    refine go_getL (pc := 60) fL_X7_71 (g_sh hpS rfl) (Nat.le_of_ble_eq_true rfl) rfl dX7_count_60 (go_topl (y := 0) hpl_2_2 ?_)
    refine go_invS (pc := 63) (sl := 0) (k44_J13_bitCount_95d88 l) mL_X7_75 iM_J13_bitCount_95d88 rfl rfl (Nat.le_of_ble_eq_true rfl) (Nat.le_of_ble_eq_true rfl) (Nat.le_of_ble_eq_true rfl) (g_c0 hpN) (Nat.le_of_ble_eq_true rfl) dX7_count_63 ?_
    intro r h' hq _
    obtain ⟨rfl, rfl⟩ := hq
    exact go_iret (pc := 66) rfl (Or.inr (Or.inr (Or.inl ⟨q1, q2, q3, rfl, rfl⟩))) hpN (Nat.le_of_ble_eq_true rfl) dX7_count_66
  by_cases q4 : (xs 1) = 3
  ·
    refine go_tableIn (pc := 1) (tgt := 67) (off := 66) (by rw [q4]; decide) (by rw [q4]; decide) (by rw [q4]; decide) (by decide) dX7_count_1 ?_
    refine go_aload_n (pc := 67) rfl dX7_count_67 ?_
    refine go_getR (pc := 68) (v := .ref 2) fL_X7_23 (g_sh hpS rfl) (Nat.le_of_ble_eq_true rfl) rfl hpr_0_3 dX7_count_68 ?_
    refine go_getI (pc := 71) fL_X7_81 (g_sh hpS rfl) (Nat.le_of_ble_eq_true rfl) rfl dX7_count_71 (go_topi (y := 0) hpi_2_4 ?_)
    exact go_iret (pc := 74) rfl (Or.inr (Or.inr (Or.inr (Or.inl ⟨q1, q2, q3, q4, rfl, rfl⟩)))) hpN (Nat.le_of_ble_eq_true rfl) dX7_count_74
  by_cases q5 : (xs 1) = 4
  ·
    refine go_tableIn (pc := 1) (tgt := 75) (off := 74) (by rw [q5]; decide) (by rw [q5]; decide) (by rw [q5]; decide) (by decide) dX7_count_1 ?_
    refine go_aload_n (pc := 75) rfl dX7_count_75 ?_
    refine go_getR (pc := 76) (v := .ref 2) fL_X7_23 (g_sh hpS rfl) (Nat.le_of_ble_eq_true rfl) rfl hpr_0_3 dX7_count_76 ?_
    refine go_getI (pc := 79) fL_X7_84 (g_sh hpS rfl) (Nat.le_of_ble_eq_true rfl) rfl dX7_count_79 (go_topi (y := 0) hpi_2_3 ?_)
    exact go_iret (pc := 82) rfl (Or.inr (Or.inr (Or.inr (Or.inr (Or.inl ⟨q1, q2, q3, q4, q5, rfl, rfl⟩))))) hpN (Nat.le_of_ble_eq_true rfl) dX7_count_82
  by_cases q6 : (xs 1) = 5
  ·
    refine go_tableIn (pc := 1) (tgt := 83) (off := 82) (by rw [q6]; decide) (by rw [q6]; decide) (by rw [q6]; decide) (by decide) dX7_count_1 ?_
    refine go_aload_n (pc := 83) rfl dX7_count_83 ?_
    refine go_getI (pc := 84) fL_X7_13 (g_sh hpS rfl) (Nat.le_of_ble_eq_true rfl) rfl dX7_count_84 (go_topi (y := 0) hpi_0_1 ?_)
    exact go_iret (pc := 87) rfl (Or.inr (Or.inr (Or.inr (Or.inr (Or.inr (Or.inl ⟨q1, q2, q3, q4, q5, q6, rfl, rfl⟩)))))) hpN (Nat.le_of_ble_eq_true rfl) dX7_count_87
  refine go_tableOut (pc := 1) (tgt := 88) (g_out0_5 q1 q2 q3 q4 q5 q6) (by decide) dX7_count_1 ?_
  refine go_iconst (pc := 88) (v := (-1)) (by decide) dX7_count_88 ?_
  exact go_iret (pc := 89) rfl (Or.inr (Or.inr (Or.inr (Or.inr (Or.inr (Or.inr (⟨q1, q2, q3, q4, q5, q6, rfl, rfl⟩))))))) hpN (Nat.le_of_ble_eq_true rfl) dX7_count_89
set_option maxHeartbeats 4000000 in
set_option maxRecDepth 100000 in
theorem k46_X8_count (l : Launch) (xs : Nat → Int32) : Mt l yX8_count cX8_count 2 (some .int) 1 [.ref 70, .int (xs 1)] (hz10) 0 0 (fun r h' => ((xs 1) = 0 ∧ r = some (.int 0) ∧ h' = hI hz10 70 6 0) ∨ (¬ (xs 1) = 0 ∧ (xs 1) = 1 ∧ r = some (.int 0) ∧ h' = hI hz10 70 6 0) ∨ (¬ (xs 1) = 0 ∧ ¬ (xs 1) = 1 ∧ (xs 1) = 2 ∧ r = some (.int 0) ∧ h' = hI hz10 70 6 0) ∨ (¬ (xs 1) = 0 ∧ ¬ (xs 1) = 1 ∧ ¬ (xs 1) = 2 ∧ (xs 1) = 3 ∧ r = some (.int 0) ∧ h' = hI hz10 70 6 0) ∨ (¬ (xs 1) = 0 ∧ ¬ (xs 1) = 1 ∧ ¬ (xs 1) = 2 ∧ ¬ (xs 1) = 3 ∧ (xs 1) = 4 ∧ r = some (.int 0) ∧ h' = hI hz10 70 6 0) ∨ (¬ (xs 1) = 0 ∧ ¬ (xs 1) = 1 ∧ ¬ (xs 1) = 2 ∧ ¬ (xs 1) = 3 ∧ ¬ (xs 1) = 4 ∧ (xs 1) = 5 ∧ r = some (.int 0) ∧ h' = hI hz10 70 6 0) ∨ (¬ (xs 1) = 0 ∧ ¬ (xs 1) = 1 ∧ ¬ (xs 1) = 2 ∧ ¬ (xs 1) = 3 ∧ ¬ (xs 1) = 4 ∧ ¬ (xs 1) = 5 ∧ r = some (.int (-1)) ∧ h' = hI hz10 70 6 0)) := by
  refine Mt_ofn 117 hpN (by decide) (Nat.le_of_ble_eq_true rfl) ?_
  show Go l RX8 cX8_count 2 (g_rm 1 0 0) "count" (some .int) 117 0 0 _ _ 0 0 [(0, .ref 70), (1, .int (xs 1))] [] (hz10)
  refine go_aload_n (pc := 0) rfl dX8_count_0 ?_
  refine go_aload_n (pc := 1) rfl dX8_count_1 ?_
  refine go_getI (pc := 2) fL_X8_228 (g_sh hpS rfl) (Nat.le_of_ble_eq_true rfl) rfl dX8_count_2 (go_topi (y := 0) hpi_70_29 ?_)
  refine go_putI (pc := 5) (fP_X8_187 _) (g_sh hpS rfl) (Nat.le_of_ble_eq_true rfl) rfl (fun _ => rfl) (fun _ => rfl) dX8_count_5 ?_
  refine go_iload_n (pc := 8) rfl dX8_count_8 ?_
  by_cases q1 : (xs 1) = 0
  ·
    refine go_tableIn (pc := 9) (tgt := 48) (off := 39) (by rw [q1]; decide) (by rw [q1]; decide) (by rw [q1]; decide) (by decide) dX8_count_9 ?_
    refine go_aload_n (pc := 48) rfl dX8_count_48 ?_
    refine go_getI (pc := 49) fL_X8_243 (g_shI (g_sh hpS rfl)) (Nat.le_of_ble_eq_true rfl) rfl dX8_count_49 (go_topi (y := 0) (g_iI rfl hpi_70_30) ?_)
    refine go_if_eq (pc := 52) (tgt := 67) (by decide) dX8_count_52 (fun _ => ?_) (fun q => absurd q (by decide))
    refine go_iconst (pc := 67) (v := 0) (by decide) dX8_count_67 ?_
    exact go_iret (pc := 68) rfl (Or.inl ⟨q1, rfl, rfl⟩) (g_lnI hpN) (Nat.le_of_ble_eq_true rfl) dX8_count_68
  by_cases q2 : (xs 1) = 1
  ·
    refine go_tableIn (pc := 9) (tgt := 69) (off := 60) (by rw [q2]; decide) (by rw [q2]; decide) (by rw [q2]; decide) (by decide) dX8_count_9 ?_
    refine go_aload_n (pc := 69) rfl dX8_count_69 ?_
    refine go_getI (pc := 70) fL_X8_243 (g_shI (g_sh hpS rfl)) (Nat.le_of_ble_eq_true rfl) rfl dX8_count_70 (go_topi (y := 0) (g_iI rfl hpi_70_30) ?_)
    refine go_if_eq (pc := 73) (tgt := 88) (by decide) dX8_count_73 (fun _ => ?_) (fun q => absurd q (by decide))
    refine go_iconst (pc := 88) (v := 0) (by decide) dX8_count_88 ?_
    exact go_iret (pc := 89) rfl (Or.inr (Or.inl ⟨q1, q2, rfl, rfl⟩)) (g_lnI hpN) (Nat.le_of_ble_eq_true rfl) dX8_count_89
  by_cases q3 : (xs 1) = 2
  ·
    refine go_tableIn (pc := 9) (tgt := 90) (off := 81) (by rw [q3]; decide) (by rw [q3]; decide) (by rw [q3]; decide) (by decide) dX8_count_9 ?_
    refine go_aload_n (pc := 90) rfl dX8_count_90 ?_
    refine go_getI (pc := 91) fL_X8_243 (g_shI (g_sh hpS rfl)) (Nat.le_of_ble_eq_true rfl) rfl dX8_count_91 (go_topi (y := 0) (g_iI rfl hpi_70_30) ?_)
    refine go_if_eq (pc := 94) (tgt := 104) (by decide) dX8_count_94 (fun _ => ?_) (fun q => absurd q (by decide))
    refine go_iconst (pc := 104) (v := 0) (by decide) dX8_count_104 ?_
    exact go_iret (pc := 105) rfl (Or.inr (Or.inr (Or.inl ⟨q1, q2, q3, rfl, rfl⟩))) (g_lnI hpN) (Nat.le_of_ble_eq_true rfl) dX8_count_105
  by_cases q4 : (xs 1) = 3
  ·
    refine go_tableIn (pc := 9) (tgt := 106) (off := 97) (by rw [q4]; decide) (by rw [q4]; decide) (by rw [q4]; decide) (by decide) dX8_count_9 ?_
    refine go_aload_n (pc := 106) rfl dX8_count_106 ?_
    refine go_getI (pc := 107) fL_X8_243 (g_shI (g_sh hpS rfl)) (Nat.le_of_ble_eq_true rfl) rfl dX8_count_107 (go_topi (y := 0) (g_iI rfl hpi_70_30) ?_)
    refine go_if_eq (pc := 110) (tgt := 124) (by decide) dX8_count_110 (fun _ => ?_) (fun q => absurd q (by decide))
    refine go_iconst (pc := 124) (v := 0) (by decide) dX8_count_124 ?_
    exact go_iret (pc := 125) rfl (Or.inr (Or.inr (Or.inr (Or.inl ⟨q1, q2, q3, q4, rfl, rfl⟩)))) (g_lnI hpN) (Nat.le_of_ble_eq_true rfl) dX8_count_125
  by_cases q5 : (xs 1) = 4
  ·
    refine go_tableIn (pc := 9) (tgt := 126) (off := 117) (by rw [q5]; decide) (by rw [q5]; decide) (by rw [q5]; decide) (by decide) dX8_count_9 ?_
    refine go_aload_n (pc := 126) rfl dX8_count_126 ?_
    refine go_getI (pc := 127) fL_X8_243 (g_shI (g_sh hpS rfl)) (Nat.le_of_ble_eq_true rfl) rfl dX8_count_127 (go_topi (y := 0) (g_iI rfl hpi_70_30) ?_)
    refine go_if_eq (pc := 130) (tgt := 144) (by decide) dX8_count_130 (fun _ => ?_) (fun q => absurd q (by decide))
    refine go_iconst (pc := 144) (v := 0) (by decide) dX8_count_144 ?_
    exact go_iret (pc := 145) rfl (Or.inr (Or.inr (Or.inr (Or.inr (Or.inl ⟨q1, q2, q3, q4, q5, rfl, rfl⟩))))) (g_lnI hpN) (Nat.le_of_ble_eq_true rfl) dX8_count_145
  by_cases q6 : (xs 1) = 5
  ·
    refine go_tableIn (pc := 9) (tgt := 146) (off := 137) (by rw [q6]; decide) (by rw [q6]; decide) (by rw [q6]; decide) (by decide) dX8_count_9 ?_
    refine go_aload_n (pc := 146) rfl dX8_count_146 ?_
    refine go_getI (pc := 147) fL_X8_151 (g_shI (g_sh hpS rfl)) (Nat.le_of_ble_eq_true rfl) rfl dX8_count_147 (go_topi (y := 0) (g_iI rfl hpi_70_2) ?_)
    exact go_iret (pc := 150) rfl (Or.inr (Or.inr (Or.inr (Or.inr (Or.inr (Or.inl ⟨q1, q2, q3, q4, q5, q6, rfl, rfl⟩)))))) (g_lnI hpN) (Nat.le_of_ble_eq_true rfl) dX8_count_150
  refine go_tableOut (pc := 9) (tgt := 151) (g_out0_5 q1 q2 q3 q4 q5 q6) (by decide) dX8_count_9 ?_
  refine go_iconst (pc := 151) (v := (-1)) (by decide) dX8_count_151 ?_
  exact go_iret (pc := 152) rfl (Or.inr (Or.inr (Or.inr (Or.inr (Or.inr (Or.inr (⟨q1, q2, q3, q4, q5, q6, rfl, rfl⟩))))))) (g_lnI hpN) (Nat.le_of_ble_eq_true rfl) dX8_count_152
set_option maxHeartbeats 4000000 in
set_option maxRecDepth 100000 in
theorem k47_X7_isStatement (l : Launch) (xs : Nat → Int32) : Mt l yX7_isStatement cX7_isStatement 2 (some .boolean) 1 [.ref 0, .int (xs 1)] (hz10) 0 0 (fun r h' => ((xs 1) < 0 ∧ r = some (.int 0) ∧ h' = hz10) ∨ (¬ (xs 1) < 0 ∧ 0 ≤ (xs 1) ∧ r = some (.int 0) ∧ h' = hz10)) := by
  refine Mt_ofn 117 hpN (by decide) (Nat.le_of_ble_eq_true rfl) ?_
  show Go l RX7 cX7_isStatement 2 (g_rm 1 0 0) "isStatement" (some .boolean) 117 0 0 _ _ 0 0 [(0, .ref 0), (1, .int (xs 1))] [] (hz10)
  refine go_iload_n (pc := 0) rfl dX7_isStatement_0 ?_
  refine go_if_lt (pc := 1) (tgt := 19) (by decide) dX7_isStatement_1 (fun q1 => ?_) (fun q1 => ?_)
  ·
    refine go_iconst (pc := 19) (v := 0) (by decide) dX7_isStatement_19 ?_
    exact go_iret (pc := 20) rfl (Or.inl ⟨q1, rfl, rfl⟩) hpN (Nat.le_of_ble_eq_true rfl) dX7_isStatement_20
  ·
    refine go_iload_n (pc := 4) rfl dX7_isStatement_4 ?_
    refine go_aload_n (pc := 5) rfl dX7_isStatement_5 ?_
    refine go_getR (pc := 6) (v := .ref 2) fL_X7_23 (g_sh hpS rfl) (Nat.le_of_ble_eq_true rfl) rfl hpr_0_3 dX7_isStatement_6 ?_
    refine go_getI (pc := 9) fL_X7_65 (g_sh hpS rfl) (Nat.le_of_ble_eq_true rfl) rfl dX7_isStatement_9 (go_topi (y := 0) hpi_2_0 ?_)
    refine go_icmp_ge (pc := 12) (tgt := 19) (by decide) dX7_isStatement_12 (fun q2 => ?_) (fun q2 => ?_)
    ·
      refine go_iconst (pc := 19) (v := 0) (by decide) dX7_isStatement_19 ?_
      exact go_iret (pc := 20) rfl (Or.inr (⟨q1, q2, rfl, rfl⟩)) hpN (Nat.le_of_ble_eq_true rfl) dX7_isStatement_20
    ·
      exfalso; have z0 : (0 : Int32).toInt = 0 := (by decide); simp only [Int32.lt_iff_toInt_lt, Int32.le_iff_toInt_le, ← Int32.toInt_inj, z0] at q1 q2; omega
set_option maxHeartbeats 4000000 in
set_option maxRecDepth 100000 in
theorem k48_X7_of (l : Launch) (xs : Nat → Int32) : Mt l yX7_of cX7_of 3 (some .int) 2 [.ref 0, .int (xs 1), .int (xs 2)] (hz10) 0 0 (fun r h' => ((xs 1) < 0 ∧ r = some (.int (-1)) ∧ h' = hz10) ∨ (¬ (xs 1) < 0 ∧ 0 ≤ (xs 1) ∧ r = some (.int (-1)) ∧ h' = hz10)) := by
  refine Mt_ofn 117 hpN (by decide) (Nat.le_of_ble_eq_true rfl) ?_
  show Go l RX7 cX7_of 3 (g_rm 2 0 0) "of" (some .int) 117 0 0 _ _ 0 0 [(0, .ref 0), (1, .int (xs 1)), (2, .int (xs 2))] [] (hz10)
  refine go_aload_n (pc := 0) rfl dX7_of_0 ?_
  refine go_iload_n (pc := 1) rfl dX7_of_1 ?_
  refine go_invV (pc := 2) (sl := 0) (k47_X7_isStatement l xs) mL_X7_87 iM_X7_isStatement sM_X7_isStatement (g_sh hpS rfl) rfl rfl rfl (Nat.le_of_ble_eq_true rfl) (Nat.le_of_ble_eq_true rfl) (Nat.le_of_ble_eq_true rfl) (g_c0 hpN) (Nat.le_of_ble_eq_true rfl) dX7_of_2 ?_
  intro r h' hq _
  rcases hq with ⟨q1, rfl, rfl⟩ | ⟨q1, q2, rfl, rfl⟩
  ·
    refine go_if_ne (pc := 5) (tgt := 10) (by decide) dX7_of_5 (fun q => absurd q (by decide)) (fun _ => ?_)
    refine go_iconst (pc := 8) (v := (-1)) (by decide) dX7_of_8 ?_
    exact go_iret (pc := 9) rfl (Or.inl ⟨q1, rfl, rfl⟩) hpN (Nat.le_of_ble_eq_true rfl) dX7_of_9
  ·
    refine go_if_ne (pc := 5) (tgt := 10) (by decide) dX7_of_5 (fun q => absurd q (by decide)) (fun _ => ?_)
    refine go_iconst (pc := 8) (v := (-1)) (by decide) dX7_of_8 ?_
    exact go_iret (pc := 9) rfl (Or.inr (⟨q1, q2, rfl, rfl⟩)) hpN (Nat.le_of_ble_eq_true rfl) dX7_of_9
set_option maxHeartbeats 4000000 in
set_option maxRecDepth 100000 in
theorem k49_X8_isStatement (l : Launch) (xs : Nat → Int32) : Mt l yX8_isStatement cX8_isStatement 2 (some .boolean) 1 [.ref 70, .int (xs 1)] (hI hz10 70 6 0) 0 0 (fun r h' => r = some (.int 0) ∧ h' = hI hz10 70 6 0) := by
  refine Mt_ofn 117 (g_lnI hpN) (by decide) (Nat.le_of_ble_eq_true rfl) ?_
  show Go l RX8 cX8_isStatement 2 (g_rm 1 0 0) "isStatement" (some .boolean) 117 0 0 _ _ 0 0 [(0, .ref 70), (1, .int (xs 1))] [] (hI hz10 70 6 0)
  refine go_aload_n (pc := 0) rfl dX8_isStatement_0 ?_
  refine go_getI (pc := 1) fL_X8_243 (g_shI (g_sh hpS rfl)) (Nat.le_of_ble_eq_true rfl) rfl dX8_isStatement_1 (go_topi (y := 0) (g_iI rfl hpi_70_30) ?_)
  refine go_if_eq (pc := 4) (tgt := 30) (by decide) dX8_isStatement_4 (fun _ => ?_) (fun q => absurd q (by decide))
  refine go_iconst (pc := 30) (v := 0) (by decide) dX8_isStatement_30 ?_
  exact go_iret (pc := 31) rfl (⟨rfl, rfl⟩) (g_lnI hpN) (Nat.le_of_ble_eq_true rfl) dX8_isStatement_31
set_option maxHeartbeats 4000000 in
set_option maxRecDepth 100000 in
theorem k50_X8_of (l : Launch) (xs : Nat → Int32) : Mt l yX8_of cX8_of 4 (some .int) 2 [.ref 70, .int (xs 1), .int (xs 2)] (hz10) 0 0 (fun r h' => r = some (.int (-1)) ∧ h' = hI hz10 70 6 0) := by
  refine Mt_ofn 117 hpN (by decide) (Nat.le_of_ble_eq_true rfl) ?_
  show Go l RX8 cX8_of 4 (g_rm 2 0 0) "of" (some .int) 117 0 0 _ _ 0 0 [(0, .ref 70), (1, .int (xs 1)), (2, .int (xs 2))] [] (hz10)
  refine go_aload_n (pc := 0) rfl dX8_of_0 ?_
  refine go_aload_n (pc := 1) rfl dX8_of_1 ?_
  refine go_getI (pc := 2) fL_X8_228 (g_sh hpS rfl) (Nat.le_of_ble_eq_true rfl) rfl dX8_of_2 (go_topi (y := 0) hpi_70_29 ?_)
  refine go_putI (pc := 5) (fP_X8_187 _) (g_sh hpS rfl) (Nat.le_of_ble_eq_true rfl) rfl (fun _ => rfl) (fun _ => rfl) dX8_of_5 ?_
  refine go_aload_n (pc := 8) rfl dX8_of_8 ?_
  refine go_iload_n (pc := 9) rfl dX8_of_9 ?_
  refine go_invV (pc := 10) (sl := 0) (k49_X8_isStatement l xs) mL_X8_389 iM_X8_isStatement sM_X8_isStatement (g_shI (g_sh hpS rfl)) rfl rfl rfl (Nat.le_of_ble_eq_true rfl) (Nat.le_of_ble_eq_true rfl) (Nat.le_of_ble_eq_true rfl) (g_c0 (g_lnI hpN)) (Nat.le_of_ble_eq_true rfl) dX8_of_10 ?_
  intro r h' hq _
  obtain ⟨rfl, rfl⟩ := hq
  refine go_if_ne (pc := 13) (tgt := 18) (by decide) dX8_of_13 (fun q => absurd q (by decide)) (fun _ => ?_)
  refine go_iconst (pc := 16) (v := (-1)) (by decide) dX8_of_16 ?_
  exact go_iret (pc := 17) rfl (⟨rfl, rfl⟩) (g_lnI hpN) (Nat.le_of_ble_eq_true rfl) dX8_of_17
set_option maxHeartbeats 4000000 in
set_option maxRecDepth 100000 in
theorem k51_X7_hangs (l : Launch) (xs : Nat → Int32) : Mt l yX7_hangs cX7_hangs 3 (some .int) 2 [.ref 0, .int (xs 1), .int (xs 2)] (hz10) 0 0 (fun r h' => ((xs 1) < 0 ∧ r = some (.int 0) ∧ h' = hz10) ∨ (¬ (xs 1) < 0 ∧ 0 ≤ (xs 1) ∧ r = some (.int 0) ∧ h' = hz10)) := by
  refine Mt_ofn 117 hpN (by decide) (Nat.le_of_ble_eq_true rfl) ?_
  show Go l RX7 cX7_hangs 3 (g_rm 2 0 0) "hangs" (some .int) 117 0 0 _ _ 0 0 [(0, .ref 0), (1, .int (xs 1)), (2, .int (xs 2))] [] (hz10)
  refine go_aload_n (pc := 0) rfl dX7_hangs_0 ?_
  refine go_iload_n (pc := 1) rfl dX7_hangs_1 ?_
  refine go_invV (pc := 2) (sl := 0) (k47_X7_isStatement l xs) mL_X7_87 iM_X7_isStatement sM_X7_isStatement (g_sh hpS rfl) rfl rfl rfl (Nat.le_of_ble_eq_true rfl) (Nat.le_of_ble_eq_true rfl) (Nat.le_of_ble_eq_true rfl) (g_c0 hpN) (Nat.le_of_ble_eq_true rfl) dX7_hangs_2 ?_
  intro r h' hq _
  rcases hq with ⟨q1, rfl, rfl⟩ | ⟨q1, q2, rfl, rfl⟩
  ·
    refine go_if_eq (pc := 5) (tgt := 16) (by decide) dX7_hangs_5 (fun _ => ?_) (fun q => absurd q (by decide))
    refine go_iconst (pc := 16) (v := 0) (by decide) dX7_hangs_16 ?_
    exact go_iret (pc := 17) rfl (Or.inl ⟨q1, rfl, rfl⟩) hpN (Nat.le_of_ble_eq_true rfl) dX7_hangs_17
  ·
    refine go_if_eq (pc := 5) (tgt := 16) (by decide) dX7_hangs_5 (fun _ => ?_) (fun q => absurd q (by decide))
    refine go_iconst (pc := 16) (v := 0) (by decide) dX7_hangs_16 ?_
    exact go_iret (pc := 17) rfl (Or.inr (⟨q1, q2, rfl, rfl⟩)) hpN (Nat.le_of_ble_eq_true rfl) dX7_hangs_17
set_option maxHeartbeats 4000000 in
set_option maxRecDepth 100000 in
theorem k52_X8_isStatement (l : Launch) (xs : Nat → Int32) : Mt l yX8_isStatement cX8_isStatement 2 (some .boolean) 1 [.ref 70, .int (xs 1)] (hz10) 0 0 (fun r h' => r = some (.int 0) ∧ h' = hz10) := by
  refine Mt_ofn 117 hpN (by decide) (Nat.le_of_ble_eq_true rfl) ?_
  show Go l RX8 cX8_isStatement 2 (g_rm 1 0 0) "isStatement" (some .boolean) 117 0 0 _ _ 0 0 [(0, .ref 70), (1, .int (xs 1))] [] (hz10)
  refine go_aload_n (pc := 0) rfl dX8_isStatement_0 ?_
  refine go_getI (pc := 1) fL_X8_243 (g_sh hpS rfl) (Nat.le_of_ble_eq_true rfl) rfl dX8_isStatement_1 (go_topi (y := 0) hpi_70_30 ?_)
  refine go_if_eq (pc := 4) (tgt := 30) (by decide) dX8_isStatement_4 (fun _ => ?_) (fun q => absurd q (by decide))
  refine go_iconst (pc := 30) (v := 0) (by decide) dX8_isStatement_30 ?_
  exact go_iret (pc := 31) rfl (⟨rfl, rfl⟩) hpN (Nat.le_of_ble_eq_true rfl) dX8_isStatement_31
set_option maxHeartbeats 4000000 in
set_option maxRecDepth 100000 in
theorem k53_X8_hangs (l : Launch) (xs : Nat → Int32) : Mt l yX8_hangs cX8_hangs 3 (some .int) 2 [.ref 70, .int (xs 1), .int (xs 2)] (hz10) 0 0 (fun r h' => r = some (.int 0) ∧ h' = hz10) := by
  refine Mt_ofn 117 hpN (by decide) (Nat.le_of_ble_eq_true rfl) ?_
  show Go l RX8 cX8_hangs 3 (g_rm 2 0 0) "hangs" (some .int) 117 0 0 _ _ 0 0 [(0, .ref 70), (1, .int (xs 1)), (2, .int (xs 2))] [] (hz10)
  refine go_aload_n (pc := 0) rfl dX8_hangs_0 ?_
  refine go_iload_n (pc := 1) rfl dX8_hangs_1 ?_
  refine go_invV (pc := 2) (sl := 0) (k52_X8_isStatement l xs) mL_X8_389 iM_X8_isStatement sM_X8_isStatement (g_sh hpS rfl) rfl rfl rfl (Nat.le_of_ble_eq_true rfl) (Nat.le_of_ble_eq_true rfl) (Nat.le_of_ble_eq_true rfl) (g_c0 hpN) (Nat.le_of_ble_eq_true rfl) dX8_hangs_2 ?_
  intro r h' hq _
  obtain ⟨rfl, rfl⟩ := hq
  refine go_if_eq (pc := 5) (tgt := 16) (by decide) dX8_hangs_5 (fun _ => ?_) (fun q => absurd q (by decide))
  refine go_iconst (pc := 16) (v := 0) (by decide) dX8_hangs_16 ?_
  exact go_iret (pc := 17) rfl (⟨rfl, rfl⟩) hpN (Nat.le_of_ble_eq_true rfl) dX8_hangs_17
set_option maxHeartbeats 4000000 in
set_option maxRecDepth 100000 in
theorem k54_X7_isProcedure (l : Launch) (xs : Nat → Int32) : Mt l yX7_isProcedure cX7_isProcedure 2 (some .boolean) 1 [.ref 0, .int (xs 1)] (hz10) 0 0 (fun r h' => ((xs 1) < 0 ∧ r = some (.int 0) ∧ h' = hz10) ∨ (¬ (xs 1) < 0 ∧ 0 ≤ (xs 1) ∧ r = some (.int 0) ∧ h' = hz10)) := by
  refine Mt_ofn 117 hpN (by decide) (Nat.le_of_ble_eq_true rfl) ?_
  show Go l RX7 cX7_isProcedure 2 (g_rm 1 0 0) "isProcedure" (some .boolean) 117 0 0 _ _ 0 0 [(0, .ref 0), (1, .int (xs 1))] [] (hz10)
  refine go_iload_n (pc := 0) rfl dX7_isProcedure_0 ?_
  refine go_if_lt (pc := 1) (tgt := 19) (by decide) dX7_isProcedure_1 (fun q1 => ?_) (fun q1 => ?_)
  ·
    refine go_iconst (pc := 19) (v := 0) (by decide) dX7_isProcedure_19 ?_
    exact go_iret (pc := 20) rfl (Or.inl ⟨q1, rfl, rfl⟩) hpN (Nat.le_of_ble_eq_true rfl) dX7_isProcedure_20
  ·
    refine go_iload_n (pc := 4) rfl dX7_isProcedure_4 ?_
    refine go_aload_n (pc := 5) rfl dX7_isProcedure_5 ?_
    refine go_getR (pc := 6) (v := .ref 2) fL_X7_23 (g_sh hpS rfl) (Nat.le_of_ble_eq_true rfl) rfl hpr_0_3 dX7_isProcedure_6 ?_
    refine go_getI (pc := 9) fL_X7_68 (g_sh hpS rfl) (Nat.le_of_ble_eq_true rfl) rfl dX7_isProcedure_9 (go_topi (y := 0) hpi_2_1 ?_)
    refine go_icmp_ge (pc := 12) (tgt := 19) (by decide) dX7_isProcedure_12 (fun q2 => ?_) (fun q2 => ?_)
    ·
      refine go_iconst (pc := 19) (v := 0) (by decide) dX7_isProcedure_19 ?_
      exact go_iret (pc := 20) rfl (Or.inr (⟨q1, q2, rfl, rfl⟩)) hpN (Nat.le_of_ble_eq_true rfl) dX7_isProcedure_20
    ·
      exfalso; have z0 : (0 : Int32).toInt = 0 := (by decide); simp only [Int32.lt_iff_toInt_lt, Int32.le_iff_toInt_le, ← Int32.toInt_inj, z0] at q1 q2; omega
set_option maxHeartbeats 4000000 in
set_option maxRecDepth 100000 in
theorem k55_X7_begun (l : Launch) (xs : Nat → Int32) : Mt l yX7_begun cX7_begun 2 (some .long) 2 [.ref 0, .int (xs 1)] (hz10) 0 0 (fun r h' => ((xs 1) < 0 ∧ r = some (.long 0) ∧ h' = hz10) ∨ (¬ (xs 1) < 0 ∧ 0 ≤ (xs 1) ∧ r = some (.long 0) ∧ h' = hz10)) := by
  refine Mt_ofn 117 hpN (by decide) (Nat.le_of_ble_eq_true rfl) ?_
  show Go l RX7 cX7_begun 2 (g_rm 2 0 0) "begun" (some .long) 117 0 0 _ _ 0 0 [(0, .ref 0), (1, .int (xs 1))] [] (hz10)
  refine go_aload_n (pc := 0) rfl dX7_begun_0 ?_
  refine go_iload_n (pc := 1) rfl dX7_begun_1 ?_
  refine go_invV (pc := 2) (sl := 0) (k54_X7_isProcedure l xs) mL_X7_126 iM_X7_isProcedure sM_X7_isProcedure (g_sh hpS rfl) rfl rfl rfl (Nat.le_of_ble_eq_true rfl) (Nat.le_of_ble_eq_true rfl) (Nat.le_of_ble_eq_true rfl) (g_c0 hpN) (Nat.le_of_ble_eq_true rfl) dX7_begun_2 ?_
  intro r h' hq _
  rcases hq with ⟨q1, rfl, rfl⟩ | ⟨q1, q2, rfl, rfl⟩
  ·
    refine go_if_ne (pc := 5) (tgt := 10) (by decide) dX7_begun_5 (fun q => absurd q (by decide)) (fun _ => ?_)
    refine go_lconst (pc := 8) (v := 0) (by decide) dX7_begun_8 ?_
    exact go_lret (pc := 9) (Or.inl ⟨q1, rfl, rfl⟩) hpN (Nat.le_of_ble_eq_true rfl) dX7_begun_9
  ·
    refine go_if_ne (pc := 5) (tgt := 10) (by decide) dX7_begun_5 (fun q => absurd q (by decide)) (fun _ => ?_)
    refine go_lconst (pc := 8) (v := 0) (by decide) dX7_begun_8 ?_
    exact go_lret (pc := 9) (Or.inr (⟨q1, q2, rfl, rfl⟩)) hpN (Nat.le_of_ble_eq_true rfl) dX7_begun_9
set_option maxHeartbeats 4000000 in
set_option maxRecDepth 100000 in
theorem k56_X8_isProcedure (l : Launch) (xs : Nat → Int32) : Mt l yX8_isProcedure cX8_isProcedure 2 (some .boolean) 1 [.ref 70, .int (xs 1)] (hz10) 0 0 (fun r h' => r = some (.int 0) ∧ h' = hz10) := by
  refine Mt_ofn 117 hpN (by decide) (Nat.le_of_ble_eq_true rfl) ?_
  show Go l RX8 cX8_isProcedure 2 (g_rm 1 0 0) "isProcedure" (some .boolean) 117 0 0 _ _ 0 0 [(0, .ref 70), (1, .int (xs 1))] [] (hz10)
  refine go_aload_n (pc := 0) rfl dX8_isProcedure_0 ?_
  refine go_getI (pc := 1) fL_X8_243 (g_sh hpS rfl) (Nat.le_of_ble_eq_true rfl) rfl dX8_isProcedure_1 (go_topi (y := 0) hpi_70_30 ?_)
  refine go_if_eq (pc := 4) (tgt := 30) (by decide) dX8_isProcedure_4 (fun _ => ?_) (fun q => absurd q (by decide))
  refine go_iconst (pc := 30) (v := 0) (by decide) dX8_isProcedure_30 ?_
  exact go_iret (pc := 31) rfl (⟨rfl, rfl⟩) hpN (Nat.le_of_ble_eq_true rfl) dX8_isProcedure_31
set_option maxHeartbeats 4000000 in
set_option maxRecDepth 100000 in
theorem k57_X8_begun (l : Launch) (xs : Nat → Int32) : Mt l yX8_begun cX8_begun 2 (some .long) 2 [.ref 70, .int (xs 1)] (hz10) 0 0 (fun r h' => r = some (.long 0) ∧ h' = hz10) := by
  refine Mt_ofn 117 hpN (by decide) (Nat.le_of_ble_eq_true rfl) ?_
  show Go l RX8 cX8_begun 2 (g_rm 2 0 0) "begun" (some .long) 117 0 0 _ _ 0 0 [(0, .ref 70), (1, .int (xs 1))] [] (hz10)
  refine go_aload_n (pc := 0) rfl dX8_begun_0 ?_
  refine go_iload_n (pc := 1) rfl dX8_begun_1 ?_
  refine go_invV (pc := 2) (sl := 0) (k56_X8_isProcedure l xs) mL_X8_395 iM_X8_isProcedure sM_X8_isProcedure (g_sh hpS rfl) rfl rfl rfl (Nat.le_of_ble_eq_true rfl) (Nat.le_of_ble_eq_true rfl) (Nat.le_of_ble_eq_true rfl) (g_c0 hpN) (Nat.le_of_ble_eq_true rfl) dX8_begun_2 ?_
  intro r h' hq _
  obtain ⟨rfl, rfl⟩ := hq
  refine go_if_eq (pc := 5) (tgt := 17) (by decide) dX8_begun_5 (fun _ => ?_) (fun q => absurd q (by decide))
  refine go_lconst (pc := 17) (v := 0) (by decide) dX8_begun_17 ?_
  exact go_lret (pc := 18) (⟨rfl, rfl⟩) hpN (Nat.le_of_ble_eq_true rfl) dX8_begun_18
set_option maxHeartbeats 4000000 in
set_option maxRecDepth 100000 in
theorem k58_X7_summary (l : Launch) (xs : Nat → Int32) : Mt l yX7_summary cX7_summary 4 (some .boolean) 2 [.ref 0, .int (xs 1), .int (xs 2), .int (xs 3)] (hz10) 0 0 (fun r h' => ((xs 1) < 0 ∧ r = some (.int 0) ∧ h' = hz10) ∨ (¬ (xs 1) < 0 ∧ 0 ≤ (xs 1) ∧ r = some (.int 0) ∧ h' = hz10)) := by
  refine Mt_ofn 117 hpN (by decide) (Nat.le_of_ble_eq_true rfl) ?_
  show Go l RX7 cX7_summary 4 (g_rm 2 0 0) "summary" (some .boolean) 117 0 0 _ _ 0 0 [(0, .ref 0), (1, .int (xs 1)), (2, .int (xs 2)), (3, .int (xs 3))] [] (hz10)
  refine go_aload_n (pc := 0) rfl dX7_summary_0 ?_
  refine go_iload_n (pc := 1) rfl dX7_summary_1 ?_
  refine go_invV (pc := 2) (sl := 0) (k47_X7_isStatement l xs) mL_X7_87 iM_X7_isStatement sM_X7_isStatement (g_sh hpS rfl) rfl rfl rfl (Nat.le_of_ble_eq_true rfl) (Nat.le_of_ble_eq_true rfl) (Nat.le_of_ble_eq_true rfl) (g_c0 hpN) (Nat.le_of_ble_eq_true rfl) dX7_summary_2 ?_
  intro r h' hq _
  rcases hq with ⟨q1, rfl, rfl⟩ | ⟨q1, q2, rfl, rfl⟩
  ·
    refine go_if_eq (pc := 5) (tgt := 35) (by decide) dX7_summary_5 (fun _ => ?_) (fun q => absurd q (by decide))
    refine go_iconst (pc := 35) (v := 0) (by decide) dX7_summary_35 ?_
    exact go_iret (pc := 36) rfl (Or.inl ⟨q1, rfl, rfl⟩) hpN (Nat.le_of_ble_eq_true rfl) dX7_summary_36
  ·
    refine go_if_eq (pc := 5) (tgt := 35) (by decide) dX7_summary_5 (fun _ => ?_) (fun q => absurd q (by decide))
    refine go_iconst (pc := 35) (v := 0) (by decide) dX7_summary_35 ?_
    exact go_iret (pc := 36) rfl (Or.inr (⟨q1, q2, rfl, rfl⟩)) hpN (Nat.le_of_ble_eq_true rfl) dX7_summary_36
set_option maxHeartbeats 4000000 in
set_option maxRecDepth 100000 in
theorem k59_X8_summary (l : Launch) (xs : Nat → Int32) : Mt l yX8_summary cX8_summary 4 (some .boolean) 2 [.ref 70, .int (xs 1), .int (xs 2), .int (xs 3)] (hz10) 0 0 (fun r h' => r = some (.int 0) ∧ h' = hI hz10 70 6 0) := by
  refine Mt_ofn 117 hpN (by decide) (Nat.le_of_ble_eq_true rfl) ?_
  show Go l RX8 cX8_summary 4 (g_rm 2 0 0) "summary" (some .boolean) 117 0 0 _ _ 0 0 [(0, .ref 70), (1, .int (xs 1)), (2, .int (xs 2)), (3, .int (xs 3))] [] (hz10)
  refine go_aload_n (pc := 0) rfl dX8_summary_0 ?_
  refine go_aload_n (pc := 1) rfl dX8_summary_1 ?_
  refine go_getI (pc := 2) fL_X8_228 (g_sh hpS rfl) (Nat.le_of_ble_eq_true rfl) rfl dX8_summary_2 (go_topi (y := 0) hpi_70_29 ?_)
  refine go_putI (pc := 5) (fP_X8_187 _) (g_sh hpS rfl) (Nat.le_of_ble_eq_true rfl) rfl (fun _ => rfl) (fun _ => rfl) dX8_summary_5 ?_
  refine go_aload_n (pc := 8) rfl dX8_summary_8 ?_
  refine go_iload_n (pc := 9) rfl dX8_summary_9 ?_
  refine go_invV (pc := 10) (sl := 0) (k49_X8_isStatement l xs) mL_X8_389 iM_X8_isStatement sM_X8_isStatement (g_shI (g_sh hpS rfl)) rfl rfl rfl (Nat.le_of_ble_eq_true rfl) (Nat.le_of_ble_eq_true rfl) (Nat.le_of_ble_eq_true rfl) (g_c0 (g_lnI hpN)) (Nat.le_of_ble_eq_true rfl) dX8_summary_10 ?_
  intro r h' hq _
  obtain ⟨rfl, rfl⟩ := hq
  refine go_if_eq (pc := 13) (tgt := 43) (by decide) dX8_summary_13 (fun _ => ?_) (fun q => absurd q (by decide))
  refine go_iconst (pc := 43) (v := 0) (by decide) dX8_summary_43 ?_
  exact go_iret (pc := 44) rfl (⟨rfl, rfl⟩) (g_lnI hpN) (Nat.le_of_ble_eq_true rfl) dX8_summary_44
set_option maxHeartbeats 4000000 in
set_option maxRecDepth 100000 in
theorem k60_X7_back (l : Launch) (xs : Nat → Int32) : Mt l yX7_back cX7_back 2 (some .long) 2 [.ref 0, .int (xs 1)] (hz10) 0 0 (fun r h' => ((xs 1) < 0 ∧ r = some (.long (-1)) ∧ h' = hz10) ∨ (¬ (xs 1) < 0 ∧ 0 ≤ (xs 1) ∧ r = some (.long (-1)) ∧ h' = hz10)) := by
  refine Mt_ofn 117 hpN (by decide) (Nat.le_of_ble_eq_true rfl) ?_
  show Go l RX7 cX7_back 2 (g_rm 2 0 0) "back" (some .long) 117 0 0 _ _ 0 0 [(0, .ref 0), (1, .int (xs 1))] [] (hz10)
  refine go_aload_n (pc := 0) rfl dX7_back_0 ?_
  refine go_iload_n (pc := 1) rfl dX7_back_1 ?_
  refine go_invV (pc := 2) (sl := 0) (k47_X7_isStatement l xs) mL_X7_87 iM_X7_isStatement sM_X7_isStatement (g_sh hpS rfl) rfl rfl rfl (Nat.le_of_ble_eq_true rfl) (Nat.le_of_ble_eq_true rfl) (Nat.le_of_ble_eq_true rfl) (g_c0 hpN) (Nat.le_of_ble_eq_true rfl) dX7_back_2 ?_
  intro r h' hq _
  rcases hq with ⟨q1, rfl, rfl⟩ | ⟨q1, q2, rfl, rfl⟩
  ·
    refine go_if_ne (pc := 5) (tgt := 12) (by decide) dX7_back_5 (fun q => absurd q (by decide)) (fun _ => ?_)
    refine go_ldc2 (pc := 8) kL_X7_140 dX7_back_8 ?_
    exact go_lret (pc := 11) (Or.inl ⟨q1, rfl, rfl⟩) hpN (Nat.le_of_ble_eq_true rfl) dX7_back_11
  ·
    refine go_if_ne (pc := 5) (tgt := 12) (by decide) dX7_back_5 (fun q => absurd q (by decide)) (fun _ => ?_)
    refine go_ldc2 (pc := 8) kL_X7_140 dX7_back_8 ?_
    exact go_lret (pc := 11) (Or.inr (⟨q1, q2, rfl, rfl⟩)) hpN (Nat.le_of_ble_eq_true rfl) dX7_back_11
set_option maxHeartbeats 4000000 in
set_option maxRecDepth 100000 in
theorem k61_X8_back (l : Launch) (xs : Nat → Int32) : Mt l yX8_back cX8_back 2 (some .long) 2 [.ref 70, .int (xs 1)] (hz10) 0 0 (fun r h' => r = some (.long (-1)) ∧ h' = hz10) := by
  refine Mt_ofn 117 hpN (by decide) (Nat.le_of_ble_eq_true rfl) ?_
  show Go l RX8 cX8_back 2 (g_rm 2 0 0) "back" (some .long) 117 0 0 _ _ 0 0 [(0, .ref 70), (1, .int (xs 1))] [] (hz10)
  refine go_aload_n (pc := 0) rfl dX8_back_0 ?_
  refine go_iload_n (pc := 1) rfl dX8_back_1 ?_
  refine go_invV (pc := 2) (sl := 0) (k52_X8_isStatement l xs) mL_X8_389 iM_X8_isStatement sM_X8_isStatement (g_sh hpS rfl) rfl rfl rfl (Nat.le_of_ble_eq_true rfl) (Nat.le_of_ble_eq_true rfl) (Nat.le_of_ble_eq_true rfl) (g_c0 hpN) (Nat.le_of_ble_eq_true rfl) dX8_back_2 ?_
  intro r h' hq _
  obtain ⟨rfl, rfl⟩ := hq
  refine go_if_eq (pc := 5) (tgt := 17) (by decide) dX8_back_5 (fun _ => ?_) (fun q => absurd q (by decide))
  refine go_ldc2 (pc := 17) kL_X8_329 dX8_back_17 ?_
  exact go_lret (pc := 20) (⟨rfl, rfl⟩) hpN (Nat.le_of_ble_eq_true rfl) dX8_back_20
set_option maxHeartbeats 4000000 in
set_option maxRecDepth 100000 in
theorem k62_X7_forth (l : Launch) (xs : Nat → Int32) : Mt l yX7_forth cX7_forth 2 (some .long) 2 [.ref 0, .int (xs 1)] (hz10) 0 0 (fun r h' => ((xs 1) < 0 ∧ r = some (.long (-1)) ∧ h' = hz10) ∨ (¬ (xs 1) < 0 ∧ 0 ≤ (xs 1) ∧ r = some (.long (-1)) ∧ h' = hz10)) := by
  refine Mt_ofn 117 hpN (by decide) (Nat.le_of_ble_eq_true rfl) ?_
  show Go l RX7 cX7_forth 2 (g_rm 2 0 0) "forth" (some .long) 117 0 0 _ _ 0 0 [(0, .ref 0), (1, .int (xs 1))] [] (hz10)
  refine go_aload_n (pc := 0) rfl dX7_forth_0 ?_
  refine go_iload_n (pc := 1) rfl dX7_forth_1 ?_
  refine go_invV (pc := 2) (sl := 0) (k47_X7_isStatement l xs) mL_X7_87 iM_X7_isStatement sM_X7_isStatement (g_sh hpS rfl) rfl rfl rfl (Nat.le_of_ble_eq_true rfl) (Nat.le_of_ble_eq_true rfl) (Nat.le_of_ble_eq_true rfl) (g_c0 hpN) (Nat.le_of_ble_eq_true rfl) dX7_forth_2 ?_
  intro r h' hq _
  rcases hq with ⟨q1, rfl, rfl⟩ | ⟨q1, q2, rfl, rfl⟩
  ·
    refine go_if_ne (pc := 5) (tgt := 12) (by decide) dX7_forth_5 (fun q => absurd q (by decide)) (fun _ => ?_)
    refine go_ldc2 (pc := 8) kL_X7_140 dX7_forth_8 ?_
    exact go_lret (pc := 11) (Or.inl ⟨q1, rfl, rfl⟩) hpN (Nat.le_of_ble_eq_true rfl) dX7_forth_11
  ·
    refine go_if_ne (pc := 5) (tgt := 12) (by decide) dX7_forth_5 (fun q => absurd q (by decide)) (fun _ => ?_)
    refine go_ldc2 (pc := 8) kL_X7_140 dX7_forth_8 ?_
    exact go_lret (pc := 11) (Or.inr (⟨q1, q2, rfl, rfl⟩)) hpN (Nat.le_of_ble_eq_true rfl) dX7_forth_11
set_option maxHeartbeats 4000000 in
set_option maxRecDepth 100000 in
theorem k63_X8_forth (l : Launch) (xs : Nat → Int32) : Mt l yX8_forth cX8_forth 2 (some .long) 2 [.ref 70, .int (xs 1)] (hz10) 0 0 (fun r h' => r = some (.long (-1)) ∧ h' = hz10) := by
  refine Mt_ofn 117 hpN (by decide) (Nat.le_of_ble_eq_true rfl) ?_
  show Go l RX8 cX8_forth 2 (g_rm 2 0 0) "forth" (some .long) 117 0 0 _ _ 0 0 [(0, .ref 70), (1, .int (xs 1))] [] (hz10)
  refine go_aload_n (pc := 0) rfl dX8_forth_0 ?_
  refine go_iload_n (pc := 1) rfl dX8_forth_1 ?_
  refine go_invV (pc := 2) (sl := 0) (k52_X8_isStatement l xs) mL_X8_389 iM_X8_isStatement sM_X8_isStatement (g_sh hpS rfl) rfl rfl rfl (Nat.le_of_ble_eq_true rfl) (Nat.le_of_ble_eq_true rfl) (Nat.le_of_ble_eq_true rfl) (g_c0 hpN) (Nat.le_of_ble_eq_true rfl) dX8_forth_2 ?_
  intro r h' hq _
  obtain ⟨rfl, rfl⟩ := hq
  refine go_if_eq (pc := 5) (tgt := 16) (by decide) dX8_forth_5 (fun _ => ?_) (fun q => absurd q (by decide))
  refine go_ldc2 (pc := 16) kL_X8_329 dX8_forth_16 ?_
  exact go_lret (pc := 19) (⟨rfl, rfl⟩) hpN (Nat.le_of_ble_eq_true rfl) dX8_forth_19
set_option maxHeartbeats 4000000 in
set_option maxRecDepth 100000 in
theorem k64_X7_between (l : Launch) (xs : Nat → Int32) : Mt l yX7_between cX7_between 3 (some .long) 2 [.ref 0, .int (xs 1), .int (xs 2)] (hz10) 0 0 (fun r h' => ((xs 1) < 0 ∧ r = some (.long (-1)) ∧ h' = hz10) ∨ (¬ (xs 1) < 0 ∧ 0 ≤ (xs 1) ∧ r = some (.long (-1)) ∧ h' = hz10)) := by
  refine Mt_ofn 117 hpN (by decide) (Nat.le_of_ble_eq_true rfl) ?_
  show Go l RX7 cX7_between 3 (g_rm 2 0 0) "between" (some .long) 117 0 0 _ _ 0 0 [(0, .ref 0), (1, .int (xs 1)), (2, .int (xs 2))] [] (hz10)
  refine go_aload_n (pc := 0) rfl dX7_between_0 ?_
  refine go_iload_n (pc := 1) rfl dX7_between_1 ?_
  refine go_invV (pc := 2) (sl := 0) (k47_X7_isStatement l xs) mL_X7_87 iM_X7_isStatement sM_X7_isStatement (g_sh hpS rfl) rfl rfl rfl (Nat.le_of_ble_eq_true rfl) (Nat.le_of_ble_eq_true rfl) (Nat.le_of_ble_eq_true rfl) (g_c0 hpN) (Nat.le_of_ble_eq_true rfl) dX7_between_2 ?_
  intro r h' hq _
  rcases hq with ⟨q1, rfl, rfl⟩ | ⟨q1, q2, rfl, rfl⟩
  ·
    refine go_if_eq (pc := 5) (tgt := 16) (by decide) dX7_between_5 (fun _ => ?_) (fun q => absurd q (by decide))
    refine go_ldc2 (pc := 16) kL_X7_140 dX7_between_16 ?_
    exact go_lret (pc := 19) (Or.inl ⟨q1, rfl, rfl⟩) hpN (Nat.le_of_ble_eq_true rfl) dX7_between_19
  ·
    refine go_if_eq (pc := 5) (tgt := 16) (by decide) dX7_between_5 (fun _ => ?_) (fun q => absurd q (by decide))
    refine go_ldc2 (pc := 16) kL_X7_140 dX7_between_16 ?_
    exact go_lret (pc := 19) (Or.inr (⟨q1, q2, rfl, rfl⟩)) hpN (Nat.le_of_ble_eq_true rfl) dX7_between_19
set_option maxHeartbeats 4000000 in
set_option maxRecDepth 100000 in
theorem k65_X8_between (l : Launch) (xs : Nat → Int32) : Mt l yX8_between cX8_between 3 (some .long) 2 [.ref 70, .int (xs 1), .int (xs 2)] (hz10) 0 0 (fun r h' => r = some (.long (-1)) ∧ h' = hz10) := by
  refine Mt_ofn 117 hpN (by decide) (Nat.le_of_ble_eq_true rfl) ?_
  show Go l RX8 cX8_between 3 (g_rm 2 0 0) "between" (some .long) 117 0 0 _ _ 0 0 [(0, .ref 70), (1, .int (xs 1)), (2, .int (xs 2))] [] (hz10)
  refine go_aload_n (pc := 0) rfl dX8_between_0 ?_
  refine go_iload_n (pc := 1) rfl dX8_between_1 ?_
  refine go_invV (pc := 2) (sl := 0) (k52_X8_isStatement l xs) mL_X8_389 iM_X8_isStatement sM_X8_isStatement (g_sh hpS rfl) rfl rfl rfl (Nat.le_of_ble_eq_true rfl) (Nat.le_of_ble_eq_true rfl) (Nat.le_of_ble_eq_true rfl) (g_c0 hpN) (Nat.le_of_ble_eq_true rfl) dX8_between_2 ?_
  intro r h' hq _
  obtain ⟨rfl, rfl⟩ := hq
  refine go_if_eq (pc := 5) (tgt := 31) (by decide) dX8_between_5 (fun _ => ?_) (fun q => absurd q (by decide))
  refine go_ldc2 (pc := 31) kL_X8_329 dX8_between_31 ?_
  exact go_lret (pc := 34) (⟨rfl, rfl⟩) hpN (Nat.le_of_ble_eq_true rfl) dX8_between_34
set_option maxHeartbeats 4000000 in
set_option maxRecDepth 100000 in
theorem k66_X7_backOf (l : Launch) (xs : Nat → Int32) : Mt l yX7_backOf cX7_backOf 3 (some .long) 2 [.ref 0, .int (xs 1), .int (xs 2)] (hz10) 0 0 (fun r h' => ((xs 1) < 0 ∧ r = some (.long (-1)) ∧ h' = hz10) ∨ (¬ (xs 1) < 0 ∧ 0 ≤ (xs 1) ∧ r = some (.long (-1)) ∧ h' = hz10)) := by
  refine Mt_ofn 117 hpN (by decide) (Nat.le_of_ble_eq_true rfl) ?_
  show Go l RX7 cX7_backOf 3 (g_rm 2 0 0) "backOf" (some .long) 117 0 0 _ _ 0 0 [(0, .ref 0), (1, .int (xs 1)), (2, .int (xs 2))] [] (hz10)
  refine go_aload_n (pc := 0) rfl dX7_backOf_0 ?_
  refine go_iload_n (pc := 1) rfl dX7_backOf_1 ?_
  refine go_invV (pc := 2) (sl := 0) (k54_X7_isProcedure l xs) mL_X7_126 iM_X7_isProcedure sM_X7_isProcedure (g_sh hpS rfl) rfl rfl rfl (Nat.le_of_ble_eq_true rfl) (Nat.le_of_ble_eq_true rfl) (Nat.le_of_ble_eq_true rfl) (g_c0 hpN) (Nat.le_of_ble_eq_true rfl) dX7_backOf_2 ?_
  intro r h' hq _
  rcases hq with ⟨q1, rfl, rfl⟩ | ⟨q1, q2, rfl, rfl⟩
  ·
    refine go_if_eq (pc := 5) (tgt := 15) (by decide) dX7_backOf_5 (fun _ => ?_) (fun q => absurd q (by decide))
    refine go_ldc2 (pc := 15) kL_X7_140 dX7_backOf_15 ?_
    exact go_lret (pc := 18) (Or.inl ⟨q1, rfl, rfl⟩) hpN (Nat.le_of_ble_eq_true rfl) dX7_backOf_18
  ·
    refine go_if_eq (pc := 5) (tgt := 15) (by decide) dX7_backOf_5 (fun _ => ?_) (fun q => absurd q (by decide))
    refine go_ldc2 (pc := 15) kL_X7_140 dX7_backOf_15 ?_
    exact go_lret (pc := 18) (Or.inr (⟨q1, q2, rfl, rfl⟩)) hpN (Nat.le_of_ble_eq_true rfl) dX7_backOf_18
set_option maxHeartbeats 4000000 in
set_option maxRecDepth 100000 in
theorem k67_X8_isProcedure (l : Launch) (xs : Nat → Int32) : Mt l yX8_isProcedure cX8_isProcedure 2 (some .boolean) 1 [.ref 70, .int (xs 1)] (hI hz10 70 6 0) 0 0 (fun r h' => r = some (.int 0) ∧ h' = hI hz10 70 6 0) := by
  refine Mt_ofn 117 (g_lnI hpN) (by decide) (Nat.le_of_ble_eq_true rfl) ?_
  show Go l RX8 cX8_isProcedure 2 (g_rm 1 0 0) "isProcedure" (some .boolean) 117 0 0 _ _ 0 0 [(0, .ref 70), (1, .int (xs 1))] [] (hI hz10 70 6 0)
  refine go_aload_n (pc := 0) rfl dX8_isProcedure_0 ?_
  refine go_getI (pc := 1) fL_X8_243 (g_shI (g_sh hpS rfl)) (Nat.le_of_ble_eq_true rfl) rfl dX8_isProcedure_1 (go_topi (y := 0) (g_iI rfl hpi_70_30) ?_)
  refine go_if_eq (pc := 4) (tgt := 30) (by decide) dX8_isProcedure_4 (fun _ => ?_) (fun q => absurd q (by decide))
  refine go_iconst (pc := 30) (v := 0) (by decide) dX8_isProcedure_30 ?_
  exact go_iret (pc := 31) rfl (⟨rfl, rfl⟩) (g_lnI hpN) (Nat.le_of_ble_eq_true rfl) dX8_isProcedure_31
set_option maxHeartbeats 4000000 in
set_option maxRecDepth 100000 in
theorem k68_X8_backOf (l : Launch) (xs : Nat → Int32) : Mt l yX8_backOf cX8_backOf 3 (some .long) 2 [.ref 70, .int (xs 1), .int (xs 2)] (hz10) 0 0 (fun r h' => r = some (.long (-1)) ∧ h' = hI hz10 70 6 0) := by
  refine Mt_ofn 117 hpN (by decide) (Nat.le_of_ble_eq_true rfl) ?_
  show Go l RX8 cX8_backOf 3 (g_rm 2 0 0) "backOf" (some .long) 117 0 0 _ _ 0 0 [(0, .ref 70), (1, .int (xs 1)), (2, .int (xs 2))] [] (hz10)
  refine go_aload_n (pc := 0) rfl dX8_backOf_0 ?_
  refine go_aload_n (pc := 1) rfl dX8_backOf_1 ?_
  refine go_getI (pc := 2) fL_X8_228 (g_sh hpS rfl) (Nat.le_of_ble_eq_true rfl) rfl dX8_backOf_2 (go_topi (y := 0) hpi_70_29 ?_)
  refine go_putI (pc := 5) (fP_X8_187 _) (g_sh hpS rfl) (Nat.le_of_ble_eq_true rfl) rfl (fun _ => rfl) (fun _ => rfl) dX8_backOf_5 ?_
  refine go_aload_n (pc := 8) rfl dX8_backOf_8 ?_
  refine go_iload_n (pc := 9) rfl dX8_backOf_9 ?_
  refine go_invV (pc := 10) (sl := 0) (k67_X8_isProcedure l xs) mL_X8_395 iM_X8_isProcedure sM_X8_isProcedure (g_shI (g_sh hpS rfl)) rfl rfl rfl (Nat.le_of_ble_eq_true rfl) (Nat.le_of_ble_eq_true rfl) (Nat.le_of_ble_eq_true rfl) (g_c0 (g_lnI hpN)) (Nat.le_of_ble_eq_true rfl) dX8_backOf_10 ?_
  intro r h' hq _
  obtain ⟨rfl, rfl⟩ := hq
  refine go_if_eq (pc := 13) (tgt := 25) (by decide) dX8_backOf_13 (fun _ => ?_) (fun q => absurd q (by decide))
  refine go_ldc2 (pc := 25) kL_X8_329 dX8_backOf_25 ?_
  exact go_lret (pc := 28) (⟨rfl, rfl⟩) (g_lnI hpN) (Nat.le_of_ble_eq_true rfl) dX8_backOf_28
set_option maxHeartbeats 4000000 in
set_option maxRecDepth 100000 in
theorem k69_X7_kept (l : Launch) (xs : Nat → Int32) : Mt l yX7_kept cX7_kept 2 (some .long) 2 [.ref 0, .int (xs 1)] (hz10) 0 0 (fun r h' => ((xs 1) < 0 ∧ r = some (.long (-1)) ∧ h' = hz10) ∨ (¬ (xs 1) < 0 ∧ 0 ≤ (xs 1) ∧ r = some (.long (-1)) ∧ h' = hz10)) := by
  refine Mt_ofn 117 hpN (by decide) (Nat.le_of_ble_eq_true rfl) ?_
  show Go l RX7 cX7_kept 2 (g_rm 2 0 0) "kept" (some .long) 117 0 0 _ _ 0 0 [(0, .ref 0), (1, .int (xs 1))] [] (hz10)
  refine go_aload_n (pc := 0) rfl dX7_kept_0 ?_
  refine go_iload_n (pc := 1) rfl dX7_kept_1 ?_
  refine go_invV (pc := 2) (sl := 0) (k47_X7_isStatement l xs) mL_X7_87 iM_X7_isStatement sM_X7_isStatement (g_sh hpS rfl) rfl rfl rfl (Nat.le_of_ble_eq_true rfl) (Nat.le_of_ble_eq_true rfl) (Nat.le_of_ble_eq_true rfl) (g_c0 hpN) (Nat.le_of_ble_eq_true rfl) dX7_kept_2 ?_
  intro r h' hq _
  rcases hq with ⟨q1, rfl, rfl⟩ | ⟨q1, q2, rfl, rfl⟩
  ·
    refine go_if_ne (pc := 5) (tgt := 12) (by decide) dX7_kept_5 (fun q => absurd q (by decide)) (fun _ => ?_)
    refine go_ldc2 (pc := 8) kL_X7_140 dX7_kept_8 ?_
    exact go_lret (pc := 11) (Or.inl ⟨q1, rfl, rfl⟩) hpN (Nat.le_of_ble_eq_true rfl) dX7_kept_11
  ·
    refine go_if_ne (pc := 5) (tgt := 12) (by decide) dX7_kept_5 (fun q => absurd q (by decide)) (fun _ => ?_)
    refine go_ldc2 (pc := 8) kL_X7_140 dX7_kept_8 ?_
    exact go_lret (pc := 11) (Or.inr (⟨q1, q2, rfl, rfl⟩)) hpN (Nat.le_of_ble_eq_true rfl) dX7_kept_11
set_option maxHeartbeats 4000000 in
set_option maxRecDepth 100000 in
theorem k70_X8_kept (l : Launch) (xs : Nat → Int32) : Mt l yX8_kept cX8_kept 2 (some .long) 2 [.ref 70, .int (xs 1)] (hz10) 0 0 (fun r h' => r = some (.long (-1)) ∧ h' = hz10) := by
  refine Mt_ofn 117 hpN (by decide) (Nat.le_of_ble_eq_true rfl) ?_
  show Go l RX8 cX8_kept 2 (g_rm 2 0 0) "kept" (some .long) 117 0 0 _ _ 0 0 [(0, .ref 70), (1, .int (xs 1))] [] (hz10)
  refine go_aload_n (pc := 0) rfl dX8_kept_0 ?_
  refine go_iload_n (pc := 1) rfl dX8_kept_1 ?_
  refine go_invV (pc := 2) (sl := 0) (k52_X8_isStatement l xs) mL_X8_389 iM_X8_isStatement sM_X8_isStatement (g_sh hpS rfl) rfl rfl rfl (Nat.le_of_ble_eq_true rfl) (Nat.le_of_ble_eq_true rfl) (Nat.le_of_ble_eq_true rfl) (g_c0 hpN) (Nat.le_of_ble_eq_true rfl) dX8_kept_2 ?_
  intro r h' hq _
  obtain ⟨rfl, rfl⟩ := hq
  refine go_if_eq (pc := 5) (tgt := 16) (by decide) dX8_kept_5 (fun _ => ?_) (fun q => absurd q (by decide))
  refine go_ldc2 (pc := 16) kL_X8_329 dX8_kept_16 ?_
  exact go_lret (pc := 19) (⟨rfl, rfl⟩) hpN (Nat.le_of_ble_eq_true rfl) dX8_kept_19
set_option maxHeartbeats 4000000 in
set_option maxRecDepth 100000 in
theorem k71_X7_run (l : Launch) (xs : Nat → Int32) : Mt l yX7_run cX7_run 3 (some .int) 1 [.ref 0, .int (xs 1), .int (xs 2)] (hz10) 0 0 (fun r h' => r = some (.int (-1)) ∧ h' = hz10) := by
  refine Mt_ofn 117 hpN (by decide) (Nat.le_of_ble_eq_true rfl) ?_
  show Go l RX7 cX7_run 3 (g_rm 1 0 0) "run" (some .int) 117 0 0 _ _ 0 0 [(0, .ref 0), (1, .int (xs 1)), (2, .int (xs 2))] [] (hz10)
  refine go_aload_n (pc := 0) rfl dX7_run_0 ?_
  refine go_getR (pc := 1) (v := .ref 2) fL_X7_23 (g_sh hpS rfl) (Nat.le_of_ble_eq_true rfl) rfl hpr_0_3 dX7_run_1 ?_
  refine go_getI (pc := 4) fL_X7_68 (g_sh hpS rfl) (Nat.le_of_ble_eq_true rfl) rfl dX7_run_4 (go_topi (y := 0) hpi_2_1 ?_)
  refine go_if_ne (pc := 7) (tgt := 12) (by decide) dX7_run_7 (fun q => absurd q (by decide)) (fun _ => ?_)
  refine go_iconst (pc := 10) (v := (-1)) (by decide) dX7_run_10 ?_
  exact go_iret (pc := 11) rfl (⟨rfl, rfl⟩) hpN (Nat.le_of_ble_eq_true rfl) dX7_run_11
set_option maxHeartbeats 4000000 in
set_option maxRecDepth 100000 in
theorem k72_X8_run (l : Launch) (xs : Nat → Int32) : Mt l yX8_run cX8_run 3 (some .int) 1 [.ref 70, .int (xs 1), .int (xs 2)] (hz10) 0 0 (fun r h' => r = some (.int (-1)) ∧ h' = hz10) := by
  refine Mt_ofn 117 hpN (by decide) (Nat.le_of_ble_eq_true rfl) ?_
  show Go l RX8 cX8_run 3 (g_rm 1 0 0) "run" (some .int) 117 0 0 _ _ 0 0 [(0, .ref 70), (1, .int (xs 1)), (2, .int (xs 2))] [] (hz10)
  refine go_aload_n (pc := 0) rfl dX8_run_0 ?_
  refine go_getI (pc := 1) fL_X8_243 (g_sh hpS rfl) (Nat.le_of_ble_eq_true rfl) rfl dX8_run_1 (go_topi (y := 0) hpi_70_30 ?_)
  refine go_if_eq (pc := 4) (tgt := 19) (by decide) dX8_run_4 (fun _ => ?_) (fun q => absurd q (by decide))
  refine go_iconst (pc := 19) (v := (-1)) (by decide) dX8_run_19 ?_
  exact go_iret (pc := 20) rfl (⟨rfl, rfl⟩) hpN (Nat.le_of_ble_eq_true rfl) dX8_run_20
set_option maxHeartbeats 4000000 in
set_option maxRecDepth 100000 in
theorem k73_X7_runKept (l : Launch) (xs : Nat → Int32) : Mt l yX7_runKept cX7_runKept 4 (some .int) 2 [.ref 0, .int (xs 1), .int (xs 2), .int (xs 3)] (hz10) 0 0 (fun r h' => ((xs 1) < 0 ∧ r = some (.int (-1)) ∧ h' = hz10) ∨ (¬ (xs 1) < 0 ∧ 0 ≤ (xs 1) ∧ r = some (.int (-1)) ∧ h' = hz10)) := by
  refine Mt_ofn 117 hpN (by decide) (Nat.le_of_ble_eq_true rfl) ?_
  show Go l RX7 cX7_runKept 4 (g_rm 2 0 0) "runKept" (some .int) 117 0 0 _ _ 0 0 [(0, .ref 0), (1, .int (xs 1)), (2, .int (xs 2)), (3, .int (xs 3))] [] (hz10)
  refine go_aload_n (pc := 0) rfl dX7_runKept_0 ?_
  refine go_iload_n (pc := 1) rfl dX7_runKept_1 ?_
  refine go_invV (pc := 2) (sl := 0) (k47_X7_isStatement l xs) mL_X7_87 iM_X7_isStatement sM_X7_isStatement (g_sh hpS rfl) rfl rfl rfl (Nat.le_of_ble_eq_true rfl) (Nat.le_of_ble_eq_true rfl) (Nat.le_of_ble_eq_true rfl) (g_c0 hpN) (Nat.le_of_ble_eq_true rfl) dX7_runKept_2 ?_
  intro r h' hq _
  rcases hq with ⟨q1, rfl, rfl⟩ | ⟨q1, q2, rfl, rfl⟩
  ·
    refine go_if_ne (pc := 5) (tgt := 10) (by decide) dX7_runKept_5 (fun q => absurd q (by decide)) (fun _ => ?_)
    refine go_iconst (pc := 8) (v := (-1)) (by decide) dX7_runKept_8 ?_
    exact go_iret (pc := 9) rfl (Or.inl ⟨q1, rfl, rfl⟩) hpN (Nat.le_of_ble_eq_true rfl) dX7_runKept_9
  ·
    refine go_if_ne (pc := 5) (tgt := 10) (by decide) dX7_runKept_5 (fun q => absurd q (by decide)) (fun _ => ?_)
    refine go_iconst (pc := 8) (v := (-1)) (by decide) dX7_runKept_8 ?_
    exact go_iret (pc := 9) rfl (Or.inr (⟨q1, q2, rfl, rfl⟩)) hpN (Nat.le_of_ble_eq_true rfl) dX7_runKept_9
set_option maxHeartbeats 4000000 in
set_option maxRecDepth 100000 in
theorem k74_X8_runKept (l : Launch) (xs : Nat → Int32) : Mt l yX8_runKept cX8_runKept 4 (some .int) 2 [.ref 70, .int (xs 1), .int (xs 2), .int (xs 3)] (hz10) 0 0 (fun r h' => r = some (.int (-1)) ∧ h' = hz10) := by
  refine Mt_ofn 117 hpN (by decide) (Nat.le_of_ble_eq_true rfl) ?_
  show Go l RX8 cX8_runKept 4 (g_rm 2 0 0) "runKept" (some .int) 117 0 0 _ _ 0 0 [(0, .ref 70), (1, .int (xs 1)), (2, .int (xs 2)), (3, .int (xs 3))] [] (hz10)
  refine go_aload_n (pc := 0) rfl dX8_runKept_0 ?_
  refine go_iload_n (pc := 1) rfl dX8_runKept_1 ?_
  refine go_invV (pc := 2) (sl := 0) (k52_X8_isStatement l xs) mL_X8_389 iM_X8_isStatement sM_X8_isStatement (g_sh hpS rfl) rfl rfl rfl (Nat.le_of_ble_eq_true rfl) (Nat.le_of_ble_eq_true rfl) (Nat.le_of_ble_eq_true rfl) (g_c0 hpN) (Nat.le_of_ble_eq_true rfl) dX8_runKept_2 ?_
  intro r h' hq _
  obtain ⟨rfl, rfl⟩ := hq
  refine go_if_eq (pc := 5) (tgt := 22) (by decide) dX8_runKept_5 (fun _ => ?_) (fun q => absurd q (by decide))
  refine go_iconst (pc := 22) (v := (-1)) (by decide) dX8_runKept_22 ?_
  exact go_iret (pc := 23) rfl (⟨rfl, rfl⟩) hpN (Nat.le_of_ble_eq_true rfl) dX8_runKept_23
set_option maxHeartbeats 4000000 in
set_option maxRecDepth 100000 in
theorem k75_X2_tell (l : Launch) (xs : Nat → Int32) : Mt l yX2_tell cX2_tell 2 (some .int) 1 [.ref 64, .int (xs 1)] (hz10) 0 0 (fun r h' => r = some (.int (-1)) ∧ h' = hz10) := by
  refine Mt_ofn 117 hpN (by decide) (Nat.le_of_ble_eq_true rfl) ?_
  show Go l RX2 cX2_tell 2 (g_rm 1 0 0) "tell" (some .int) 117 0 0 _ _ 0 0 [(0, .ref 64), (1, .int (xs 1))] [] (hz10)
  refine go_aload_n (pc := 0) rfl dX2_tell_0 ?_
  refine go_getI (pc := 1) fL_X2_31 (g_sh hpS rfl) (Nat.le_of_ble_eq_true rfl) rfl dX2_tell_1 (go_topi (y := (-1)) hpi_64_6 ?_)
  refine go_iconst (pc := 4) (v := (-1)) (by decide) dX2_tell_4 ?_
  refine go_icmp_ne (pc := 5) (tgt := 10) (by decide) dX2_tell_5 (fun q => absurd q (by decide)) (fun _ => ?_)
  refine go_iconst (pc := 8) (v := (-1)) (by decide) dX2_tell_8 ?_
  exact go_iret (pc := 9) rfl (⟨rfl, rfl⟩) hpN (Nat.le_of_ble_eq_true rfl) dX2_tell_9
set_option maxHeartbeats 4000000 in
set_option maxRecDepth 100000 in
theorem k76_X7_ended (l : Launch) (xs : Nat → Int32) : Mt l yX7_ended cX7_ended 2 (some .int) 2 [.ref 0, .int (xs 1)] (hz10) 0 0 (fun r h' => r = some (.int (-1)) ∧ h' = hz10) := by
  refine Mt_ofn 117 hpN (by decide) (Nat.le_of_ble_eq_true rfl) ?_
  show Go l RX7 cX7_ended 2 (g_rm 2 0 0) "ended" (some .int) 117 0 0 _ _ 0 0 [(0, .ref 0), (1, .int (xs 1))] [] (hz10)
  refine go_aload_n (pc := 0) rfl dX7_ended_0 ?_
  refine go_getR (pc := 1) (v := .ref 64) fL_X7_49 (g_sh hpS rfl) (Nat.le_of_ble_eq_true rfl) rfl hpr_0_7 dX7_ended_1 ?_
  refine go_iload_n (pc := 4) rfl dX7_ended_4 ?_
  refine go_invV (pc := 5) (sl := 0) (k75_X2_tell l xs) mL_X7_162 iM_X2_tell sM_X2_tell (g_sh hpS rfl) rfl rfl rfl (Nat.le_of_ble_eq_true rfl) (Nat.le_of_ble_eq_true rfl) (Nat.le_of_ble_eq_true rfl) (g_c0 hpN) (Nat.le_of_ble_eq_true rfl) dX7_ended_5 ?_
  intro r h' hq _
  obtain ⟨rfl, rfl⟩ := hq
  exact go_iret (pc := 8) rfl (⟨rfl, rfl⟩) hpN (Nat.le_of_ble_eq_true rfl) dX7_ended_8
set_option maxHeartbeats 4000000 in
set_option maxRecDepth 100000 in
theorem k77_X8_ended (l : Launch) (xs : Nat → Int32) : Mt l yX8_ended cX8_ended 2 (some .int) 1 [.ref 70, .int (xs 1)] (hz10) 0 0 (fun r h' => r = some (.int (-1)) ∧ h' = hz10) := by
  refine Mt_ofn 117 hpN (by decide) (Nat.le_of_ble_eq_true rfl) ?_
  show Go l RX8 cX8_ended 2 (g_rm 1 0 0) "ended" (some .int) 117 0 0 _ _ 0 0 [(0, .ref 70), (1, .int (xs 1))] [] (hz10)
  refine go_aload_n (pc := 0) rfl dX8_ended_0 ?_
  refine go_getI (pc := 1) fL_X8_243 (g_sh hpS rfl) (Nat.le_of_ble_eq_true rfl) rfl dX8_ended_1 (go_topi (y := 0) hpi_70_30 ?_)
  refine go_if_eq (pc := 4) (tgt := 14) (by decide) dX8_ended_4 (fun _ => ?_) (fun q => absurd q (by decide))
  refine go_iconst (pc := 14) (v := (-1)) (by decide) dX8_ended_14 ?_
  exact go_iret (pc := 15) rfl (⟨rfl, rfl⟩) hpN (Nat.le_of_ble_eq_true rfl) dX8_ended_15
set_option maxHeartbeats 4000000 in
set_option maxRecDepth 100000 in
theorem k78_X7_saw (l : Launch) (xs : Nat → Int32) : Mt l yX7_saw cX7_saw 3 (some .int) 2 [.ref 0, .int (xs 1), .int (xs 2)] (hz10) 0 0 (fun r h' => ((xs 1) < 0 ∧ r = some (.int 0) ∧ h' = hz10) ∨ (¬ (xs 1) < 0 ∧ 0 ≤ (xs 1) ∧ r = some (.int 0) ∧ h' = hz10)) := by
  refine Mt_ofn 117 hpN (by decide) (Nat.le_of_ble_eq_true rfl) ?_
  show Go l RX7 cX7_saw 3 (g_rm 2 0 0) "saw" (some .int) 117 0 0 _ _ 0 0 [(0, .ref 0), (1, .int (xs 1)), (2, .int (xs 2))] [] (hz10)
  refine go_aload_n (pc := 0) rfl dX7_saw_0 ?_
  refine go_iload_n (pc := 1) rfl dX7_saw_1 ?_
  refine go_invV (pc := 2) (sl := 0) (k47_X7_isStatement l xs) mL_X7_87 iM_X7_isStatement sM_X7_isStatement (g_sh hpS rfl) rfl rfl rfl (Nat.le_of_ble_eq_true rfl) (Nat.le_of_ble_eq_true rfl) (Nat.le_of_ble_eq_true rfl) (g_c0 hpN) (Nat.le_of_ble_eq_true rfl) dX7_saw_2 ?_
  intro r h' hq _
  rcases hq with ⟨q1, rfl, rfl⟩ | ⟨q1, q2, rfl, rfl⟩
  ·
    refine go_if_eq (pc := 5) (tgt := 13) (by decide) dX7_saw_5 (fun _ => ?_) (fun q => absurd q (by decide))
    refine go_iconst (pc := 13) (v := 0) (by decide) dX7_saw_13 ?_
    exact go_iret (pc := 14) rfl (Or.inl ⟨q1, rfl, rfl⟩) hpN (Nat.le_of_ble_eq_true rfl) dX7_saw_14
  ·
    refine go_if_eq (pc := 5) (tgt := 13) (by decide) dX7_saw_5 (fun _ => ?_) (fun q => absurd q (by decide))
    refine go_iconst (pc := 13) (v := 0) (by decide) dX7_saw_13 ?_
    exact go_iret (pc := 14) rfl (Or.inr (⟨q1, q2, rfl, rfl⟩)) hpN (Nat.le_of_ble_eq_true rfl) dX7_saw_14
set_option maxHeartbeats 4000000 in
set_option maxRecDepth 100000 in
theorem k79_X8_saw (l : Launch) (xs : Nat → Int32) : Mt l yX8_saw cX8_saw 5 (some .int) 2 [.ref 70, .int (xs 1), .int (xs 2)] (hz10) 0 0 (fun r h' => r = some (.int 0) ∧ h' = hz10) := by
  refine Mt_ofn 117 hpN (by decide) (Nat.le_of_ble_eq_true rfl) ?_
  show Go l RX8 cX8_saw 5 (g_rm 2 0 0) "saw" (some .int) 117 0 0 _ _ 0 0 [(0, .ref 70), (1, .int (xs 1)), (2, .int (xs 2))] [] (hz10)
  refine go_aload_n (pc := 0) rfl dX8_saw_0 ?_
  refine go_iload_n (pc := 1) rfl dX8_saw_1 ?_
  refine go_invV (pc := 2) (sl := 0) (k52_X8_isStatement l xs) mL_X8_389 iM_X8_isStatement sM_X8_isStatement (g_sh hpS rfl) rfl rfl rfl (Nat.le_of_ble_eq_true rfl) (Nat.le_of_ble_eq_true rfl) (Nat.le_of_ble_eq_true rfl) (g_c0 hpN) (Nat.le_of_ble_eq_true rfl) dX8_saw_2 ?_
  intro r h' hq _
  obtain ⟨rfl, rfl⟩ := hq
  refine go_if_eq (pc := 5) (tgt := 15) (by decide) dX8_saw_5 (fun _ => ?_) (fun q => absurd q (by decide))
  refine go_iconst (pc := 15) (v := 0) (by decide) dX8_saw_15 ?_
  exact go_iret (pc := 16) rfl (⟨rfl, rfl⟩) hpN (Nat.le_of_ble_eq_true rfl) dX8_saw_16
