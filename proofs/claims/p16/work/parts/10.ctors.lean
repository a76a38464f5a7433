def hz1 : HP := hR (hN (hR (hN (hR (hN (hR (hN (hR (hN (hR (hN (hR (hN (hR (hN (hR (hN (hR (hN (hR (hN (hR (hN (hR (hN (hR (hN (hR (hN (hI (hI (hL (hI (hI (hN (hI (hI (hR (hN (hN hpE 7 8) 9 500) 0 0 (.ref 1)) 0 1 0) 0 2 0) 0 20) 2 0 0) 2 1 0) 2 2 0) 2 3 0) 2 4 0) 10 5) 2 5 (.ref 3)) 10 40) 2 6 (.ref 4)) 10 40) 2 7 (.ref 5)) 10 40) 2 8 (.ref 6)) 10 40) 2 9 (.ref 7)) 10 40) 2 10 (.ref 8)) 10 40) 2 11 (.ref 9)) 10 40) 2 12 (.ref 10)) 10 40) 2 13 (.ref 11)) 10 40) 2 14 (.ref 12)) 10 40) 2 15 (.ref 13)) 10 40) 2 16 (.ref 14)) 10 40) 2 17 (.ref 15)) 10 40) 2 18 (.ref 16)) 10 40) 2 19 (.ref 17)
set_option maxHeartbeats 4000000 in
set_option maxRecDepth 100000 in
theorem k1_X0_init (l : Launch) : Mt l yX0_init cX0_init 1 none 1 [.ref 2] (hN (hI (hI (hR (hN (hN hpE 7 8) 9 500) 0 0 (.ref 1)) 0 1 0) 0 2 0) 0 20) 15 565 (fun r h' => r = none ∧ h' = hz1) := by
  refine Mt_ofn 3 rfl (by decide) (Nat.le_of_ble_eq_true rfl) ?_
  show Go l RX0 cX0_init 1 (g_rm 1 15 565) "<init>" none 3 15 565 _ _ 0 0 [(0, .ref 2)] [] (hN (hI (hI (hR (hN (hN hpE 7 8) 9 500) 0 0 (.ref 1)) 0 1 0) 0 2 0) 0 20)
  refine go_aload_n (pc := 0) rfl dX0_init_0 ?_
  refine go_objInit (pc := 1) oL_X0_3 oI oK (Nat.le_of_ble_eq_true rfl) (Nat.le_of_ble_eq_true rfl) (Nat.le_of_ble_eq_true rfl) dX0_init_1 ?_
  refine go_aload_n (pc := 4) rfl dX0_init_4 ?_
  refine go_iconst (pc := 5) (v := 0) (by decide) dX0_init_5 ?_
  refine go_putI (pc := 6) (fP_X0_9 _) rfl (Nat.le_of_ble_eq_true rfl) rfl (fun _ => rfl) (fun _ => rfl) dX0_init_6 ?_
  refine go_aload_n (pc := 9) rfl dX0_init_9 ?_
  refine go_iconst (pc := 10) (v := 0) (by decide) dX0_init_10 ?_
  refine go_putI (pc := 11) (fP_X0_15 _) rfl (Nat.le_of_ble_eq_true rfl) rfl (fun _ => rfl) (fun _ => rfl) dX0_init_11 ?_
  refine go_aload_n (pc := 14) rfl dX0_init_14 ?_
  refine go_lconst (pc := 15) (v := 0) (by decide) dX0_init_15 ?_
  refine go_putL (pc := 16) (fP_X0_18 _) rfl (Nat.le_of_ble_eq_true rfl) rfl (fun _ => rfl) (fun _ => rfl) dX0_init_16 ?_
  refine go_aload_n (pc := 19) rfl dX0_init_19 ?_
  refine go_iconst (pc := 20) (v := 0) (by decide) dX0_init_20 ?_
  refine go_putI (pc := 21) (fP_X0_22 _) rfl (Nat.le_of_ble_eq_true rfl) rfl (fun _ => rfl) (fun _ => rfl) dX0_init_21 ?_
  refine go_aload_n (pc := 24) rfl dX0_init_24 ?_
  refine go_iconst (pc := 25) (v := 0) (by decide) dX0_init_25 ?_
  refine go_putI (pc := 26) (fP_X0_25 _) rfl (Nat.le_of_ble_eq_true rfl) rfl (fun _ => rfl) (fun _ => rfl) dX0_init_26 ?_
  refine go_aload_n (pc := 29) rfl dX0_init_29 ?_
  refine go_iconst (pc := 30) (v := 5) (by decide) dX0_init_30 ?_
  refine go_newa (pc := 31) (sl := 0) (kd := 10) (len := 5) (by decide) aC_int (by decide) (by decide) (Nat.le_of_ble_eq_true rfl) (Nat.le_of_ble_eq_true rfl) (Nat.le_of_ble_eq_true rfl) dX0_init_31 ?_
  refine go_putR (pc := 33) (x := .ref 3) fP_X0_28 rfl (Nat.le_of_ble_eq_true rfl) rfl (fun _ => rfl) (fun _ => rfl) dX0_init_33 ?_
  refine go_aload_n (pc := 36) rfl dX0_init_36 ?_
  refine go_bipush (pc := 37) (v := 40) (by decide) dX0_init_37 ?_
  refine go_newa (pc := 39) (sl := 5) (kd := 10) (len := 40) (by decide) aC_int (by decide) (by decide) (Nat.le_of_ble_eq_true rfl) (Nat.le_of_ble_eq_true rfl) (Nat.le_of_ble_eq_true rfl) dX0_init_39 ?_
  refine go_putR (pc := 41) (x := .ref 4) fP_X0_32 rfl (Nat.le_of_ble_eq_true rfl) rfl (fun _ => rfl) (fun _ => rfl) dX0_init_41 ?_
  refine go_aload_n (pc := 44) rfl dX0_init_44 ?_
  refine go_bipush (pc := 45) (v := 40) (by decide) dX0_init_45 ?_
  refine go_newa (pc := 47) (sl := 45) (kd := 10) (len := 40) (by decide) aC_int (by decide) (by decide) (Nat.le_of_ble_eq_true rfl) (Nat.le_of_ble_eq_true rfl) (Nat.le_of_ble_eq_true rfl) dX0_init_47 ?_
  refine go_putR (pc := 49) (x := .ref 5) fP_X0_35 rfl (Nat.le_of_ble_eq_true rfl) rfl (fun _ => rfl) (fun _ => rfl) dX0_init_49 ?_
  refine go_aload_n (pc := 52) rfl dX0_init_52 ?_
  refine go_bipush (pc := 53) (v := 40) (by decide) dX0_init_53 ?_
  refine go_newa (pc := 55) (sl := 85) (kd := 10) (len := 40) (by decide) aC_int (by decide) (by decide) (Nat.le_of_ble_eq_true rfl) (Nat.le_of_ble_eq_true rfl) (Nat.le_of_ble_eq_true rfl) dX0_init_55 ?_
  refine go_putR (pc := 57) (x := .ref 6) fP_X0_38 rfl (Nat.le_of_ble_eq_true rfl) rfl (fun _ => rfl) (fun _ => rfl) dX0_init_57 ?_
  refine go_aload_n (pc := 60) rfl dX0_init_60 ?_
  refine go_bipush (pc := 61) (v := 40) (by decide) dX0_init_61 ?_
  refine go_newa (pc := 63) (sl := 125) (kd := 10) (len := 40) (by decide) aC_int (by decide) (by decide) (Nat.le_of_ble_eq_true rfl) (Nat.le_of_ble_eq_true rfl) (Nat.le_of_ble_eq_true rfl) dX0_init_63 ?_
  refine go_putR (pc := 65) (x := .ref 7) fP_X0_41 rfl (Nat.le_of_ble_eq_true rfl) rfl (fun _ => rfl) (fun _ => rfl) dX0_init_65 ?_
  refine go_aload_n (pc := 68) rfl dX0_init_68 ?_
  refine go_bipush (pc := 69) (v := 40) (by decide) dX0_init_69 ?_
  refine go_newa (pc := 71) (sl := 165) (kd := 10) (len := 40) (by decide) aC_int (by decide) (by decide) (Nat.le_of_ble_eq_true rfl) (Nat.le_of_ble_eq_true rfl) (Nat.le_of_ble_eq_true rfl) dX0_init_71 ?_
  refine go_putR (pc := 73) (x := .ref 8) fP_X0_44 rfl (Nat.le_of_ble_eq_true rfl) rfl (fun _ => rfl) (fun _ => rfl) dX0_init_73 ?_
  refine go_aload_n (pc := 76) rfl dX0_init_76 ?_
  refine go_bipush (pc := 77) (v := 40) (by decide) dX0_init_77 ?_
  refine go_newa (pc := 79) (sl := 205) (kd := 10) (len := 40) (by decide) aC_int (by decide) (by decide) (Nat.le_of_ble_eq_true rfl) (Nat.le_of_ble_eq_true rfl) (Nat.le_of_ble_eq_true rfl) dX0_init_79 ?_
  refine go_putR (pc := 81) (x := .ref 9) fP_X0_47 rfl (Nat.le_of_ble_eq_true rfl) rfl (fun _ => rfl) (fun _ => rfl) dX0_init_81 ?_
  refine go_aload_n (pc := 84) rfl dX0_init_84 ?_
  refine go_bipush (pc := 85) (v := 40) (by decide) dX0_init_85 ?_
  refine go_newa (pc := 87) (sl := 245) (kd := 10) (len := 40) (by decide) aC_int (by decide) (by decide) (Nat.le_of_ble_eq_true rfl) (Nat.le_of_ble_eq_true rfl) (Nat.le_of_ble_eq_true rfl) dX0_init_87 ?_
  refine go_putR (pc := 89) (x := .ref 10) fP_X0_50 rfl (Nat.le_of_ble_eq_true rfl) rfl (fun _ => rfl) (fun _ => rfl) dX0_init_89 ?_
  refine go_aload_n (pc := 92) rfl dX0_init_92 ?_
  refine go_bipush (pc := 93) (v := 40) (by decide) dX0_init_93 ?_
  refine go_newa (pc := 95) (sl := 285) (kd := 10) (len := 40) (by decide) aC_int (by decide) (by decide) (Nat.le_of_ble_eq_true rfl) (Nat.le_of_ble_eq_true rfl) (Nat.le_of_ble_eq_true rfl) dX0_init_95 ?_
  refine go_putR (pc := 97) (x := .ref 11) fP_X0_53 rfl (Nat.le_of_ble_eq_true rfl) rfl (fun _ => rfl) (fun _ => rfl) dX0_init_97 ?_
  refine go_aload_n (pc := 100) rfl dX0_init_100 ?_
  refine go_bipush (pc := 101) (v := 40) (by decide) dX0_init_101 ?_
  refine go_newa (pc := 103) (sl := 325) (kd := 10) (len := 40) (by decide) aC_int (by decide) (by decide) (Nat.le_of_ble_eq_true rfl) (Nat.le_of_ble_eq_true rfl) (Nat.le_of_ble_eq_true rfl) dX0_init_103 ?_
  refine go_putR (pc := 105) (x := .ref 12) fP_X0_56 rfl (Nat.le_of_ble_eq_true rfl) rfl (fun _ => rfl) (fun _ => rfl) dX0_init_105 ?_
  refine go_aload_n (pc := 108) rfl dX0_init_108 ?_
  refine go_bipush (pc := 109) (v := 40) (by decide) dX0_init_109 ?_
  refine go_newa (pc := 111) (sl := 365) (kd := 10) (len := 40) (by decide) aC_int (by decide) (by decide) (Nat.le_of_ble_eq_true rfl) (Nat.le_of_ble_eq_true rfl) (Nat.le_of_ble_eq_true rfl) dX0_init_111 ?_
  refine go_putR (pc := 113) (x := .ref 13) fP_X0_59 rfl (Nat.le_of_ble_eq_true rfl) rfl (fun _ => rfl) (fun _ => rfl) dX0_init_113 ?_
  refine go_aload_n (pc := 116) rfl dX0_init_116 ?_
  refine go_bipush (pc := 117) (v := 40) (by decide) dX0_init_117 ?_
  refine go_newa (pc := 119) (sl := 405) (kd := 10) (len := 40) (by decide) aC_int (by decide) (by decide) (Nat.le_of_ble_eq_true rfl) (Nat.le_of_ble_eq_true rfl) (Nat.le_of_ble_eq_true rfl) dX0_init_119 ?_
  refine go_putR (pc := 121) (x := .ref 14) fP_X0_62 rfl (Nat.le_of_ble_eq_true rfl) rfl (fun _ => rfl) (fun _ => rfl) dX0_init_121 ?_
  refine go_aload_n (pc := 124) rfl dX0_init_124 ?_
  refine go_bipush (pc := 125) (v := 40) (by decide) dX0_init_125 ?_
  refine go_newa (pc := 127) (sl := 445) (kd := 10) (len := 40) (by decide) aC_int (by decide) (by decide) (Nat.le_of_ble_eq_true rfl) (Nat.le_of_ble_eq_true rfl) (Nat.le_of_ble_eq_true rfl) dX0_init_127 ?_
  refine go_putR (pc := 129) (x := .ref 15) fP_X0_65 rfl (Nat.le_of_ble_eq_true rfl) rfl (fun _ => rfl) (fun _ => rfl) dX0_init_129 ?_
  refine go_aload_n (pc := 132) rfl dX0_init_132 ?_
  refine go_bipush (pc := 133) (v := 40) (by decide) dX0_init_133 ?_
  refine go_newa (pc := 135) (sl := 485) (kd := 10) (len := 40) (by decide) aC_int (by decide) (by decide) (Nat.le_of_ble_eq_true rfl) (Nat.le_of_ble_eq_true rfl) (Nat.le_of_ble_eq_true rfl) dX0_init_135 ?_
  refine go_putR (pc := 137) (x := .ref 16) fP_X0_68 rfl (Nat.le_of_ble_eq_true rfl) rfl (fun _ => rfl) (fun _ => rfl) dX0_init_137 ?_
  refine go_aload_n (pc := 140) rfl dX0_init_140 ?_
  refine go_bipush (pc := 141) (v := 40) (by decide) dX0_init_141 ?_
  refine go_newa (pc := 143) (sl := 525) (kd := 10) (len := 40) (by decide) aC_int (by decide) (by decide) (Nat.le_of_ble_eq_true rfl) (Nat.le_of_ble_eq_true rfl) (Nat.le_of_ble_eq_true rfl) dX0_init_143 ?_
  refine go_putR (pc := 145) (x := .ref 17) fP_X0_71 rfl (Nat.le_of_ble_eq_true rfl) rfl (fun _ => rfl) (fun _ => rfl) dX0_init_145 ?_
  exact go_vret (pc := 148) (⟨rfl, rfl⟩) rfl (Nat.le_of_ble_eq_true rfl) dX0_init_148
def hz2 : HP := hR (hN (hR (hN (hR (hN (hR (hN (hR (hN (hR (hN (hR (hN (hR (hN (hR (hN (hR (hN (hR (hN (hR (hN (hR (hN (hR (hN (hR (hN (hI (hI (hL (hI (hI (hN (hR hz1 0 3 (.ref 2)) 0 20) 18 0 0) 18 1 0) 18 2 0) 18 3 0) 18 4 0) 10 5) 18 5 (.ref 19)) 10 40) 18 6 (.ref 20)) 10 40) 18 7 (.ref 21)) 10 40) 18 8 (.ref 22)) 10 40) 18 9 (.ref 23)) 10 40) 18 10 (.ref 24)) 10 40) 18 11 (.ref 25)) 10 40) 18 12 (.ref 26)) 10 40) 18 13 (.ref 27)) 10 40) 18 14 (.ref 28)) 10 40) 18 15 (.ref 29)) 10 40) 18 16 (.ref 30)) 10 40) 18 17 (.ref 31)) 10 40) 18 18 (.ref 32)) 10 40) 18 19 (.ref 33)
set_option maxHeartbeats 4000000 in
set_option maxRecDepth 100000 in
theorem k2_X0_init (l : Launch) : Mt l yX0_init cX0_init 1 none 1 [.ref 18] (hN (hR hz1 0 3 (.ref 2)) 0 20) 15 565 (fun r h' => r = none ∧ h' = hz2) := by
  refine Mt_ofn 19 rfl (by decide) (Nat.le_of_ble_eq_true rfl) ?_
  show Go l RX0 cX0_init 1 (g_rm 1 15 565) "<init>" none 19 15 565 _ _ 0 0 [(0, .ref 18)] [] (hN (hR hz1 0 3 (.ref 2)) 0 20)
  refine go_aload_n (pc := 0) rfl dX0_init_0 ?_
  refine go_objInit (pc := 1) oL_X0_3 oI oK (Nat.le_of_ble_eq_true rfl) (Nat.le_of_ble_eq_true rfl) (Nat.le_of_ble_eq_true rfl) dX0_init_1 ?_
  refine go_aload_n (pc := 4) rfl dX0_init_4 ?_
  refine go_iconst (pc := 5) (v := 0) (by decide) dX0_init_5 ?_
  refine go_putI (pc := 6) (fP_X0_9 _) rfl (Nat.le_of_ble_eq_true rfl) rfl (fun _ => rfl) (fun _ => rfl) dX0_init_6 ?_
  refine go_aload_n (pc := 9) rfl dX0_init_9 ?_
  refine go_iconst (pc := 10) (v := 0) (by decide) dX0_init_10 ?_
  refine go_putI (pc := 11) (fP_X0_15 _) rfl (Nat.le_of_ble_eq_true rfl) rfl (fun _ => rfl) (fun _ => rfl) dX0_init_11 ?_
  refine go_aload_n (pc := 14) rfl dX0_init_14 ?_
  refine go_lconst (pc := 15) (v := 0) (by decide) dX0_init_15 ?_
  refine go_putL (pc := 16) (fP_X0_18 _) rfl (Nat.le_of_ble_eq_true rfl) rfl (fun _ => rfl) (fun _ => rfl) dX0_init_16 ?_
  refine go_aload_n (pc := 19) rfl dX0_init_19 ?_
  refine go_iconst (pc := 20) (v := 0) (by decide) dX0_init_20 ?_
  refine go_putI (pc := 21) (fP_X0_22 _) rfl (Nat.le_of_ble_eq_true rfl) rfl (fun _ => rfl) (fun _ => rfl) dX0_init_21 ?_
  refine go_aload_n (pc := 24) rfl dX0_init_24 ?_
  refine go_iconst (pc := 25) (v := 0) (by decide) dX0_init_25 ?_
  refine go_putI (pc := 26) (fP_X0_25 _) rfl (Nat.le_of_ble_eq_true rfl) rfl (fun _ => rfl) (fun _ => rfl) dX0_init_26 ?_
  refine go_aload_n (pc := 29) rfl dX0_init_29 ?_
  refine go_iconst (pc := 30) (v := 5) (by decide) dX0_init_30 ?_
  refine go_newa (pc := 31) (sl := 0) (kd := 10) (len := 5) (by decide) aC_int (by decide) (by decide) (Nat.le_of_ble_eq_true rfl) (Nat.le_of_ble_eq_true rfl) (Nat.le_of_ble_eq_true rfl) dX0_init_31 ?_
  refine go_putR (pc := 33) (x := .ref 19) fP_X0_28 rfl (Nat.le_of_ble_eq_true rfl) rfl (fun _ => rfl) (fun _ => rfl) dX0_init_33 ?_
  refine go_aload_n (pc := 36) rfl dX0_init_36 ?_
  refine go_bipush (pc := 37) (v := 40) (by decide) dX0_init_37 ?_
  refine go_newa (pc := 39) (sl := 5) (kd := 10) (len := 40) (by decide) aC_int (by decide) (by decide) (Nat.le_of_ble_eq_true rfl) (Nat.le_of_ble_eq_true rfl) (Nat.le_of_ble_eq_true rfl) dX0_init_39 ?_
  refine go_putR (pc := 41) (x := .ref 20) fP_X0_32 rfl (Nat.le_of_ble_eq_true rfl) rfl (fun _ => rfl) (fun _ => rfl) dX0_init_41 ?_
  refine go_aload_n (pc := 44) rfl dX0_init_44 ?_
  refine go_bipush (pc := 45) (v := 40) (by decide) dX0_init_45 ?_
  refine go_newa (pc := 47) (sl := 45) (kd := 10) (len := 40) (by decide) aC_int (by decide) (by decide) (Nat.le_of_ble_eq_true rfl) (Nat.le_of_ble_eq_true rfl) (Nat.le_of_ble_eq_true rfl) dX0_init_47 ?_
  refine go_putR (pc := 49) (x := .ref 21) fP_X0_35 rfl (Nat.le_of_ble_eq_true rfl) rfl (fun _ => rfl) (fun _ => rfl) dX0_init_49 ?_
  refine go_aload_n (pc := 52) rfl dX0_init_52 ?_
  refine go_bipush (pc := 53) (v := 40) (by decide) dX0_init_53 ?_
  refine go_newa (pc := 55) (sl := 85) (kd := 10) (len := 40) (by decide) aC_int (by decide) (by decide) (Nat.le_of_ble_eq_true rfl) (Nat.le_of_ble_eq_true rfl) (Nat.le_of_ble_eq_true rfl) dX0_init_55 ?_
  refine go_putR (pc := 57) (x := .ref 22) fP_X0_38 rfl (Nat.le_of_ble_eq_true rfl) rfl (fun _ => rfl) (fun _ => rfl) dX0_init_57 ?_
  refine go_aload_n (pc := 60) rfl dX0_init_60 ?_
  refine go_bipush (pc := 61) (v := 40) (by decide) dX0_init_61 ?_
  refine go_newa (pc := 63) (sl := 125) (kd := 10) (len := 40) (by decide) aC_int (by decide) (by decide) (Nat.le_of_ble_eq_true rfl) (Nat.le_of_ble_eq_true rfl) (Nat.le_of_ble_eq_true rfl) dX0_init_63 ?_
  refine go_putR (pc := 65) (x := .ref 23) fP_X0_41 rfl (Nat.le_of_ble_eq_true rfl) rfl (fun _ => rfl) (fun _ => rfl) dX0_init_65 ?_
  refine go_aload_n (pc := 68) rfl dX0_init_68 ?_
  refine go_bipush (pc := 69) (v := 40) (by decide) dX0_init_69 ?_
  refine go_newa (pc := 71) (sl := 165) (kd := 10) (len := 40) (by decide) aC_int (by decide) (by decide) (Nat.le_of_ble_eq_true rfl) (Nat.le_of_ble_eq_true rfl) (Nat.le_of_ble_eq_true rfl) dX0_init_71 ?_
  refine go_putR (pc := 73) (x := .ref 24) fP_X0_44 rfl (Nat.le_of_ble_eq_true rfl) rfl (fun _ => rfl) (fun _ => rfl) dX0_init_73 ?_
  refine go_aload_n (pc := 76) rfl dX0_init_76 ?_
  refine go_bipush (pc := 77) (v := 40) (by decide) dX0_init_77 ?_
  refine go_newa (pc := 79) (sl := 205) (kd := 10) (len := 40) (by decide) aC_int (by decide) (by decide) (Nat.le_of_ble_eq_true rfl) (Nat.le_of_ble_eq_true rfl) (Nat.le_of_ble_eq_true rfl) dX0_init_79 ?_
  refine go_putR (pc := 81) (x := .ref 25) fP_X0_47 rfl (Nat.le_of_ble_eq_true rfl) rfl (fun _ => rfl) (fun _ => rfl) dX0_init_81 ?_
  refine go_aload_n (pc := 84) rfl dX0_init_84 ?_
  refine go_bipush (pc := 85) (v := 40) (by decide) dX0_init_85 ?_
  refine go_newa (pc := 87) (sl := 245) (kd := 10) (len := 40) (by decide) aC_int (by decide) (by decide) (Nat.le_of_ble_eq_true rfl) (Nat.le_of_ble_eq_true rfl) (Nat.le_of_ble_eq_true rfl) dX0_init_87 ?_
  refine go_putR (pc := 89) (x := .ref 26) fP_X0_50 rfl (Nat.le_of_ble_eq_true rfl) rfl (fun _ => rfl) (fun _ => rfl) dX0_init_89 ?_
  refine go_aload_n (pc := 92) rfl dX0_init_92 ?_
  refine go_bipush (pc := 93) (v := 40) (by decide) dX0_init_93 ?_
  refine go_newa (pc := 95) (sl := 285) (kd := 10) (len := 40) (by decide) aC_int (by decide) (by decide) (Nat.le_of_ble_eq_true rfl) (Nat.le_of_ble_eq_true rfl) (Nat.le_of_ble_eq_true rfl) dX0_init_95 ?_
  refine go_putR (pc := 97) (x := .ref 27) fP_X0_53 rfl (Nat.le_of_ble_eq_true rfl) rfl (fun _ => rfl) (fun _ => rfl) dX0_init_97 ?_
  refine go_aload_n (pc := 100) rfl dX0_init_100 ?_
  refine go_bipush (pc := 101) (v := 40) (by decide) dX0_init_101 ?_
  refine go_newa (pc := 103) (sl := 325) (kd := 10) (len := 40) (by decide) aC_int (by decide) (by decide) (Nat.le_of_ble_eq_true rfl) (Nat.le_of_ble_eq_true rfl) (Nat.le_of_ble_eq_true rfl) dX0_init_103 ?_
  refine go_putR (pc := 105) (x := .ref 28) fP_X0_56 rfl (Nat.le_of_ble_eq_true rfl) rfl (fun _ => rfl) (fun _ => rfl) dX0_init_105 ?_
  refine go_aload_n (pc := 108) rfl dX0_init_108 ?_
  refine go_bipush (pc := 109) (v := 40) (by decide) dX0_init_109 ?_
  refine go_newa (pc := 111) (sl := 365) (kd := 10) (len := 40) (by decide) aC_int (by decide) (by decide) (Nat.le_of_ble_eq_true rfl) (Nat.le_of_ble_eq_true rfl) (Nat.le_of_ble_eq_true rfl) dX0_init_111 ?_
  refine go_putR (pc := 113) (x := .ref 29) fP_X0_59 rfl (Nat.le_of_ble_eq_true rfl) rfl (fun _ => rfl) (fun _ => rfl) dX0_init_113 ?_
  refine go_aload_n (pc := 116) rfl dX0_init_116 ?_
  refine go_bipush (pc := 117) (v := 40) (by decide) dX0_init_117 ?_
  refine go_newa (pc := 119) (sl := 405) (kd := 10) (len := 40) (by decide) aC_int (by decide) (by decide) (Nat.le_of_ble_eq_true rfl) (Nat.le_of_ble_eq_true rfl) (Nat.le_of_ble_eq_true rfl) dX0_init_119 ?_
  refine go_putR (pc := 121) (x := .ref 30) fP_X0_62 rfl (Nat.le_of_ble_eq_true rfl) rfl (fun _ => rfl) (fun _ => rfl) dX0_init_121 ?_
  refine go_aload_n (pc := 124) rfl dX0_init_124 ?_
  refine go_bipush (pc := 125) (v := 40) (by decide) dX0_init_125 ?_
  refine go_newa (pc := 127) (sl := 445) (kd := 10) (len := 40) (by decide) aC_int (by decide) (by decide) (Nat.le_of_ble_eq_true rfl) (Nat.le_of_ble_eq_true rfl) (Nat.le_of_ble_eq_true rfl) dX0_init_127 ?_
  refine go_putR (pc := 129) (x := .ref 31) fP_X0_65 rfl (Nat.le_of_ble_eq_true rfl) rfl (fun _ => rfl) (fun _ => rfl) dX0_init_129 ?_
  refine go_aload_n (pc := 132) rfl dX0_init_132 ?_
  refine go_bipush (pc := 133) (v := 40) (by decide) dX0_init_133 ?_
  refine go_newa (pc := 135) (sl := 485) (kd := 10) (len := 40) (by decide) aC_int (by decide) (by decide) (Nat.le_of_ble_eq_true rfl) (Nat.le_of_ble_eq_true rfl) (Nat.le_of_ble_eq_true rfl) dX0_init_135 ?_
  refine go_putR (pc := 137) (x := .ref 32) fP_X0_68 rfl (Nat.le_of_ble_eq_true rfl) rfl (fun _ => rfl) (fun _ => rfl) dX0_init_137 ?_
  refine go_aload_n (pc := 140) rfl dX0_init_140 ?_
  refine go_bipush (pc := 141) (v := 40) (by decide) dX0_init_141 ?_
  refine go_newa (pc := 143) (sl := 525) (kd := 10) (len := 40) (by decide) aC_int (by decide) (by decide) (Nat.le_of_ble_eq_true rfl) (Nat.le_of_ble_eq_true rfl) (Nat.le_of_ble_eq_true rfl) dX0_init_143 ?_
  refine go_putR (pc := 145) (x := .ref 33) fP_X0_71 rfl (Nat.le_of_ble_eq_true rfl) rfl (fun _ => rfl) (fun _ => rfl) dX0_init_145 ?_
  exact go_vret (pc := 148) (⟨rfl, rfl⟩) rfl (Nat.le_of_ble_eq_true rfl) dX0_init_148
def hz3 : HP := hR (hN (hR (hN (hR (hN (hR (hN (hR (hN (hR (hN (hR (hN (hR (hN (hI (hN (hI (hI (hI (hR (hN (hN (hR hz2 0 4 (.ref 18)) 3 11) 9 0) 34 0 (.ref 35)) 34 1 0) 34 2 0) 34 3 0) 5 9) 36 0 0) 10 128) 36 1 (.ref 37)) 10 128) 36 2 (.ref 38)) 10 128) 36 3 (.ref 39)) 10 128) 36 4 (.ref 40)) 10 128) 36 5 (.ref 41)) 10 128) 36 6 (.ref 42)) 10 128) 36 7 (.ref 43)) 10 5) 36 8 (.ref 44)
set_option maxHeartbeats 4000000 in
set_option maxRecDepth 100000 in
theorem k3_X5_init (l : Launch) : Mt l yX5_init cX5_init 1 none 1 [.ref 36] (hN (hI (hI (hI (hR (hN (hN (hR hz2 0 4 (.ref 18)) 3 11) 9 0) 34 0 (.ref 35)) 34 1 0) 34 2 0) 34 3 0) 5 9) 8 901 (fun r h' => r = none ∧ h' = hz3) := by
  refine Mt_ofn 37 rfl (by decide) (Nat.le_of_ble_eq_true rfl) ?_
  show Go l RX5 cX5_init 1 (g_rm 1 8 901) "<init>" none 37 8 901 _ _ 0 0 [(0, .ref 36)] [] (hN (hI (hI (hI (hR (hN (hN (hR hz2 0 4 (.ref 18)) 3 11) 9 0) 34 0 (.ref 35)) 34 1 0) 34 2 0) 34 3 0) 5 9)
  refine go_aload_n (pc := 0) rfl dX5_init_0 ?_
  refine go_objInit (pc := 1) oL_X5_3 oI oK (Nat.le_of_ble_eq_true rfl) (Nat.le_of_ble_eq_true rfl) (Nat.le_of_ble_eq_true rfl) dX5_init_1 ?_
  refine go_aload_n (pc := 4) rfl dX5_init_4 ?_
  refine go_iconst (pc := 5) (v := 0) (by decide) dX5_init_5 ?_
  refine go_putI (pc := 6) (fP_X5_9 _) rfl (Nat.le_of_ble_eq_true rfl) rfl (fun _ => rfl) (fun _ => rfl) dX5_init_6 ?_
  refine go_aload_n (pc := 9) rfl dX5_init_9 ?_
  refine go_sipush (pc := 10) (v := 128) (by decide) dX5_init_10 ?_
  refine go_newa (pc := 13) (sl := 0) (kd := 10) (len := 128) (by decide) aC_int (by decide) (by decide) (Nat.le_of_ble_eq_true rfl) (Nat.le_of_ble_eq_true rfl) (Nat.le_of_ble_eq_true rfl) dX5_init_13 ?_
  refine go_putR (pc := 15) (x := .ref 37) fP_X5_15 rfl (Nat.le_of_ble_eq_true rfl) rfl (fun _ => rfl) (fun _ => rfl) dX5_init_15 ?_
  refine go_aload_n (pc := 18) rfl dX5_init_18 ?_
  refine go_sipush (pc := 19) (v := 128) (by decide) dX5_init_19 ?_
  refine go_newa (pc := 22) (sl := 128) (kd := 10) (len := 128) (by decide) aC_int (by decide) (by decide) (Nat.le_of_ble_eq_true rfl) (Nat.le_of_ble_eq_true rfl) (Nat.le_of_ble_eq_true rfl) dX5_init_22 ?_
  refine go_putR (pc := 24) (x := .ref 38) fP_X5_19 rfl (Nat.le_of_ble_eq_true rfl) rfl (fun _ => rfl) (fun _ => rfl) dX5_init_24 ?_
  refine go_aload_n (pc := 27) rfl dX5_init_27 ?_
  refine go_sipush (pc := 28) (v := 128) (by decide) dX5_init_28 ?_
  refine go_newa (pc := 31) (sl := 256) (kd := 10) (len := 128) (by decide) aC_int (by decide) (by decide) (Nat.le_of_ble_eq_true rfl) (Nat.le_of_ble_eq_true rfl) (Nat.le_of_ble_eq_true rfl) dX5_init_31 ?_
  refine go_putR (pc := 33) (x := .ref 39) fP_X5_22 rfl (Nat.le_of_ble_eq_true rfl) rfl (fun _ => rfl) (fun _ => rfl) dX5_init_33 ?_
  refine go_aload_n (pc := 36) rfl dX5_init_36 ?_
  refine go_sipush (pc := 37) (v := 128) (by decide) dX5_init_37 ?_
  refine go_newa (pc := 40) (sl := 384) (kd := 10) (len := 128) (by decide) aC_int (by decide) (by decide) (Nat.le_of_ble_eq_true rfl) (Nat.le_of_ble_eq_true rfl) (Nat.le_of_ble_eq_true rfl) dX5_init_40 ?_
  refine go_putR (pc := 42) (x := .ref 40) fP_X5_25 rfl (Nat.le_of_ble_eq_true rfl) rfl (fun _ => rfl) (fun _ => rfl) dX5_init_42 ?_
  refine go_aload_n (pc := 45) rfl dX5_init_45 ?_
  refine go_sipush (pc := 46) (v := 128) (by decide) dX5_init_46 ?_
  refine go_newa (pc := 49) (sl := 512) (kd := 10) (len := 128) (by decide) aC_int (by decide) (by decide) (Nat.le_of_ble_eq_true rfl) (Nat.le_of_ble_eq_true rfl) (Nat.le_of_ble_eq_true rfl) dX5_init_49 ?_
  refine go_putR (pc := 51) (x := .ref 41) fP_X5_28 rfl (Nat.le_of_ble_eq_true rfl) rfl (fun _ => rfl) (fun _ => rfl) dX5_init_51 ?_
  refine go_aload_n (pc := 54) rfl dX5_init_54 ?_
  refine go_sipush (pc := 55) (v := 128) (by decide) dX5_init_55 ?_
  refine go_newa (pc := 58) (sl := 640) (kd := 10) (len := 128) (by decide) aC_int (by decide) (by decide) (Nat.le_of_ble_eq_true rfl) (Nat.le_of_ble_eq_true rfl) (Nat.le_of_ble_eq_true rfl) dX5_init_58 ?_
  refine go_putR (pc := 60) (x := .ref 42) fP_X5_31 rfl (Nat.le_of_ble_eq_true rfl) rfl (fun _ => rfl) (fun _ => rfl) dX5_init_60 ?_
  refine go_aload_n (pc := 63) rfl dX5_init_63 ?_
  refine go_sipush (pc := 64) (v := 128) (by decide) dX5_init_64 ?_
  refine go_newa (pc := 67) (sl := 768) (kd := 10) (len := 128) (by decide) aC_int (by decide) (by decide) (Nat.le_of_ble_eq_true rfl) (Nat.le_of_ble_eq_true rfl) (Nat.le_of_ble_eq_true rfl) dX5_init_67 ?_
  refine go_putR (pc := 69) (x := .ref 43) fP_X5_34 rfl (Nat.le_of_ble_eq_true rfl) rfl (fun _ => rfl) (fun _ => rfl) dX5_init_69 ?_
  refine go_aload_n (pc := 72) rfl dX5_init_72 ?_
  refine go_iconst (pc := 73) (v := 5) (by decide) dX5_init_73 ?_
  refine go_newa (pc := 74) (sl := 896) (kd := 10) (len := 5) (by decide) aC_int (by decide) (by decide) (Nat.le_of_ble_eq_true rfl) (Nat.le_of_ble_eq_true rfl) (Nat.le_of_ble_eq_true rfl) dX5_init_74 ?_
  refine go_putR (pc := 76) (x := .ref 44) fP_X5_37 rfl (Nat.le_of_ble_eq_true rfl) rfl (fun _ => rfl) (fun _ => rfl) dX5_init_76 ?_
  exact go_vret (pc := 79) (⟨rfl, rfl⟩) rfl (Nat.le_of_ble_eq_true rfl) dX5_init_79
set_option maxHeartbeats 4000000 in
set_option maxRecDepth 100000 in
theorem k4_X6_init (l : Launch) : Mt l yX6_init cX6_init 3 none 1 [.ref 48, .ref 36, .ref 18] (hN (hR (hR (hN (hR (hN (hR (hN (hI (hR hz3 34 5 (.ref 36)) 34 7 0) 10 7) 34 8 (.ref 45)) 10 7) 34 9 (.ref 46)) 12 7) 34 10 (.ref 47)) 34 4 (.ref 18)) 6 2) 0 0 (fun r h' => r = none ∧ h' = hR (hR (hN (hR (hR (hN (hR (hN (hR (hN (hI (hR hz3 34 5 (.ref 36)) 34 7 0) 10 7) 34 8 (.ref 45)) 10 7) 34 9 (.ref 46)) 12 7) 34 10 (.ref 47)) 34 4 (.ref 18)) 6 2) 48 0 (.ref 36)) 48 1 (.ref 18)) := by
  refine Mt_ofn 49 rfl (by decide) (Nat.le_of_ble_eq_true rfl) ?_
  show Go l RX6 cX6_init 3 (g_rm 1 0 0) "<init>" none 49 0 0 _ _ 0 0 [(0, .ref 48), (1, .ref 36), (2, .ref 18)] [] (hN (hR (hR (hN (hR (hN (hR (hN (hI (hR hz3 34 5 (.ref 36)) 34 7 0) 10 7) 34 8 (.ref 45)) 10 7) 34 9 (.ref 46)) 12 7) 34 10 (.ref 47)) 34 4 (.ref 18)) 6 2)
  refine go_aload_n (pc := 0) rfl dX6_init_0 ?_
  refine go_objInit (pc := 1) oL_X6_3 oI oK (Nat.le_of_ble_eq_true rfl) (Nat.le_of_ble_eq_true rfl) (Nat.le_of_ble_eq_true rfl) dX6_init_1 ?_
  refine go_aload_n (pc := 4) rfl dX6_init_4 ?_
  refine go_aload_n (pc := 5) rfl dX6_init_5 ?_
  refine go_putR (pc := 6) (x := .ref 36) fP_X6_9 rfl (Nat.le_of_ble_eq_true rfl) rfl (fun _ => rfl) (fun _ => rfl) dX6_init_6 ?_
  refine go_aload_n (pc := 9) rfl dX6_init_9 ?_
  refine go_aload_n (pc := 10) rfl dX6_init_10 ?_
  refine go_putR (pc := 11) (x := .ref 18) (fP_X6_15 _) rfl (Nat.le_of_ble_eq_true rfl) rfl (fun _ => rfl) (fun _ => rfl) dX6_init_11 ?_
  exact go_vret (pc := 14) (⟨rfl, rfl⟩) rfl (Nat.le_of_ble_eq_true rfl) dX6_init_14
def hz5 : HP := hR (hR (hR (hN (hR (hR (hN (hR (hN (hR (hN (hI (hR hz3 34 5 (.ref 36)) 34 7 0) 10 7) 34 8 (.ref 45)) 10 7) 34 9 (.ref 46)) 12 7) 34 10 (.ref 47)) 34 4 (.ref 18)) 6 2) 48 0 (.ref 36)) 48 1 (.ref 18)) 34 6 (.ref 48)
set_option maxHeartbeats 4000000 in
set_option maxRecDepth 100000 in
theorem k5_X3_init (l : Launch) : Mt l yX3_init cX3_init 2 none 2 [.ref 34, .ref 18] (hN (hR hz2 0 4 (.ref 18)) 3 11) 14 933 (fun r h' => r = none ∧ h' = hz5) := by
  refine Mt_ofn 35 rfl (by decide) (Nat.le_of_ble_eq_true rfl) ?_
  show Go l RX3 cX3_init 2 (g_rm 2 14 933) "<init>" none 35 14 933 _ _ 0 0 [(0, .ref 34), (1, .ref 18)] [] (hN (hR hz2 0 4 (.ref 18)) 3 11)
  refine go_aload_n (pc := 0) rfl dX3_init_0 ?_
  refine go_objInit (pc := 1) oL_X3_3 oI oK (Nat.le_of_ble_eq_true rfl) (Nat.le_of_ble_eq_true rfl) (Nat.le_of_ble_eq_true rfl) dX3_init_1 ?_
  refine go_aload_n (pc := 4) rfl dX3_init_4 ?_
  refine go_iconst (pc := 5) (v := 0) (by decide) dX3_init_5 ?_
  refine go_newa (pc := 6) (sl := 0) (kd := 9) (len := 0) (by decide) aC_byte (by decide) (by decide) (Nat.le_of_ble_eq_true rfl) (Nat.le_of_ble_eq_true rfl) (Nat.le_of_ble_eq_true rfl) dX3_init_6 ?_
  refine go_putR (pc := 8) (x := .ref 35) (fP_X3_9 _) rfl (Nat.le_of_ble_eq_true rfl) rfl (fun _ => rfl) (fun _ => rfl) dX3_init_8 ?_
  refine go_aload_n (pc := 11) rfl dX3_init_11 ?_
  refine go_iconst (pc := 12) (v := 0) (by decide) dX3_init_12 ?_
  refine go_putI (pc := 13) (fP_X3_15 _) rfl (Nat.le_of_ble_eq_true rfl) rfl (fun _ => rfl) (fun _ => rfl) dX3_init_13 ?_
  refine go_aload_n (pc := 16) rfl dX3_init_16 ?_
  refine go_iconst (pc := 17) (v := 0) (by decide) dX3_init_17 ?_
  refine go_putI (pc := 18) (fP_X3_19 _) rfl (Nat.le_of_ble_eq_true rfl) rfl (fun _ => rfl) (fun _ => rfl) dX3_init_18 ?_
  refine go_aload_n (pc := 21) rfl dX3_init_21 ?_
  refine go_iconst (pc := 22) (v := 0) (by decide) dX3_init_22 ?_
  refine go_putI (pc := 23) (fP_X3_22 _) rfl (Nat.le_of_ble_eq_true rfl) rfl (fun _ => rfl) (fun _ => rfl) dX3_init_23 ?_
  refine go_aload_n (pc := 26) rfl dX3_init_26 ?_
  refine go_new (pc := 27) (sl := 0) (ci := 5) rfl cL_X3_25 oC_X5 nC_X5 (Nat.le_of_ble_eq_true rfl) (Nat.le_of_ble_eq_true rfl) dX3_init_27 ?_
  refine go_dup (pc := 30) rfl dX3_init_30 ?_
  refine go_invI (pc := 31) (sl := 9) (k3_X5_init l) mL_X3_27 iM_X5_init rfl rfl rfl (Nat.le_of_ble_eq_true rfl) (Nat.le_of_ble_eq_true rfl) (Nat.le_of_ble_eq_true rfl) (Nat.le_of_ble_eq_true rfl) (Nat.le_of_ble_eq_true rfl) dX3_init_31 ?_
  intro r h' hq _
  obtain ⟨rfl, rfl⟩ := hq
  refine go_putR (pc := 34) (x := .ref 36) fP_X3_28 rfl (Nat.le_of_ble_eq_true rfl) rfl (fun _ => rfl) (fun _ => rfl) dX3_init_34 ?_
  refine go_aload_n (pc := 37) rfl dX3_init_37 ?_
  refine go_iconst (pc := 38) (v := 0) (by decide) dX3_init_38 ?_
  refine go_putI (pc := 39) (fP_X3_32 _) rfl (Nat.le_of_ble_eq_true rfl) rfl (fun _ => rfl) (fun _ => rfl) dX3_init_39 ?_
  refine go_aload_n (pc := 42) rfl dX3_init_42 ?_
  refine go_bipush (pc := 43) (v := 7) (by decide) dX3_init_43 ?_
  refine go_newa (pc := 45) (sl := 910) (kd := 10) (len := 7) (by decide) aC_int (by decide) (by decide) (Nat.le_of_ble_eq_true rfl) (Nat.le_of_ble_eq_true rfl) (Nat.le_of_ble_eq_true rfl) dX3_init_45 ?_
  refine go_putR (pc := 47) (x := .ref 45) fP_X3_35 rfl (Nat.le_of_ble_eq_true rfl) rfl (fun _ => rfl) (fun _ => rfl) dX3_init_47 ?_
  refine go_aload_n (pc := 50) rfl dX3_init_50 ?_
  refine go_bipush (pc := 51) (v := 7) (by decide) dX3_init_51 ?_
  refine go_newa (pc := 53) (sl := 917) (kd := 10) (len := 7) (by decide) aC_int (by decide) (by decide) (Nat.le_of_ble_eq_true rfl) (Nat.le_of_ble_eq_true rfl) (Nat.le_of_ble_eq_true rfl) dX3_init_53 ?_
  refine go_putR (pc := 55) (x := .ref 46) fP_X3_39 rfl (Nat.le_of_ble_eq_true rfl) rfl (fun _ => rfl) (fun _ => rfl) dX3_init_55 ?_
  refine go_aload_n (pc := 58) rfl dX3_init_58 ?_
  refine go_bipush (pc := 59) (v := 7) (by decide) dX3_init_59 ?_
  refine go_newa (pc := 61) (sl := 924) (kd := 12) (len := 7) (by decide) aC_boolean (by decide) (by decide) (Nat.le_of_ble_eq_true rfl) (Nat.le_of_ble_eq_true rfl) (Nat.le_of_ble_eq_true rfl) dX3_init_61 ?_
  refine go_putR (pc := 63) (x := .ref 47) fP_X3_42 rfl (Nat.le_of_ble_eq_true rfl) rfl (fun _ => rfl) (fun _ => rfl) dX3_init_63 ?_
  refine go_aload_n (pc := 66) rfl dX3_init_66 ?_
  refine go_aload_n (pc := 67) rfl dX3_init_67 ?_
  refine go_putR (pc := 68) (x := .ref 18) (fP_X3_46 _) rfl (Nat.le_of_ble_eq_true rfl) rfl (fun _ => rfl) (fun _ => rfl) dX3_init_68 ?_
  refine go_aload_n (pc := 71) rfl dX3_init_71 ?_
  refine go_new (pc := 72) (sl := 931) (ci := 6) rfl cL_X3_50 oC_X6 nC_X6 (Nat.le_of_ble_eq_true rfl) (Nat.le_of_ble_eq_true rfl) dX3_init_72 ?_
  refine go_dup (pc := 75) rfl dX3_init_75 ?_
  refine go_aload_n (pc := 76) rfl dX3_init_76 ?_
  refine go_getR (pc := 77) (v := .ref 36) fL_X3_28 rfl (Nat.le_of_ble_eq_true rfl) rfl rfl dX3_init_77 ?_
  refine go_aload_n (pc := 80) rfl dX3_init_80 ?_
  refine go_invI (pc := 81) (sl := 933) (k4_X6_init l) mL_X3_52 iM_X6_init rfl rfl rfl (Nat.le_of_ble_eq_true rfl) (Nat.le_of_ble_eq_true rfl) (Nat.le_of_ble_eq_true rfl) (Nat.le_of_ble_eq_true rfl) (Nat.le_of_ble_eq_true rfl) dX3_init_81 ?_
  intro r h' hq _
  obtain ⟨rfl, rfl⟩ := hq
  refine go_putR (pc := 84) (x := .ref 48) fP_X3_55 rfl (Nat.le_of_ble_eq_true rfl) rfl (fun _ => rfl) (fun _ => rfl) dX3_init_84 ?_
  exact go_vret (pc := 87) (⟨rfl, rfl⟩) rfl (Nat.le_of_ble_eq_true rfl) dX3_init_87
def hz6 : HP := hR (hR (hN (hR (hN (hR (hN (hR (hN (hR (hN (hR (hN (hN (hL (hR (hN (hL (hR (hN (hI (hR (hN (hR (hN (hR (hN (hR (hN (hR (hN (hI (hN (hR hz5 0 5 (.ref 34)) 4 13) 49 2 0) 11 5) 49 3 (.ref 50)) 10 30) 49 4 (.ref 51)) 11 13) 49 5 (.ref 52)) 11 13) 49 6 (.ref 53)) 10 585) 49 7 (.ref 54)) 49 8 0) 11 40) 49 9 (.ref 55)) 49 10 0) 11 40) 49 11 (.ref 56)) 49 12 0) 1 7) 11 7605) 57 0 (.ref 58)) 11 40) 57 1 (.ref 59)) 11 40) 57 2 (.ref 60)) 11 5) 57 3 (.ref 61)) 11 45) 57 4 (.ref 62)) 11 45) 57 5 (.ref 63)) 57 6 (.ref 2)
set_option maxHeartbeats 4000000 in
set_option maxRecDepth 100000 in
theorem k6_X1_init (l : Launch) : Mt l yX1_init cX1_init 2 none 1 [.ref 57, .ref 2] (hN (hL (hR (hN (hL (hR (hN (hI (hR (hN (hR (hN (hR (hN (hR (hN (hR (hN (hI (hN (hR hz5 0 5 (.ref 34)) 4 13) 49 2 0) 11 5) 49 3 (.ref 50)) 10 30) 49 4 (.ref 51)) 11 13) 49 5 (.ref 52)) 11 13) 49 6 (.ref 53)) 10 585) 49 7 (.ref 54)) 49 8 0) 11 40) 49 9 (.ref 55)) 49 10 0) 11 40) 49 11 (.ref 56)) 49 12 0) 1 7) 6 7780 (fun r h' => r = none ∧ h' = hz6) := by
  refine Mt_ofn 58 rfl (by decide) (Nat.le_of_ble_eq_true rfl) ?_
  show Go l RX1 cX1_init 2 (g_rm 1 6 7780) "<init>" none 58 6 7780 _ _ 0 0 [(0, .ref 57), (1, .ref 2)] [] (hN (hL (hR (hN (hL (hR (hN (hI (hR (hN (hR (hN (hR (hN (hR (hN (hR (hN (hI (hN (hR hz5 0 5 (.ref 34)) 4 13) 49 2 0) 11 5) 49 3 (.ref 50)) 10 30) 49 4 (.ref 51)) 11 13) 49 5 (.ref 52)) 11 13) 49 6 (.ref 53)) 10 585) 49 7 (.ref 54)) 49 8 0) 11 40) 49 9 (.ref 55)) 49 10 0) 11 40) 49 11 (.ref 56)) 49 12 0) 1 7)
  refine go_aload_n (pc := 0) rfl dX1_init_0 ?_
  refine go_objInit (pc := 1) oL_X1_3 oI oK (Nat.le_of_ble_eq_true rfl) (Nat.le_of_ble_eq_true rfl) (Nat.le_of_ble_eq_true rfl) dX1_init_1 ?_
  refine go_aload_n (pc := 4) rfl dX1_init_4 ?_
  refine go_sipush (pc := 5) (v := 7605) (by decide) dX1_init_5 ?_
  refine go_newa (pc := 8) (sl := 0) (kd := 11) (len := 7605) (by decide) aC_long (by decide) (by decide) (Nat.le_of_ble_eq_true rfl) (Nat.le_of_ble_eq_true rfl) (Nat.le_of_ble_eq_true rfl) dX1_init_8 ?_
  refine go_putR (pc := 10) (x := .ref 58) fP_X1_9 rfl (Nat.le_of_ble_eq_true rfl) rfl (fun _ => rfl) (fun _ => rfl) dX1_init_10 ?_
  refine go_aload_n (pc := 13) rfl dX1_init_13 ?_
  refine go_bipush (pc := 14) (v := 40) (by decide) dX1_init_14 ?_
  refine go_newa (pc := 16) (sl := 7605) (kd := 11) (len := 40) (by decide) aC_long (by decide) (by decide) (Nat.le_of_ble_eq_true rfl) (Nat.le_of_ble_eq_true rfl) (Nat.le_of_ble_eq_true rfl) dX1_init_16 ?_
  refine go_putR (pc := 18) (x := .ref 59) fP_X1_15 rfl (Nat.le_of_ble_eq_true rfl) rfl (fun _ => rfl) (fun _ => rfl) dX1_init_18 ?_
  refine go_aload_n (pc := 21) rfl dX1_init_21 ?_
  refine go_bipush (pc := 22) (v := 40) (by decide) dX1_init_22 ?_
  refine go_newa (pc := 24) (sl := 7645) (kd := 11) (len := 40) (by decide) aC_long (by decide) (by decide) (Nat.le_of_ble_eq_true rfl) (Nat.le_of_ble_eq_true rfl) (Nat.le_of_ble_eq_true rfl) dX1_init_24 ?_
  refine go_putR (pc := 26) (x := .ref 60) fP_X1_18 rfl (Nat.le_of_ble_eq_true rfl) rfl (fun _ => rfl) (fun _ => rfl) dX1_init_26 ?_
  refine go_aload_n (pc := 29) rfl dX1_init_29 ?_
  refine go_iconst (pc := 30) (v := 5) (by decide) dX1_init_30 ?_
  refine go_newa (pc := 31) (sl := 7685) (kd := 11) (len := 5) (by decide) aC_long (by decide) (by decide) (Nat.le_of_ble_eq_true rfl) (Nat.le_of_ble_eq_true rfl) (Nat.le_of_ble_eq_true rfl) dX1_init_31 ?_
  refine go_putR (pc := 33) (x := .ref 61) fP_X1_21 rfl (Nat.le_of_ble_eq_true rfl) rfl (fun _ => rfl) (fun _ => rfl) dX1_init_33 ?_
  refine go_aload_n (pc := 36) rfl dX1_init_36 ?_
  refine go_bipush (pc := 37) (v := 45) (by decide) dX1_init_37 ?_
  refine go_newa (pc := 39) (sl := 7690) (kd := 11) (len := 45) (by decide) aC_long (by decide) (by decide) (Nat.le_of_ble_eq_true rfl) (Nat.le_of_ble_eq_true rfl) (Nat.le_of_ble_eq_true rfl) dX1_init_39 ?_
  refine go_putR (pc := 41) (x := .ref 62) fP_X1_24 rfl (Nat.le_of_ble_eq_true rfl) rfl (fun _ => rfl) (fun _ => rfl) dX1_init_41 ?_
  refine go_aload_n (pc := 44) rfl dX1_init_44 ?_
  refine go_bipush (pc := 45) (v := 45) (by decide) dX1_init_45 ?_
  refine go_newa (pc := 47) (sl := 7735) (kd := 11) (len := 45) (by decide) aC_long (by decide) (by decide) (Nat.le_of_ble_eq_true rfl) (Nat.le_of_ble_eq_true rfl) (Nat.le_of_ble_eq_true rfl) dX1_init_47 ?_
  refine go_putR (pc := 49) (x := .ref 63) fP_X1_27 rfl (Nat.le_of_ble_eq_true rfl) rfl (fun _ => rfl) (fun _ => rfl) dX1_init_49 ?_
  refine go_aload_n (pc := 52) rfl dX1_init_52 ?_
  refine go_aload_n (pc := 53) rfl dX1_init_53 ?_
  refine go_putR (pc := 54) (x := .ref 2) (fP_X1_30 _) rfl (Nat.le_of_ble_eq_true rfl) rfl (fun _ => rfl) (fun _ => rfl) dX1_init_54 ?_
  exact go_vret (pc := 57) (⟨rfl, rfl⟩) rfl (Nat.le_of_ble_eq_true rfl) dX1_init_57
def hz7 : HP := hR (hR hz6 49 0 (.ref 57)) 49 1 (.ref 2)
set_option maxHeartbeats 4000000 in
set_option maxRecDepth 100000 in
theorem k7_X4_init (l : Launch) : Mt l yX4_init cX4_init 2 none 2 [.ref 49, .ref 2] (hN (hR hz5 0 5 (.ref 34)) 4 13) 14 8513 (fun r h' => r = none ∧ h' = hz7) := by
  refine Mt_ofn 50 rfl (by decide) (Nat.le_of_ble_eq_true rfl) ?_
  show Go l RX4 cX4_init 2 (g_rm 2 14 8513) "<init>" none 50 14 8513 _ _ 0 0 [(0, .ref 49), (1, .ref 2)] [] (hN (hR hz5 0 5 (.ref 34)) 4 13)
  refine go_aload_n (pc := 0) rfl dX4_init_0 ?_
  refine go_objInit (pc := 1) oL_X4_3 oI oK (Nat.le_of_ble_eq_true rfl) (Nat.le_of_ble_eq_true rfl) (Nat.le_of_ble_eq_true rfl) dX4_init_1 ?_
  refine go_aload_n (pc := 4) rfl dX4_init_4 ?_
  refine go_iconst (pc := 5) (v := 0) (by decide) dX4_init_5 ?_
  refine go_putI (pc := 6) (fP_X4_9 _) rfl (Nat.le_of_ble_eq_true rfl) rfl (fun _ => rfl) (fun _ => rfl) dX4_init_6 ?_
  refine go_aload_n (pc := 9) rfl dX4_init_9 ?_
  refine go_iconst (pc := 10) (v := 5) (by decide) dX4_init_10 ?_
  refine go_newa (pc := 11) (sl := 0) (kd := 11) (len := 5) (by decide) aC_long (by decide) (by decide) (Nat.le_of_ble_eq_true rfl) (Nat.le_of_ble_eq_true rfl) (Nat.le_of_ble_eq_true rfl) dX4_init_11 ?_
  refine go_putR (pc := 13) (x := .ref 50) fP_X4_15 rfl (Nat.le_of_ble_eq_true rfl) rfl (fun _ => rfl) (fun _ => rfl) dX4_init_13 ?_
  refine go_aload_n (pc := 16) rfl dX4_init_16 ?_
  refine go_bipush (pc := 17) (v := 30) (by decide) dX4_init_17 ?_
  refine go_newa (pc := 19) (sl := 5) (kd := 10) (len := 30) (by decide) aC_int (by decide) (by decide) (Nat.le_of_ble_eq_true rfl) (Nat.le_of_ble_eq_true rfl) (Nat.le_of_ble_eq_true rfl) dX4_init_19 ?_
  refine go_putR (pc := 21) (x := .ref 51) fP_X4_19 rfl (Nat.le_of_ble_eq_true rfl) rfl (fun _ => rfl) (fun _ => rfl) dX4_init_21 ?_
  refine go_aload_n (pc := 24) rfl dX4_init_24 ?_
  refine go_bipush (pc := 25) (v := 13) (by decide) dX4_init_25 ?_
  refine go_newa (pc := 27) (sl := 35) (kd := 11) (len := 13) (by decide) aC_long (by decide) (by decide) (Nat.le_of_ble_eq_true rfl) (Nat.le_of_ble_eq_true rfl) (Nat.le_of_ble_eq_true rfl) dX4_init_27 ?_
  refine go_putR (pc := 29) (x := .ref 52) fP_X4_23 rfl (Nat.le_of_ble_eq_true rfl) rfl (fun _ => rfl) (fun _ => rfl) dX4_init_29 ?_
  refine go_aload_n (pc := 32) rfl dX4_init_32 ?_
  refine go_bipush (pc := 33) (v := 13) (by decide) dX4_init_33 ?_
  refine go_newa (pc := 35) (sl := 48) (kd := 11) (len := 13) (by decide) aC_long (by decide) (by decide) (Nat.le_of_ble_eq_true rfl) (Nat.le_of_ble_eq_true rfl) (Nat.le_of_ble_eq_true rfl) dX4_init_35 ?_
  refine go_putR (pc := 37) (x := .ref 53) fP_X4_26 rfl (Nat.le_of_ble_eq_true rfl) rfl (fun _ => rfl) (fun _ => rfl) dX4_init_37 ?_
  refine go_aload_n (pc := 40) rfl dX4_init_40 ?_
  refine go_sipush (pc := 41) (v := 585) (by decide) dX4_init_41 ?_
  refine go_newa (pc := 44) (sl := 61) (kd := 10) (len := 585) (by decide) aC_int (by decide) (by decide) (Nat.le_of_ble_eq_true rfl) (Nat.le_of_ble_eq_true rfl) (Nat.le_of_ble_eq_true rfl) dX4_init_44 ?_
  refine go_putR (pc := 46) (x := .ref 54) fP_X4_29 rfl (Nat.le_of_ble_eq_true rfl) rfl (fun _ => rfl) (fun _ => rfl) dX4_init_46 ?_
  refine go_aload_n (pc := 49) rfl dX4_init_49 ?_
  refine go_iconst (pc := 50) (v := 0) (by decide) dX4_init_50 ?_
  refine go_putI (pc := 51) (fP_X4_32 _) rfl (Nat.le_of_ble_eq_true rfl) rfl (fun _ => rfl) (fun _ => rfl) dX4_init_51 ?_
  refine go_aload_n (pc := 54) rfl dX4_init_54 ?_
  refine go_bipush (pc := 55) (v := 40) (by decide) dX4_init_55 ?_
  refine go_newa (pc := 57) (sl := 646) (kd := 11) (len := 40) (by decide) aC_long (by decide) (by decide) (Nat.le_of_ble_eq_true rfl) (Nat.le_of_ble_eq_true rfl) (Nat.le_of_ble_eq_true rfl) dX4_init_57 ?_
  refine go_putR (pc := 59) (x := .ref 55) fP_X4_36 rfl (Nat.le_of_ble_eq_true rfl) rfl (fun _ => rfl) (fun _ => rfl) dX4_init_59 ?_
  refine go_aload_n (pc := 62) rfl dX4_init_62 ?_
  refine go_lconst (pc := 63) (v := 0) (by decide) dX4_init_63 ?_
  refine go_putL (pc := 64) (fP_X4_39 _) rfl (Nat.le_of_ble_eq_true rfl) rfl (fun _ => rfl) (fun _ => rfl) dX4_init_64 ?_
  refine go_aload_n (pc := 67) rfl dX4_init_67 ?_
  refine go_bipush (pc := 68) (v := 40) (by decide) dX4_init_68 ?_
  refine go_newa (pc := 70) (sl := 686) (kd := 11) (len := 40) (by decide) aC_long (by decide) (by decide) (Nat.le_of_ble_eq_true rfl) (Nat.le_of_ble_eq_true rfl) (Nat.le_of_ble_eq_true rfl) dX4_init_70 ?_
  refine go_putR (pc := 72) (x := .ref 56) fP_X4_43 rfl (Nat.le_of_ble_eq_true rfl) rfl (fun _ => rfl) (fun _ => rfl) dX4_init_72 ?_
  refine go_aload_n (pc := 75) rfl dX4_init_75 ?_
  refine go_lconst (pc := 76) (v := 0) (by decide) dX4_init_76 ?_
  refine go_putL (pc := 77) (fP_X4_46 _) rfl (Nat.le_of_ble_eq_true rfl) rfl (fun _ => rfl) (fun _ => rfl) dX4_init_77 ?_
  refine go_aload_n (pc := 80) rfl dX4_init_80 ?_
  refine go_new (pc := 81) (sl := 726) (ci := 1) rfl cL_X4_49 oC_X1 nC_X1 (Nat.le_of_ble_eq_true rfl) (Nat.le_of_ble_eq_true rfl) dX4_init_81 ?_
  refine go_dup (pc := 84) rfl dX4_init_84 ?_
  refine go_aload_n (pc := 85) rfl dX4_init_85 ?_
  refine go_invI (pc := 86) (sl := 733) (k6_X1_init l) mL_X4_51 iM_X1_init rfl rfl rfl (Nat.le_of_ble_eq_true rfl) (Nat.le_of_ble_eq_true rfl) (Nat.le_of_ble_eq_true rfl) (Nat.le_of_ble_eq_true rfl) (Nat.le_of_ble_eq_true rfl) dX4_init_86 ?_
  intro r h' hq _
  obtain ⟨rfl, rfl⟩ := hq
  refine go_putR (pc := 89) (x := .ref 57) fP_X4_54 rfl (Nat.le_of_ble_eq_true rfl) rfl (fun _ => rfl) (fun _ => rfl) dX4_init_89 ?_
  refine go_aload_n (pc := 92) rfl dX4_init_92 ?_
  refine go_aload_n (pc := 93) rfl dX4_init_93 ?_
  refine go_putR (pc := 94) (x := .ref 2) (fP_X4_58 _) rfl (Nat.le_of_ble_eq_true rfl) rfl (fun _ => rfl) (fun _ => rfl) dX4_init_94 ?_
  exact go_vret (pc := 97) (⟨rfl, rfl⟩) rfl (Nat.le_of_ble_eq_true rfl) dX4_init_97
def hz8 : HP := hR (hL (hI (hR (hN (hR (hN (hI (hI (hI (hI (hI (hR (hN (hR (hN (hR (hN (hN (hR hz7 0 6 (.ref 49)) 2 13) 10 4) 64 0 (.ref 65)) 10 186) 64 1 (.ref 66)) 10 31) 64 2 (.ref 67)) 64 3 0) 64 4 0) 64 5 0) 64 6 (-1)) 64 7 0) 10 500) 64 8 (.ref 68)) 10 500) 64 9 (.ref 69)) 64 10 0) 64 12 0) 64 11 (.ref 2)
set_option maxHeartbeats 4000000 in
set_option maxRecDepth 100000 in
theorem k8_X2_init (l : Launch) : Mt l yX2_init cX2_init 2 none 1 [.ref 64, .ref 2] (hN (hR hz7 0 6 (.ref 49)) 2 13) 5 1221 (fun r h' => r = none ∧ h' = hz8) := by
  refine Mt_ofn 65 rfl (by decide) (Nat.le_of_ble_eq_true rfl) ?_
  show Go l RX2 cX2_init 2 (g_rm 1 5 1221) "<init>" none 65 5 1221 _ _ 0 0 [(0, .ref 64), (1, .ref 2)] [] (hN (hR hz7 0 6 (.ref 49)) 2 13)
  refine go_aload_n (pc := 0) rfl dX2_init_0 ?_
  refine go_objInit (pc := 1) oL_X2_3 oI oK (Nat.le_of_ble_eq_true rfl) (Nat.le_of_ble_eq_true rfl) (Nat.le_of_ble_eq_true rfl) dX2_init_1 ?_
  refine go_aload_n (pc := 4) rfl dX2_init_4 ?_
  refine go_iconst (pc := 5) (v := 4) (by decide) dX2_init_5 ?_
  refine go_newa (pc := 6) (sl := 0) (kd := 10) (len := 4) (by decide) aC_int (by decide) (by decide) (Nat.le_of_ble_eq_true rfl) (Nat.le_of_ble_eq_true rfl) (Nat.le_of_ble_eq_true rfl) dX2_init_6 ?_
  refine go_putR (pc := 8) (x := .ref 65) fP_X2_9 rfl (Nat.le_of_ble_eq_true rfl) rfl (fun _ => rfl) (fun _ => rfl) dX2_init_8 ?_
  refine go_aload_n (pc := 11) rfl dX2_init_11 ?_
  refine go_sipush (pc := 12) (v := 186) (by decide) dX2_init_12 ?_
  refine go_newa (pc := 15) (sl := 4) (kd := 10) (len := 186) (by decide) aC_int (by decide) (by decide) (Nat.le_of_ble_eq_true rfl) (Nat.le_of_ble_eq_true rfl) (Nat.le_of_ble_eq_true rfl) dX2_init_15 ?_
  refine go_putR (pc := 17) (x := .ref 66) fP_X2_15 rfl (Nat.le_of_ble_eq_true rfl) rfl (fun _ => rfl) (fun _ => rfl) dX2_init_17 ?_
  refine go_aload_n (pc := 20) rfl dX2_init_20 ?_
  refine go_bipush (pc := 21) (v := 31) (by decide) dX2_init_21 ?_
  refine go_newa (pc := 23) (sl := 190) (kd := 10) (len := 31) (by decide) aC_int (by decide) (by decide) (Nat.le_of_ble_eq_true rfl) (Nat.le_of_ble_eq_true rfl) (Nat.le_of_ble_eq_true rfl) dX2_init_23 ?_
  refine go_putR (pc := 25) (x := .ref 67) fP_X2_18 rfl (Nat.le_of_ble_eq_true rfl) rfl (fun _ => rfl) (fun _ => rfl) dX2_init_25 ?_
  refine go_aload_n (pc := 28) rfl dX2_init_28 ?_
  refine go_iconst (pc := 29) (v := 0) (by decide) dX2_init_29 ?_
  refine go_putI (pc := 30) (fP_X2_21 _) rfl (Nat.le_of_ble_eq_true rfl) rfl (fun _ => rfl) (fun _ => rfl) dX2_init_30 ?_
  refine go_aload_n (pc := 33) rfl dX2_init_33 ?_
  refine go_iconst (pc := 34) (v := 0) (by decide) dX2_init_34 ?_
  refine go_putI (pc := 35) (fP_X2_25 _) rfl (Nat.le_of_ble_eq_true rfl) rfl (fun _ => rfl) (fun _ => rfl) dX2_init_35 ?_
  refine go_aload_n (pc := 38) rfl dX2_init_38 ?_
  refine go_iconst (pc := 39) (v := 0) (by decide) dX2_init_39 ?_
  refine go_putI (pc := 40) (fP_X2_28 _) rfl (Nat.le_of_ble_eq_true rfl) rfl (fun _ => rfl) (fun _ => rfl) dX2_init_40 ?_
  refine go_aload_n (pc := 43) rfl dX2_init_43 ?_
  refine go_iconst (pc := 44) (v := (-1)) (by decide) dX2_init_44 ?_
  refine go_putI (pc := 45) (fP_X2_31 _) rfl (Nat.le_of_ble_eq_true rfl) rfl (fun _ => rfl) (fun _ => rfl) dX2_init_45 ?_
  refine go_aload_n (pc := 48) rfl dX2_init_48 ?_
  refine go_iconst (pc := 49) (v := 0) (by decide) dX2_init_49 ?_
  refine go_putI (pc := 50) (fP_X2_34 _) rfl (Nat.le_of_ble_eq_true rfl) rfl (fun _ => rfl) (fun _ => rfl) dX2_init_50 ?_
  refine go_aload_n (pc := 53) rfl dX2_init_53 ?_
  refine go_sipush (pc := 54) (v := 500) (by decide) dX2_init_54 ?_
  refine go_newa (pc := 57) (sl := 221) (kd := 10) (len := 500) (by decide) aC_int (by decide) (by decide) (Nat.le_of_ble_eq_true rfl) (Nat.le_of_ble_eq_true rfl) (Nat.le_of_ble_eq_true rfl) dX2_init_57 ?_
  refine go_putR (pc := 59) (x := .ref 68) fP_X2_37 rfl (Nat.le_of_ble_eq_true rfl) rfl (fun _ => rfl) (fun _ => rfl) dX2_init_59 ?_
  refine go_aload_n (pc := 62) rfl dX2_init_62 ?_
  refine go_sipush (pc := 63) (v := 500) (by decide) dX2_init_63 ?_
  refine go_newa (pc := 66) (sl := 721) (kd := 10) (len := 500) (by decide) aC_int (by decide) (by decide) (Nat.le_of_ble_eq_true rfl) (Nat.le_of_ble_eq_true rfl) (Nat.le_of_ble_eq_true rfl) dX2_init_66 ?_
  refine go_putR (pc := 68) (x := .ref 69) fP_X2_40 rfl (Nat.le_of_ble_eq_true rfl) rfl (fun _ => rfl) (fun _ => rfl) dX2_init_68 ?_
  refine go_aload_n (pc := 71) rfl dX2_init_71 ?_
  refine go_iconst (pc := 72) (v := 0) (by decide) dX2_init_72 ?_
  refine go_putI (pc := 73) (fP_X2_43 _) rfl (Nat.le_of_ble_eq_true rfl) rfl (fun _ => rfl) (fun _ => rfl) dX2_init_73 ?_
  refine go_aload_n (pc := 76) rfl dX2_init_76 ?_
  refine go_lconst (pc := 77) (v := 0) (by decide) dX2_init_77 ?_
  refine go_putL (pc := 78) (fP_X2_46 _) rfl (Nat.le_of_ble_eq_true rfl) rfl (fun _ => rfl) (fun _ => rfl) dX2_init_78 ?_
  refine go_aload_n (pc := 81) rfl dX2_init_81 ?_
  refine go_aload_n (pc := 82) rfl dX2_init_82 ?_
  refine go_putR (pc := 83) (x := .ref 2) (fP_X2_50 _) rfl (Nat.le_of_ble_eq_true rfl) rfl (fun _ => rfl) (fun _ => rfl) dX2_init_83 ?_
  exact go_vret (pc := 86) (⟨rfl, rfl⟩) rfl (Nat.le_of_ble_eq_true rfl) dX2_init_86
def hz9 : HP := hR hz8 0 7 (.ref 64)
set_option maxHeartbeats 4000000 in
set_option maxRecDepth 100000 in
theorem k9_X7_init (l : Launch) : Mt l yX7_init cX7_init 1 none 3 [.ref 0] (hN hpE 7 8) 69 12374 (fun r h' => r = none ∧ h' = hz9) := by
  refine Mt_ofn 1 rfl (by decide) (Nat.le_of_ble_eq_true rfl) ?_
  show Go l RX7 cX7_init 1 (g_rm 3 69 12374) "<init>" none 1 69 12374 _ _ 0 0 [(0, .ref 0)] [] (hN hpE 7 8)
  refine go_aload_n (pc := 0) rfl dX7_init_0 ?_
  refine go_objInit (pc := 1) oL_X7_3 oI oK (Nat.le_of_ble_eq_true rfl) (Nat.le_of_ble_eq_true rfl) (Nat.le_of_ble_eq_true rfl) dX7_init_1 ?_
  refine go_aload_n (pc := 4) rfl dX7_init_4 ?_
  refine go_sipush (pc := 5) (v := 500) (by decide) dX7_init_5 ?_
  refine go_newa (pc := 8) (sl := 0) (kd := 9) (len := 500) (by decide) aC_byte (by decide) (by decide) (Nat.le_of_ble_eq_true rfl) (Nat.le_of_ble_eq_true rfl) (Nat.le_of_ble_eq_true rfl) dX7_init_8 ?_
  refine go_putR (pc := 10) (x := .ref 1) fP_X7_9 rfl (Nat.le_of_ble_eq_true rfl) rfl (fun _ => rfl) (fun _ => rfl) dX7_init_10 ?_
  refine go_aload_n (pc := 13) rfl dX7_init_13 ?_
  refine go_iconst (pc := 14) (v := 0) (by decide) dX7_init_14 ?_
  refine go_putI (pc := 15) (fP_X7_13 _) rfl (Nat.le_of_ble_eq_true rfl) rfl (fun _ => rfl) (fun _ => rfl) dX7_init_15 ?_
  refine go_aload_n (pc := 18) rfl dX7_init_18 ?_
  refine go_iconst (pc := 19) (v := 0) (by decide) dX7_init_19 ?_
  refine go_putI (pc := 20) (fP_X7_17 _) rfl (Nat.le_of_ble_eq_true rfl) rfl (fun _ => rfl) (fun _ => rfl) dX7_init_20 ?_
  refine go_aload_n (pc := 23) rfl dX7_init_23 ?_
  refine go_new (pc := 24) (sl := 500) (ci := 0) rfl cL_X7_20 oC_X0 nC_X0 (Nat.le_of_ble_eq_true rfl) (Nat.le_of_ble_eq_true rfl) dX7_init_24 ?_
  refine go_dup (pc := 27) rfl dX7_init_27 ?_
  refine go_invI (pc := 28) (sl := 520) (k1_X0_init l) mL_X7_22 iM_X0_init rfl rfl rfl (Nat.le_of_ble_eq_true rfl) (Nat.le_of_ble_eq_true rfl) (Nat.le_of_ble_eq_true rfl) (Nat.le_of_ble_eq_true rfl) (Nat.le_of_ble_eq_true rfl) dX7_init_28 ?_
  intro r h' hq _
  obtain ⟨rfl, rfl⟩ := hq
  refine go_putR (pc := 31) (x := .ref 2) (fP_X7_23 _) rfl (Nat.le_of_ble_eq_true rfl) rfl (fun _ => rfl) (fun _ => rfl) dX7_init_31 ?_
  refine go_aload_n (pc := 34) rfl dX7_init_34 ?_
  refine go_new (pc := 35) (sl := 1085) (ci := 0) rfl cL_X7_20 oC_X0 nC_X0 (Nat.le_of_ble_eq_true rfl) (Nat.le_of_ble_eq_true rfl) dX7_init_35 ?_
  refine go_dup (pc := 38) rfl dX7_init_38 ?_
  refine go_invI (pc := 39) (sl := 1105) (k2_X0_init l) mL_X7_22 iM_X0_init rfl rfl rfl (Nat.le_of_ble_eq_true rfl) (Nat.le_of_ble_eq_true rfl) (Nat.le_of_ble_eq_true rfl) (Nat.le_of_ble_eq_true rfl) (Nat.le_of_ble_eq_true rfl) dX7_init_39 ?_
  intro r h' hq _
  obtain ⟨rfl, rfl⟩ := hq
  refine go_putR (pc := 42) (x := .ref 18) (fP_X7_27 _) rfl (Nat.le_of_ble_eq_true rfl) rfl (fun _ => rfl) (fun _ => rfl) dX7_init_42 ?_
  refine go_aload_n (pc := 45) rfl dX7_init_45 ?_
  refine go_new (pc := 46) (sl := 1670) (ci := 3) rfl cL_X7_30 oC_X3 nC_X3 (Nat.le_of_ble_eq_true rfl) (Nat.le_of_ble_eq_true rfl) dX7_init_46 ?_
  refine go_dup (pc := 49) rfl dX7_init_49 ?_
  refine go_aload_n (pc := 50) rfl dX7_init_50 ?_
  refine go_getR (pc := 51) (v := .ref 18) fL_X7_27 rfl (Nat.le_of_ble_eq_true rfl) rfl rfl dX7_init_51 ?_
  refine go_invI (pc := 54) (sl := 1681) (k5_X3_init l) mL_X7_32 iM_X3_init rfl rfl rfl (Nat.le_of_ble_eq_true rfl) (Nat.le_of_ble_eq_true rfl) (Nat.le_of_ble_eq_true rfl) (Nat.le_of_ble_eq_true rfl) (Nat.le_of_ble_eq_true rfl) dX7_init_54 ?_
  intro r h' hq _
  obtain ⟨rfl, rfl⟩ := hq
  refine go_putR (pc := 57) (x := .ref 34) fP_X7_35 rfl (Nat.le_of_ble_eq_true rfl) rfl (fun _ => rfl) (fun _ => rfl) dX7_init_57 ?_
  refine go_aload_n (pc := 60) rfl dX7_init_60 ?_
  refine go_new (pc := 61) (sl := 2614) (ci := 4) rfl cL_X7_39 oC_X4 nC_X4 (Nat.le_of_ble_eq_true rfl) (Nat.le_of_ble_eq_true rfl) dX7_init_61 ?_
  refine go_dup (pc := 64) rfl dX7_init_64 ?_
  refine go_aload_n (pc := 65) rfl dX7_init_65 ?_
  refine go_getR (pc := 66) (v := .ref 2) fL_X7_23 rfl (Nat.le_of_ble_eq_true rfl) rfl rfl dX7_init_66 ?_
  refine go_invI (pc := 69) (sl := 2627) (k7_X4_init l) mL_X7_41 iM_X4_init rfl rfl rfl (Nat.le_of_ble_eq_true rfl) (Nat.le_of_ble_eq_true rfl) (Nat.le_of_ble_eq_true rfl) (Nat.le_of_ble_eq_true rfl) (Nat.le_of_ble_eq_true rfl) dX7_init_69 ?_
  intro r h' hq _
  obtain ⟨rfl, rfl⟩ := hq
  refine go_putR (pc := 72) (x := .ref 49) fP_X7_42 rfl (Nat.le_of_ble_eq_true rfl) rfl (fun _ => rfl) (fun _ => rfl) dX7_init_72 ?_
  refine go_aload_n (pc := 75) rfl dX7_init_75 ?_
  refine go_new (pc := 76) (sl := 11140) (ci := 2) rfl cL_X7_46 oC_X2 nC_X2 (Nat.le_of_ble_eq_true rfl) (Nat.le_of_ble_eq_true rfl) dX7_init_76 ?_
  refine go_dup (pc := 79) rfl dX7_init_79 ?_
  refine go_aload_n (pc := 80) rfl dX7_init_80 ?_
  refine go_getR (pc := 81) (v := .ref 2) fL_X7_23 rfl (Nat.le_of_ble_eq_true rfl) rfl rfl dX7_init_81 ?_
  refine go_invI (pc := 84) (sl := 11153) (k8_X2_init l) mL_X7_48 iM_X2_init rfl rfl rfl (Nat.le_of_ble_eq_true rfl) (Nat.le_of_ble_eq_true rfl) (Nat.le_of_ble_eq_true rfl) (Nat.le_of_ble_eq_true rfl) (Nat.le_of_ble_eq_true rfl) dX7_init_84 ?_
  intro r h' hq _
  obtain ⟨rfl, rfl⟩ := hq
  refine go_putR (pc := 87) (x := .ref 64) fP_X7_49 rfl (Nat.le_of_ble_eq_true rfl) rfl (fun _ => rfl) (fun _ => rfl) dX7_init_87 ?_
  exact go_vret (pc := 90) (⟨rfl, rfl⟩) rfl (Nat.le_of_ble_eq_true rfl) dX7_init_90
def hz10 : HP := hR (hN (hR (hN (hR (hN (hR (hN (hR (hN (hR (hN (hR (hN (hR (hN (hR (hN (hR (hN (hR (hN (hR (hN (hR (hN (hR (hN (hR (hN (hR (hN (hR (hN (hR (hN (hR (hN (hR (hN (hR (hN (hR (hN (hR (hN (hR (hN (hR (hN (hR (hN (hR (hN (hR (hN (hR (hN (hR (hN (hR (hN (hR (hN (hR (hN (hR (hN (hR (hN (hR (hN (hR (hN (hR (hN (hR (hN (hR (hN (hR (hN (hR (hN (hR (hN (hR (hN (hR (hN (hR (hN (hN hz9 8 60) 9 500) 70 0 (.ref 71)) 9 500) 70 1 (.ref 72)) 10 2) 70 7 (.ref 73)) 10 2) 70 8 (.ref 74)) 10 2) 70 9 (.ref 75)) 10 2) 70 10 (.ref 76)) 10 260) 70 11 (.ref 77)) 10 260) 70 12 (.ref 78)) 10 260) 70 13 (.ref 79)) 10 260) 70 14 (.ref 80)) 10 260) 70 15 (.ref 81)) 10 260) 70 16 (.ref 82)) 10 260) 70 17 (.ref 83)) 10 260) 70 18 (.ref 84)) 10 260) 70 19 (.ref 85)) 10 260) 70 20 (.ref 86)) 10 260) 70 21 (.ref 87)) 10 260) 70 22 (.ref 88)) 10 520) 70 23 (.ref 89)) 10 560) 70 24 (.ref 90)) 10 560) 70 25 (.ref 91)) 10 560) 70 26 (.ref 92)) 10 80) 70 27 (.ref 93)) 10 10) 70 28 (.ref 94)) 10 80) 70 31 (.ref 95)) 10 80) 70 32 (.ref 96)) 10 80) 70 33 (.ref 97)) 10 80) 70 34 (.ref 98)) 10 80) 70 35 (.ref 99)) 10 10) 70 36 (.ref 100)) 12 10) 70 37 (.ref 101)) 12 10) 70 38 (.ref 102)) 10 11115) 70 39 (.ref 103)) 11 40) 70 40 (.ref 104)) 11 40) 70 41 (.ref 105)) 11 40) 70 42 (.ref 106)) 11 5) 70 43 (.ref 107)) 10 30) 70 44 (.ref 108)) 10 19) 70 45 (.ref 109)) 10 585) 70 46 (.ref 110)) 11 40) 70 48 (.ref 111)) 10 19) 70 49 (.ref 112)) 10 4) 70 56 (.ref 113)) 10 192) 70 57 (.ref 114)) 10 500) 70 58 (.ref 115)) 10 500) 70 59 (.ref 116)
set_option maxHeartbeats 4000000 in
set_option maxRecDepth 100000 in
theorem k10_X8_init (l : Launch) : Mt l yX8_init cX8_init 1 none 1 [.ref 70] (hN hz9 8 60) 46 19977 (fun r h' => r = none ∧ h' = hz10) := by
  refine Mt_ofn 71 rfl (by decide) (Nat.le_of_ble_eq_true rfl) ?_
  show Go l RX8 cX8_init 1 (g_rm 1 46 19977) "<init>" none 71 46 19977 _ _ 0 0 [(0, .ref 70)] [] (hN hz9 8 60)
  refine go_aload_n (pc := 0) rfl dX8_init_0 ?_
  refine go_objInit (pc := 1) oL_X8_1 oI oK (Nat.le_of_ble_eq_true rfl) (Nat.le_of_ble_eq_true rfl) (Nat.le_of_ble_eq_true rfl) dX8_init_1 ?_
  refine go_aload_n (pc := 4) rfl dX8_init_4 ?_
  refine go_sipush (pc := 5) (v := 500) (by decide) dX8_init_5 ?_
  refine go_newa (pc := 8) (sl := 0) (kd := 9) (len := 500) (by decide) aC_byte (by decide) (by decide) (Nat.le_of_ble_eq_true rfl) (Nat.le_of_ble_eq_true rfl) (Nat.le_of_ble_eq_true rfl) dX8_init_8 ?_
  refine go_putR (pc := 10) (x := .ref 71) fP_X8_7 rfl (Nat.le_of_ble_eq_true rfl) rfl (fun _ => rfl) (fun _ => rfl) dX8_init_10 ?_
  refine go_aload_n (pc := 13) rfl dX8_init_13 ?_
  refine go_sipush (pc := 14) (v := 500) (by decide) dX8_init_14 ?_
  refine go_newa (pc := 17) (sl := 500) (kd := 9) (len := 500) (by decide) aC_byte (by decide) (by decide) (Nat.le_of_ble_eq_true rfl) (Nat.le_of_ble_eq_true rfl) (Nat.le_of_ble_eq_true rfl) dX8_init_17 ?_
  refine go_putR (pc := 19) (x := .ref 72) fP_X8_13 rfl (Nat.le_of_ble_eq_true rfl) rfl (fun _ => rfl) (fun _ => rfl) dX8_init_19 ?_
  refine go_aload_n (pc := 22) rfl dX8_init_22 ?_
  refine go_iconst (pc := 23) (v := 2) (by decide) dX8_init_23 ?_
  refine go_newa (pc := 24) (sl := 1000) (kd := 10) (len := 2) (by decide) aC_int (by decide) (by decide) (Nat.le_of_ble_eq_true rfl) (Nat.le_of_ble_eq_true rfl) (Nat.le_of_ble_eq_true rfl) dX8_init_24 ?_
  refine go_putR (pc := 26) (x := .ref 73) fP_X8_16 rfl (Nat.le_of_ble_eq_true rfl) rfl (fun _ => rfl) (fun _ => rfl) dX8_init_26 ?_
  refine go_aload_n (pc := 29) rfl dX8_init_29 ?_
  refine go_iconst (pc := 30) (v := 2) (by decide) dX8_init_30 ?_
  refine go_newa (pc := 31) (sl := 1002) (kd := 10) (len := 2) (by decide) aC_int (by decide) (by decide) (Nat.le_of_ble_eq_true rfl) (Nat.le_of_ble_eq_true rfl) (Nat.le_of_ble_eq_true rfl) dX8_init_31 ?_
  refine go_putR (pc := 33) (x := .ref 74) fP_X8_20 rfl (Nat.le_of_ble_eq_true rfl) rfl (fun _ => rfl) (fun _ => rfl) dX8_init_33 ?_
  refine go_aload_n (pc := 36) rfl dX8_init_36 ?_
  refine go_iconst (pc := 37) (v := 2) (by decide) dX8_init_37 ?_
  refine go_newa (pc := 38) (sl := 1004) (kd := 10) (len := 2) (by decide) aC_int (by decide) (by decide) (Nat.le_of_ble_eq_true rfl) (Nat.le_of_ble_eq_true rfl) (Nat.le_of_ble_eq_true rfl) dX8_init_38 ?_
  refine go_putR (pc := 40) (x := .ref 75) fP_X8_23 rfl (Nat.le_of_ble_eq_true rfl) rfl (fun _ => rfl) (fun _ => rfl) dX8_init_40 ?_
  refine go_aload_n (pc := 43) rfl dX8_init_43 ?_
  refine go_iconst (pc := 44) (v := 2) (by decide) dX8_init_44 ?_
  refine go_newa (pc := 45) (sl := 1006) (kd := 10) (len := 2) (by decide) aC_int (by decide) (by decide) (Nat.le_of_ble_eq_true rfl) (Nat.le_of_ble_eq_true rfl) (Nat.le_of_ble_eq_true rfl) dX8_init_45 ?_
  refine go_putR (pc := 47) (x := .ref 76) fP_X8_26 rfl (Nat.le_of_ble_eq_true rfl) rfl (fun _ => rfl) (fun _ => rfl) dX8_init_47 ?_
  refine go_aload_n (pc := 50) rfl dX8_init_50 ?_
  refine go_sipush (pc := 51) (v := 260) (by decide) dX8_init_51 ?_
  refine go_newa (pc := 54) (sl := 1008) (kd := 10) (len := 260) (by decide) aC_int (by decide) (by decide) (Nat.le_of_ble_eq_true rfl) (Nat.le_of_ble_eq_true rfl) (Nat.le_of_ble_eq_true rfl) dX8_init_54 ?_
  refine go_putR (pc := 56) (x := .ref 77) fP_X8_29 rfl (Nat.le_of_ble_eq_true rfl) rfl (fun _ => rfl) (fun _ => rfl) dX8_init_56 ?_
  refine go_aload_n (pc := 59) rfl dX8_init_59 ?_
  refine go_sipush (pc := 60) (v := 260) (by decide) dX8_init_60 ?_
  refine go_newa (pc := 63) (sl := 1268) (kd := 10) (len := 260) (by decide) aC_int (by decide) (by decide) (Nat.le_of_ble_eq_true rfl) (Nat.le_of_ble_eq_true rfl) (Nat.le_of_ble_eq_true rfl) dX8_init_63 ?_
  refine go_putR (pc := 65) (x := .ref 78) fP_X8_32 rfl (Nat.le_of_ble_eq_true rfl) rfl (fun _ => rfl) (fun _ => rfl) dX8_init_65 ?_
  refine go_aload_n (pc := 68) rfl dX8_init_68 ?_
  refine go_sipush (pc := 69) (v := 260) (by decide) dX8_init_69 ?_
  refine go_newa (pc := 72) (sl := 1528) (kd := 10) (len := 260) (by decide) aC_int (by decide) (by decide) (Nat.le_of_ble_eq_true rfl) (Nat.le_of_ble_eq_true rfl) (Nat.le_of_ble_eq_true rfl) dX8_init_72 ?_
  refine go_putR (pc := 74) (x := .ref 79) fP_X8_35 rfl (Nat.le_of_ble_eq_true rfl) rfl (fun _ => rfl) (fun _ => rfl) dX8_init_74 ?_
  refine go_aload_n (pc := 77) rfl dX8_init_77 ?_
  refine go_sipush (pc := 78) (v := 260) (by decide) dX8_init_78 ?_
  refine go_newa (pc := 81) (sl := 1788) (kd := 10) (len := 260) (by decide) aC_int (by decide) (by decide) (Nat.le_of_ble_eq_true rfl) (Nat.le_of_ble_eq_true rfl) (Nat.le_of_ble_eq_true rfl) dX8_init_81 ?_
  refine go_putR (pc := 83) (x := .ref 80) fP_X8_38 rfl (Nat.le_of_ble_eq_true rfl) rfl (fun _ => rfl) (fun _ => rfl) dX8_init_83 ?_
  refine go_aload_n (pc := 86) rfl dX8_init_86 ?_
  refine go_sipush (pc := 87) (v := 260) (by decide) dX8_init_87 ?_
  refine go_newa (pc := 90) (sl := 2048) (kd := 10) (len := 260) (by decide) aC_int (by decide) (by decide) (Nat.le_of_ble_eq_true rfl) (Nat.le_of_ble_eq_true rfl) (Nat.le_of_ble_eq_true rfl) dX8_init_90 ?_
  refine go_putR (pc := 92) (x := .ref 81) fP_X8_41 rfl (Nat.le_of_ble_eq_true rfl) rfl (fun _ => rfl) (fun _ => rfl) dX8_init_92 ?_
  refine go_aload_n (pc := 95) rfl dX8_init_95 ?_
  refine go_sipush (pc := 96) (v := 260) (by decide) dX8_init_96 ?_
  refine go_newa (pc := 99) (sl := 2308) (kd := 10) (len := 260) (by decide) aC_int (by decide) (by decide) (Nat.le_of_ble_eq_true rfl) (Nat.le_of_ble_eq_true rfl) (Nat.le_of_ble_eq_true rfl) dX8_init_99 ?_
  refine go_putR (pc := 101) (x := .ref 82) fP_X8_44 rfl (Nat.le_of_ble_eq_true rfl) rfl (fun _ => rfl) (fun _ => rfl) dX8_init_101 ?_
  refine go_aload_n (pc := 104) rfl dX8_init_104 ?_
  refine go_sipush (pc := 105) (v := 260) (by decide) dX8_init_105 ?_
  refine go_newa (pc := 108) (sl := 2568) (kd := 10) (len := 260) (by decide) aC_int (by decide) (by decide) (Nat.le_of_ble_eq_true rfl) (Nat.le_of_ble_eq_true rfl) (Nat.le_of_ble_eq_true rfl) dX8_init_108 ?_
  refine go_putR (pc := 110) (x := .ref 83) fP_X8_47 rfl (Nat.le_of_ble_eq_true rfl) rfl (fun _ => rfl) (fun _ => rfl) dX8_init_110 ?_
  refine go_aload_n (pc := 113) rfl dX8_init_113 ?_
  refine go_sipush (pc := 114) (v := 260) (by decide) dX8_init_114 ?_
  refine go_newa (pc := 117) (sl := 2828) (kd := 10) (len := 260) (by decide) aC_int (by decide) (by decide) (Nat.le_of_ble_eq_true rfl) (Nat.le_of_ble_eq_true rfl) (Nat.le_of_ble_eq_true rfl) dX8_init_117 ?_
  refine go_putR (pc := 119) (x := .ref 84) fP_X8_50 rfl (Nat.le_of_ble_eq_true rfl) rfl (fun _ => rfl) (fun _ => rfl) dX8_init_119 ?_
  refine go_aload_n (pc := 122) rfl dX8_init_122 ?_
  refine go_sipush (pc := 123) (v := 260) (by decide) dX8_init_123 ?_
  refine go_newa (pc := 126) (sl := 3088) (kd := 10) (len := 260) (by decide) aC_int (by decide) (by decide) (Nat.le_of_ble_eq_true rfl) (Nat.le_of_ble_eq_true rfl) (Nat.le_of_ble_eq_true rfl) dX8_init_126 ?_
  refine go_putR (pc := 128) (x := .ref 85) fP_X8_53 rfl (Nat.le_of_ble_eq_true rfl) rfl (fun _ => rfl) (fun _ => rfl) dX8_init_128 ?_
  refine go_aload_n (pc := 131) rfl dX8_init_131 ?_
  refine go_sipush (pc := 132) (v := 260) (by decide) dX8_init_132 ?_
  refine go_newa (pc := 135) (sl := 3348) (kd := 10) (len := 260) (by decide) aC_int (by decide) (by decide) (Nat.le_of_ble_eq_true rfl) (Nat.le_of_ble_eq_true rfl) (Nat.le_of_ble_eq_true rfl) dX8_init_135 ?_
  refine go_putR (pc := 137) (x := .ref 86) fP_X8_56 rfl (Nat.le_of_ble_eq_true rfl) rfl (fun _ => rfl) (fun _ => rfl) dX8_init_137 ?_
  refine go_aload_n (pc := 140) rfl dX8_init_140 ?_
  refine go_sipush (pc := 141) (v := 260) (by decide) dX8_init_141 ?_
  refine go_newa (pc := 144) (sl := 3608) (kd := 10) (len := 260) (by decide) aC_int (by decide) (by decide) (Nat.le_of_ble_eq_true rfl) (Nat.le_of_ble_eq_true rfl) (Nat.le_of_ble_eq_true rfl) dX8_init_144 ?_
  refine go_putR (pc := 146) (x := .ref 87) fP_X8_59 rfl (Nat.le_of_ble_eq_true rfl) rfl (fun _ => rfl) (fun _ => rfl) dX8_init_146 ?_
  refine go_aload_n (pc := 149) rfl dX8_init_149 ?_
  refine go_sipush (pc := 150) (v := 260) (by decide) dX8_init_150 ?_
  refine go_newa (pc := 153) (sl := 3868) (kd := 10) (len := 260) (by decide) aC_int (by decide) (by decide) (Nat.le_of_ble_eq_true rfl) (Nat.le_of_ble_eq_true rfl) (Nat.le_of_ble_eq_true rfl) dX8_init_153 ?_
  refine go_putR (pc := 155) (x := .ref 88) fP_X8_62 rfl (Nat.le_of_ble_eq_true rfl) rfl (fun _ => rfl) (fun _ => rfl) dX8_init_155 ?_
  refine go_aload_n (pc := 158) rfl dX8_init_158 ?_
  refine go_sipush (pc := 159) (v := 520) (by decide) dX8_init_159 ?_
  refine go_newa (pc := 162) (sl := 4128) (kd := 10) (len := 520) (by decide) aC_int (by decide) (by decide) (Nat.le_of_ble_eq_true rfl) (Nat.le_of_ble_eq_true rfl) (Nat.le_of_ble_eq_true rfl) dX8_init_162 ?_
  refine go_putR (pc := 164) (x := .ref 89) fP_X8_65 rfl (Nat.le_of_ble_eq_true rfl) rfl (fun _ => rfl) (fun _ => rfl) dX8_init_164 ?_
  refine go_aload_n (pc := 167) rfl dX8_init_167 ?_
  refine go_sipush (pc := 168) (v := 560) (by decide) dX8_init_168 ?_
  refine go_newa (pc := 171) (sl := 4648) (kd := 10) (len := 560) (by decide) aC_int (by decide) (by decide) (Nat.le_of_ble_eq_true rfl) (Nat.le_of_ble_eq_true rfl) (Nat.le_of_ble_eq_true rfl) dX8_init_171 ?_
  refine go_putR (pc := 173) (x := .ref 90) fP_X8_68 rfl (Nat.le_of_ble_eq_true rfl) rfl (fun _ => rfl) (fun _ => rfl) dX8_init_173 ?_
  refine go_aload_n (pc := 176) rfl dX8_init_176 ?_
  refine go_sipush (pc := 177) (v := 560) (by decide) dX8_init_177 ?_
  refine go_newa (pc := 180) (sl := 5208) (kd := 10) (len := 560) (by decide) aC_int (by decide) (by decide) (Nat.le_of_ble_eq_true rfl) (Nat.le_of_ble_eq_true rfl) (Nat.le_of_ble_eq_true rfl) dX8_init_180 ?_
  refine go_putR (pc := 182) (x := .ref 91) fP_X8_71 rfl (Nat.le_of_ble_eq_true rfl) rfl (fun _ => rfl) (fun _ => rfl) dX8_init_182 ?_
  refine go_aload_n (pc := 185) rfl dX8_init_185 ?_
  refine go_sipush (pc := 186) (v := 560) (by decide) dX8_init_186 ?_
  refine go_newa (pc := 189) (sl := 5768) (kd := 10) (len := 560) (by decide) aC_int (by decide) (by decide) (Nat.le_of_ble_eq_true rfl) (Nat.le_of_ble_eq_true rfl) (Nat.le_of_ble_eq_true rfl) dX8_init_189 ?_
  refine go_putR (pc := 191) (x := .ref 92) fP_X8_74 rfl (Nat.le_of_ble_eq_true rfl) rfl (fun _ => rfl) (fun _ => rfl) dX8_init_191 ?_
  refine go_aload_n (pc := 194) rfl dX8_init_194 ?_
  refine go_bipush (pc := 195) (v := 80) (by decide) dX8_init_195 ?_
  refine go_newa (pc := 197) (sl := 6328) (kd := 10) (len := 80) (by decide) aC_int (by decide) (by decide) (Nat.le_of_ble_eq_true rfl) (Nat.le_of_ble_eq_true rfl) (Nat.le_of_ble_eq_true rfl) dX8_init_197 ?_
  refine go_putR (pc := 199) (x := .ref 93) fP_X8_77 rfl (Nat.le_of_ble_eq_true rfl) rfl (fun _ => rfl) (fun _ => rfl) dX8_init_199 ?_
  refine go_aload_n (pc := 202) rfl dX8_init_202 ?_
  refine go_bipush (pc := 203) (v := 10) (by decide) dX8_init_203 ?_
  refine go_newa (pc := 205) (sl := 6408) (kd := 10) (len := 10) (by decide) aC_int (by decide) (by decide) (Nat.le_of_ble_eq_true rfl) (Nat.le_of_ble_eq_true rfl) (Nat.le_of_ble_eq_true rfl) dX8_init_205 ?_
  refine go_putR (pc := 207) (x := .ref 94) fP_X8_80 rfl (Nat.le_of_ble_eq_true rfl) rfl (fun _ => rfl) (fun _ => rfl) dX8_init_207 ?_
  refine go_aload_n (pc := 210) rfl dX8_init_210 ?_
  refine go_bipush (pc := 211) (v := 80) (by decide) dX8_init_211 ?_
  refine go_newa (pc := 213) (sl := 6418) (kd := 10) (len := 80) (by decide) aC_int (by decide) (by decide) (Nat.le_of_ble_eq_true rfl) (Nat.le_of_ble_eq_true rfl) (Nat.le_of_ble_eq_true rfl) dX8_init_213 ?_
  refine go_putR (pc := 215) (x := .ref 95) fP_X8_83 rfl (Nat.le_of_ble_eq_true rfl) rfl (fun _ => rfl) (fun _ => rfl) dX8_init_215 ?_
  refine go_aload_n (pc := 218) rfl dX8_init_218 ?_
  refine go_bipush (pc := 219) (v := 80) (by decide) dX8_init_219 ?_
  refine go_newa (pc := 221) (sl := 6498) (kd := 10) (len := 80) (by decide) aC_int (by decide) (by decide) (Nat.le_of_ble_eq_true rfl) (Nat.le_of_ble_eq_true rfl) (Nat.le_of_ble_eq_true rfl) dX8_init_221 ?_
  refine go_putR (pc := 223) (x := .ref 96) fP_X8_86 rfl (Nat.le_of_ble_eq_true rfl) rfl (fun _ => rfl) (fun _ => rfl) dX8_init_223 ?_
  refine go_aload_n (pc := 226) rfl dX8_init_226 ?_
  refine go_bipush (pc := 227) (v := 80) (by decide) dX8_init_227 ?_
  refine go_newa (pc := 229) (sl := 6578) (kd := 10) (len := 80) (by decide) aC_int (by decide) (by decide) (Nat.le_of_ble_eq_true rfl) (Nat.le_of_ble_eq_true rfl) (Nat.le_of_ble_eq_true rfl) dX8_init_229 ?_
  refine go_putR (pc := 231) (x := .ref 97) fP_X8_89 rfl (Nat.le_of_ble_eq_true rfl) rfl (fun _ => rfl) (fun _ => rfl) dX8_init_231 ?_
  refine go_aload_n (pc := 234) rfl dX8_init_234 ?_
  refine go_bipush (pc := 235) (v := 80) (by decide) dX8_init_235 ?_
  refine go_newa (pc := 237) (sl := 6658) (kd := 10) (len := 80) (by decide) aC_int (by decide) (by decide) (Nat.le_of_ble_eq_true rfl) (Nat.le_of_ble_eq_true rfl) (Nat.le_of_ble_eq_true rfl) dX8_init_237 ?_
  refine go_putR (pc := 239) (x := .ref 98) fP_X8_92 rfl (Nat.le_of_ble_eq_true rfl) rfl (fun _ => rfl) (fun _ => rfl) dX8_init_239 ?_
  refine go_aload_n (pc := 242) rfl dX8_init_242 ?_
  refine go_bipush (pc := 243) (v := 80) (by decide) dX8_init_243 ?_
  refine go_newa (pc := 245) (sl := 6738) (kd := 10) (len := 80) (by decide) aC_int (by decide) (by decide) (Nat.le_of_ble_eq_true rfl) (Nat.le_of_ble_eq_true rfl) (Nat.le_of_ble_eq_true rfl) dX8_init_245 ?_
  refine go_putR (pc := 247) (x := .ref 99) fP_X8_95 rfl (Nat.le_of_ble_eq_true rfl) rfl (fun _ => rfl) (fun _ => rfl) dX8_init_247 ?_
  refine go_aload_n (pc := 250) rfl dX8_init_250 ?_
  refine go_bipush (pc := 251) (v := 10) (by decide) dX8_init_251 ?_
  refine go_newa (pc := 253) (sl := 6818) (kd := 10) (len := 10) (by decide) aC_int (by decide) (by decide) (Nat.le_of_ble_eq_true rfl) (Nat.le_of_ble_eq_true rfl) (Nat.le_of_ble_eq_true rfl) dX8_init_253 ?_
  refine go_putR (pc := 255) (x := .ref 100) fP_X8_98 rfl (Nat.le_of_ble_eq_true rfl) rfl (fun _ => rfl) (fun _ => rfl) dX8_init_255 ?_
  refine go_aload_n (pc := 258) rfl dX8_init_258 ?_
  refine go_bipush (pc := 259) (v := 10) (by decide) dX8_init_259 ?_
  refine go_newa (pc := 261) (sl := 6828) (kd := 12) (len := 10) (by decide) aC_boolean (by decide) (by decide) (Nat.le_of_ble_eq_true rfl) (Nat.le_of_ble_eq_true rfl) (Nat.le_of_ble_eq_true rfl) dX8_init_261 ?_
  refine go_putR (pc := 263) (x := .ref 101) fP_X8_101 rfl (Nat.le_of_ble_eq_true rfl) rfl (fun _ => rfl) (fun _ => rfl) dX8_init_263 ?_
  refine go_aload_n (pc := 266) rfl dX8_init_266 ?_
  refine go_bipush (pc := 267) (v := 10) (by decide) dX8_init_267 ?_
  refine go_newa (pc := 269) (sl := 6838) (kd := 12) (len := 10) (by decide) aC_boolean (by decide) (by decide) (Nat.le_of_ble_eq_true rfl) (Nat.le_of_ble_eq_true rfl) (Nat.le_of_ble_eq_true rfl) dX8_init_269 ?_
  refine go_putR (pc := 271) (x := .ref 102) fP_X8_105 rfl (Nat.le_of_ble_eq_true rfl) rfl (fun _ => rfl) (fun _ => rfl) dX8_init_271 ?_
  refine go_aload_n (pc := 274) rfl dX8_init_274 ?_
  refine go_sipush (pc := 275) (v := 11115) (by decide) dX8_init_275 ?_
  refine go_newa (pc := 278) (sl := 6848) (kd := 10) (len := 11115) (by decide) aC_int (by decide) (by decide) (Nat.le_of_ble_eq_true rfl) (Nat.le_of_ble_eq_true rfl) (Nat.le_of_ble_eq_true rfl) dX8_init_278 ?_
  refine go_putR (pc := 280) (x := .ref 103) fP_X8_108 rfl (Nat.le_of_ble_eq_true rfl) rfl (fun _ => rfl) (fun _ => rfl) dX8_init_280 ?_
  refine go_aload_n (pc := 283) rfl dX8_init_283 ?_
  refine go_bipush (pc := 284) (v := 40) (by decide) dX8_init_284 ?_
  refine go_newa (pc := 286) (sl := 17963) (kd := 11) (len := 40) (by decide) aC_long (by decide) (by decide) (Nat.le_of_ble_eq_true rfl) (Nat.le_of_ble_eq_true rfl) (Nat.le_of_ble_eq_true rfl) dX8_init_286 ?_
  refine go_putR (pc := 288) (x := .ref 104) fP_X8_111 rfl (Nat.le_of_ble_eq_true rfl) rfl (fun _ => rfl) (fun _ => rfl) dX8_init_288 ?_
  refine go_aload_n (pc := 291) rfl dX8_init_291 ?_
  refine go_bipush (pc := 292) (v := 40) (by decide) dX8_init_292 ?_
  refine go_newa (pc := 294) (sl := 18003) (kd := 11) (len := 40) (by decide) aC_long (by decide) (by decide) (Nat.le_of_ble_eq_true rfl) (Nat.le_of_ble_eq_true rfl) (Nat.le_of_ble_eq_true rfl) dX8_init_294 ?_
  refine go_putR (pc := 296) (x := .ref 105) fP_X8_115 rfl (Nat.le_of_ble_eq_true rfl) rfl (fun _ => rfl) (fun _ => rfl) dX8_init_296 ?_
  refine go_aload_n (pc := 299) rfl dX8_init_299 ?_
  refine go_bipush (pc := 300) (v := 40) (by decide) dX8_init_300 ?_
  refine go_newa (pc := 302) (sl := 18043) (kd := 11) (len := 40) (by decide) aC_long (by decide) (by decide) (Nat.le_of_ble_eq_true rfl) (Nat.le_of_ble_eq_true rfl) (Nat.le_of_ble_eq_true rfl) dX8_init_302 ?_
  refine go_putR (pc := 304) (x := .ref 106) fP_X8_118 rfl (Nat.le_of_ble_eq_true rfl) rfl (fun _ => rfl) (fun _ => rfl) dX8_init_304 ?_
  refine go_aload_n (pc := 307) rfl dX8_init_307 ?_
  refine go_iconst (pc := 308) (v := 5) (by decide) dX8_init_308 ?_
  refine go_newa (pc := 309) (sl := 18083) (kd := 11) (len := 5) (by decide) aC_long (by decide) (by decide) (Nat.le_of_ble_eq_true rfl) (Nat.le_of_ble_eq_true rfl) (Nat.le_of_ble_eq_true rfl) dX8_init_309 ?_
  refine go_putR (pc := 311) (x := .ref 107) fP_X8_121 rfl (Nat.le_of_ble_eq_true rfl) rfl (fun _ => rfl) (fun _ => rfl) dX8_init_311 ?_
  refine go_aload_n (pc := 314) rfl dX8_init_314 ?_
  refine go_bipush (pc := 315) (v := 30) (by decide) dX8_init_315 ?_
  refine go_newa (pc := 317) (sl := 18088) (kd := 10) (len := 30) (by decide) aC_int (by decide) (by decide) (Nat.le_of_ble_eq_true rfl) (Nat.le_of_ble_eq_true rfl) (Nat.le_of_ble_eq_true rfl) dX8_init_317 ?_
  refine go_putR (pc := 319) (x := .ref 108) fP_X8_124 rfl (Nat.le_of_ble_eq_true rfl) rfl (fun _ => rfl) (fun _ => rfl) dX8_init_319 ?_
  refine go_aload_n (pc := 322) rfl dX8_init_322 ?_
  refine go_bipush (pc := 323) (v := 19) (by decide) dX8_init_323 ?_
  refine go_newa (pc := 325) (sl := 18118) (kd := 10) (len := 19) (by decide) aC_int (by decide) (by decide) (Nat.le_of_ble_eq_true rfl) (Nat.le_of_ble_eq_true rfl) (Nat.le_of_ble_eq_true rfl) dX8_init_325 ?_
  refine go_putR (pc := 327) (x := .ref 109) fP_X8_127 rfl (Nat.le_of_ble_eq_true rfl) rfl (fun _ => rfl) (fun _ => rfl) dX8_init_327 ?_
  refine go_aload_n (pc := 330) rfl dX8_init_330 ?_
  refine go_sipush (pc := 331) (v := 585) (by decide) dX8_init_331 ?_
  refine go_newa (pc := 334) (sl := 18137) (kd := 10) (len := 585) (by decide) aC_int (by decide) (by decide) (Nat.le_of_ble_eq_true rfl) (Nat.le_of_ble_eq_true rfl) (Nat.le_of_ble_eq_true rfl) dX8_init_334 ?_
  refine go_putR (pc := 336) (x := .ref 110) fP_X8_130 rfl (Nat.le_of_ble_eq_true rfl) rfl (fun _ => rfl) (fun _ => rfl) dX8_init_336 ?_
  refine go_aload_n (pc := 339) rfl dX8_init_339 ?_
  refine go_bipush (pc := 340) (v := 40) (by decide) dX8_init_340 ?_
  refine go_newa (pc := 342) (sl := 18722) (kd := 11) (len := 40) (by decide) aC_long (by decide) (by decide) (Nat.le_of_ble_eq_true rfl) (Nat.le_of_ble_eq_true rfl) (Nat.le_of_ble_eq_true rfl) dX8_init_342 ?_
  refine go_putR (pc := 344) (x := .ref 111) fP_X8_133 rfl (Nat.le_of_ble_eq_true rfl) rfl (fun _ => rfl) (fun _ => rfl) dX8_init_344 ?_
  refine go_aload_n (pc := 347) rfl dX8_init_347 ?_
  refine go_bipush (pc := 348) (v := 19) (by decide) dX8_init_348 ?_
  refine go_newa (pc := 350) (sl := 18762) (kd := 10) (len := 19) (by decide) aC_int (by decide) (by decide) (Nat.le_of_ble_eq_true rfl) (Nat.le_of_ble_eq_true rfl) (Nat.le_of_ble_eq_true rfl) dX8_init_350 ?_
  refine go_putR (pc := 352) (x := .ref 112) fP_X8_136 rfl (Nat.le_of_ble_eq_true rfl) rfl (fun _ => rfl) (fun _ => rfl) dX8_init_352 ?_
  refine go_aload_n (pc := 355) rfl dX8_init_355 ?_
  refine go_iconst (pc := 356) (v := 4) (by decide) dX8_init_356 ?_
  refine go_newa (pc := 357) (sl := 18781) (kd := 10) (len := 4) (by decide) aC_int (by decide) (by decide) (Nat.le_of_ble_eq_true rfl) (Nat.le_of_ble_eq_true rfl) (Nat.le_of_ble_eq_true rfl) dX8_init_357 ?_
  refine go_putR (pc := 359) (x := .ref 113) fP_X8_139 rfl (Nat.le_of_ble_eq_true rfl) rfl (fun _ => rfl) (fun _ => rfl) dX8_init_359 ?_
  refine go_aload_n (pc := 362) rfl dX8_init_362 ?_
  refine go_sipush (pc := 363) (v := 192) (by decide) dX8_init_363 ?_
  refine go_newa (pc := 366) (sl := 18785) (kd := 10) (len := 192) (by decide) aC_int (by decide) (by decide) (Nat.le_of_ble_eq_true rfl) (Nat.le_of_ble_eq_true rfl) (Nat.le_of_ble_eq_true rfl) dX8_init_366 ?_
  refine go_putR (pc := 368) (x := .ref 114) fP_X8_142 rfl (Nat.le_of_ble_eq_true rfl) rfl (fun _ => rfl) (fun _ => rfl) dX8_init_368 ?_
  refine go_aload_n (pc := 371) rfl dX8_init_371 ?_
  refine go_sipush (pc := 372) (v := 500) (by decide) dX8_init_372 ?_
  refine go_newa (pc := 375) (sl := 18977) (kd := 10) (len := 500) (by decide) aC_int (by decide) (by decide) (Nat.le_of_ble_eq_true rfl) (Nat.le_of_ble_eq_true rfl) (Nat.le_of_ble_eq_true rfl) dX8_init_375 ?_
  refine go_putR (pc := 377) (x := .ref 115) fP_X8_145 rfl (Nat.le_of_ble_eq_true rfl) rfl (fun _ => rfl) (fun _ => rfl) dX8_init_377 ?_
  refine go_aload_n (pc := 380) rfl dX8_init_380 ?_
  refine go_sipush (pc := 381) (v := 500) (by decide) dX8_init_381 ?_
  refine go_newa (pc := 384) (sl := 19477) (kd := 10) (len := 500) (by decide) aC_int (by decide) (by decide) (Nat.le_of_ble_eq_true rfl) (Nat.le_of_ble_eq_true rfl) (Nat.le_of_ble_eq_true rfl) dX8_init_384 ?_
  refine go_putR (pc := 386) (x := .ref 116) fP_X8_148 rfl (Nat.le_of_ble_eq_true rfl) rfl (fun _ => rfl) (fun _ => rfl) dX8_init_386 ?_
  exact go_vret (pc := 389) (⟨rfl, rfl⟩) rfl (Nat.le_of_ble_eq_true rfl) dX8_init_389

