theorem dX8_readEnd_0 : decode cX8_readEnd 0 = .ok (.aload_n 0, 1) := by decide +kernel
theorem dX8_readEnd_1 : decode cX8_readEnd 1 = .ok (.iload_n 1, 1) := by decide +kernel
theorem dX8_readEnd_2 : decode cX8_readEnd 2 = .ok (.iconst 0, 1) := by decide +kernel
theorem dX8_readEnd_3 : decode cX8_readEnd 3 = .ok (.invokevirtual 218, 3) := by decide +kernel
theorem dX8_readEnd_6 : decode cX8_readEnd 6 = .ok (.aload_n 0, 1) := by decide +kernel
theorem dX8_readEnd_7 : decode cX8_readEnd 7 = .ok (.bipush 59, 2) := by decide +kernel
theorem dX8_readEnd_9 : decode cX8_readEnd 9 = .ok (.invokevirtual 198, 3) := by decide +kernel
theorem dX8_readEnd_12 : decode cX8_readEnd 12 = .ok (.return_, 1) := by decide +kernel
theorem dX8_readSet_0 : decode cX8_readSet 0 = .ok (.aload_n 0, 1) := by decide +kernel
theorem dX8_readSet_1 : decode cX8_readSet 1 = .ok (.bipush 61, 2) := by decide +kernel
theorem dX8_readSet_3 : decode cX8_readSet 3 = .ok (.invokevirtual 198, 3) := by decide +kernel
theorem dX8_readSet_6 : decode cX8_readSet 6 = .ok (.aload_n 0, 1) := by decide +kernel
theorem dX8_readSet_7 : decode cX8_readSet 7 = .ok (.invokevirtual 172, 3) := by decide +kernel
theorem dX8_readSet_10 : decode cX8_readSet 10 = .ok (.ifCond .eq 90, 3) := by decide +kernel
theorem dX8_readSet_13 : decode cX8_readSet 13 = .ok (.iload_n 2, 1) := by decide +kernel
theorem dX8_readSet_14 : decode cX8_readSet 14 = .ok (.bipush 6, 2) := by decide +kernel
theorem dX8_readSet_16 : decode cX8_readSet 16 = .ok (.if_icmp .ge 84, 3) := by decide +kernel
theorem dX8_readSet_19 : decode cX8_readSet 19 = .ok (.aload_n 0, 1) := by decide +kernel
theorem dX8_readSet_20 : decode cX8_readSet 20 = .ok (.invokevirtual 176, 3) := by decide +kernel
theorem dX8_readSet_23 : decode cX8_readSet 23 = .ok (.bipush 65, 2) := by decide +kernel
theorem dX8_readSet_25 : decode cX8_readSet 25 = .ok (.bipush 69, 2) := by decide +kernel
theorem dX8_readSet_27 : decode cX8_readSet 27 = .ok (.invokestatic 159, 3) := by decide +kernel
theorem dX8_readSet_30 : decode cX8_readSet 30 = .ok (.ifCond .eq 70, 3) := by decide +kernel
theorem dX8_readSet_33 : decode cX8_readSet 33 = .ok (.aload_n 0, 1) := by decide +kernel
theorem dX8_readSet_34 : decode cX8_readSet 34 = .ok (.getfield 29, 3) := by decide +kernel
theorem dX8_readSet_37 : decode cX8_readSet 37 = .ok (.iload_n 1, 1) := by decide +kernel
theorem dX8_readSet_38 : decode cX8_readSet 38 = .ok (.iconst 1, 1) := by decide +kernel
theorem dX8_readSet_39 : decode cX8_readSet 39 = .ok (.iastore, 1) := by decide +kernel
theorem dX8_readSet_40 : decode cX8_readSet 40 = .ok (.aload_n 0, 1) := by decide +kernel
theorem dX8_readSet_41 : decode cX8_readSet 41 = .ok (.getfield 50, 3) := by decide +kernel
theorem dX8_readSet_44 : decode cX8_readSet 44 = .ok (.iload_n 1, 1) := by decide +kernel
theorem dX8_readSet_45 : decode cX8_readSet 45 = .ok (.aload_n 0, 1) := by decide +kernel
theorem dX8_readSet_46 : decode cX8_readSet 46 = .ok (.invokevirtual 176, 3) := by decide +kernel
theorem dX8_readSet_49 : decode cX8_readSet 49 = .ok (.bipush 65, 2) := by decide +kernel
theorem dX8_readSet_51 : decode cX8_readSet 51 = .ok (.isub, 1) := by decide +kernel
theorem dX8_readSet_52 : decode cX8_readSet 52 = .ok (.iastore, 1) := by decide +kernel
theorem dX8_readSet_53 : decode cX8_readSet 53 = .ok (.aload_n 0, 1) := by decide +kernel
theorem dX8_readSet_54 : decode cX8_readSet 54 = .ok (.dup, 1) := by decide +kernel
theorem dX8_readSet_55 : decode cX8_readSet 55 = .ok (.getfield 163, 3) := by decide +kernel
theorem dX8_readSet_58 : decode cX8_readSet 58 = .ok (.iconst 1, 1) := by decide +kernel
theorem dX8_readSet_59 : decode cX8_readSet 59 = .ok (.iadd, 1) := by decide +kernel
theorem dX8_readSet_60 : decode cX8_readSet 60 = .ok (.putfield 163, 3) := by decide +kernel
theorem dX8_readSet_63 : decode cX8_readSet 63 = .ok (.aload_n 0, 1) := by decide +kernel
theorem dX8_readSet_64 : decode cX8_readSet 64 = .ok (.bipush 40, 2) := by decide +kernel
theorem dX8_readSet_66 : decode cX8_readSet 66 = .ok (.invokevirtual 198, 3) := by decide +kernel
theorem dX8_readSet_69 : decode cX8_readSet 69 = .ok (.aload_n 0, 1) := by decide +kernel
theorem dX8_readSet_70 : decode cX8_readSet 70 = .ok (.iload_n 1, 1) := by decide +kernel
theorem dX8_readSet_71 : decode cX8_readSet 71 = .ok (.iconst 0, 1) := by decide +kernel
theorem dX8_readSet_72 : decode cX8_readSet 72 = .ok (.invokevirtual 218, 3) := by decide +kernel
theorem dX8_readSet_75 : decode cX8_readSet 75 = .ok (.aload_n 0, 1) := by decide +kernel
theorem dX8_readSet_76 : decode cX8_readSet 76 = .ok (.bipush 44, 2) := by decide +kernel
theorem dX8_readSet_78 : decode cX8_readSet 78 = .ok (.invokevirtual 198, 3) := by decide +kernel
theorem dX8_readSet_81 : decode cX8_readSet 81 = .ok (.aload_n 0, 1) := by decide +kernel
theorem dX8_readSet_82 : decode cX8_readSet 82 = .ok (.iload_n 1, 1) := by decide +kernel
theorem dX8_readSet_83 : decode cX8_readSet 83 = .ok (.iconst 1, 1) := by decide +kernel
theorem dX8_readSet_84 : decode cX8_readSet 84 = .ok (.invokevirtual 218, 3) := by decide +kernel
theorem dX8_readSet_87 : decode cX8_readSet 87 = .ok (.aload_n 0, 1) := by decide +kernel
theorem dX8_readSet_88 : decode cX8_readSet 88 = .ok (.bipush 41, 2) := by decide +kernel
theorem dX8_readSet_90 : decode cX8_readSet 90 = .ok (.invokevirtual 198, 3) := by decide +kernel
theorem dX8_readSet_93 : decode cX8_readSet 93 = .ok (.aload_n 0, 1) := by decide +kernel
theorem dX8_readSet_94 : decode cX8_readSet 94 = .ok (.bipush 59, 2) := by decide +kernel
theorem dX8_readSet_96 : decode cX8_readSet 96 = .ok (.invokevirtual 198, 3) := by decide +kernel
theorem dX8_readSet_99 : decode cX8_readSet 99 = .ok (.return_, 1) := by decide +kernel
theorem dX8_readSet_100 : decode cX8_readSet 100 = .ok (.aload_n 0, 1) := by decide +kernel
theorem dX8_readSet_101 : decode cX8_readSet 101 = .ok (.iload_n 1, 1) := by decide +kernel
theorem dX8_readSet_102 : decode cX8_readSet 102 = .ok (.iconst 0, 1) := by decide +kernel
theorem dX8_readSet_103 : decode cX8_readSet 103 = .ok (.invokevirtual 218, 3) := by decide +kernel
theorem dX8_readSet_106 : decode cX8_readSet 106 = .ok (.aload_n 0, 1) := by decide +kernel
theorem dX8_readSet_107 : decode cX8_readSet 107 = .ok (.invokevirtual 172, 3) := by decide +kernel
theorem dX8_readSet_110 : decode cX8_readSet 110 = .ok (.ifCond .eq 39, 3) := by decide +kernel
theorem dX8_readSet_113 : decode cX8_readSet 113 = .ok (.aload_n 0, 1) := by decide +kernel
theorem dX8_readSet_114 : decode cX8_readSet 114 = .ok (.invokevirtual 176, 3) := by decide +kernel
theorem dX8_readSet_117 : decode cX8_readSet 117 = .ok (.invokestatic 220, 3) := by decide +kernel
theorem dX8_readSet_120 : decode cX8_readSet 120 = .ok (.ifCond .eq 29, 3) := by decide +kernel
theorem dX8_readSet_123 : decode cX8_readSet 123 = .ok (.aload_n 0, 1) := by decide +kernel
theorem dX8_readSet_124 : decode cX8_readSet 124 = .ok (.getfield 47, 3) := by decide +kernel
theorem dX8_readSet_127 : decode cX8_readSet 127 = .ok (.iload_n 1, 1) := by decide +kernel
theorem dX8_readSet_128 : decode cX8_readSet 128 = .ok (.aload_n 0, 1) := by decide +kernel
theorem dX8_readSet_129 : decode cX8_readSet 129 = .ok (.invokevirtual 176, 3) := by decide +kernel
theorem dX8_readSet_132 : decode cX8_readSet 132 = .ok (.iastore, 1) := by decide +kernel
theorem dX8_readSet_133 : decode cX8_readSet 133 = .ok (.aload_n 0, 1) := by decide +kernel
theorem dX8_readSet_134 : decode cX8_readSet 134 = .ok (.dup, 1) := by decide +kernel
theorem dX8_readSet_135 : decode cX8_readSet 135 = .ok (.getfield 163, 3) := by decide +kernel
theorem dX8_readSet_138 : decode cX8_readSet 138 = .ok (.iconst 1, 1) := by decide +kernel
theorem dX8_readSet_139 : decode cX8_readSet 139 = .ok (.iadd, 1) := by decide +kernel
theorem dX8_readSet_140 : decode cX8_readSet 140 = .ok (.putfield 163, 3) := by decide +kernel
theorem dX8_readSet_143 : decode cX8_readSet 143 = .ok (.aload_n 0, 1) := by decide +kernel
theorem dX8_readSet_144 : decode cX8_readSet 144 = .ok (.iload_n 1, 1) := by decide +kernel
theorem dX8_readSet_145 : decode cX8_readSet 145 = .ok (.iconst 1, 1) := by decide +kernel
theorem dX8_readSet_146 : decode cX8_readSet 146 = .ok (.invokevirtual 218, 3) := by decide +kernel
theorem dX8_readSet_149 : decode cX8_readSet 149 = .ok (.aload_n 0, 1) := by decide +kernel
theorem dX8_readSet_150 : decode cX8_readSet 150 = .ok (.bipush 59, 2) := by decide +kernel
theorem dX8_readSet_152 : decode cX8_readSet 152 = .ok (.invokevirtual 198, 3) := by decide +kernel
theorem dX8_readSet_155 : decode cX8_readSet 155 = .ok (.return_, 1) := by decide +kernel
set_option maxHeartbeats 4000000 in
set_option maxRecDepth 100000 in
theorem s_X8_readEnd (l : Launch) (d : Nat) {P : PP} {h : HP} (hv : Iv P h) (a2 : Int32) (a2l : 0 ≤ a2.toInt) (a2u : a2.toInt ≤ 259) (hi : 130 * (h.2.1 70 6).toInt ≤ a2.toInt ∧ a2.toInt < 130 * (h.2.1 70 6).toInt + 130) : Mt l yX8_readEnd cX8_readEnd 2 none (d + 4) [.ref 70, .int a2] h 0 0 (fun r h' => r = none ∧ (∃ Q : PP, Iv Q h' ∧ MW P Q) ∧ ((h'.2.1 70 5).toInt = 0 → (h.2.1 70 5).toInt = 0) ∧ ((h.2.1 70 4).toInt ≤ (h'.2.1 70 4).toInt) ∧ (V h'.2.1 73 (h.2.1 70 6).toInt = V h.2.1 73 (h.2.1 70 6).toInt) ∧ (V h'.2.1 74 (h.2.1 70 6).toInt = V h.2.1 74 (h.2.1 70 6).toInt) ∧ (V h'.2.1 75 (h.2.1 70 6).toInt = V h.2.1 75 (h.2.1 70 6).toInt) ∧ ((h'.2.1 70 5).toInt = 0 → ∀ d : Int, ¬ V h.2.1 77 a2.toInt = 6 → ¬ V h.2.1 77 a2.toInt = 2 → ¬ V h.2.1 77 a2.toInt = 3 → RT h.2.1 h'.2.1 (h.2.1 70 6).toInt a2.toInt d) ∧ (OH h.2.1 h'.2.1 (h.2.1 70 6).toInt) ∧ (CKF h.2.1 → CKF h'.2.1)) := by
  refine Mt_iv hv (by decide) (Nat.le_of_ble_eq_true rfl) ?_
  show Go l RX8 cX8_readEnd 2 (g_rm (d + 4) 0 0) "readEnd" none 117 0 0 (fun _ _ => True) (fun r h' => r = none ∧ (∃ Q : PP, Iv Q h' ∧ MW P Q) ∧ ((h'.2.1 70 5).toInt = 0 → (h.2.1 70 5).toInt = 0) ∧ ((h.2.1 70 4).toInt ≤ (h'.2.1 70 4).toInt) ∧ (V h'.2.1 73 (h.2.1 70 6).toInt = V h.2.1 73 (h.2.1 70 6).toInt) ∧ (V h'.2.1 74 (h.2.1 70 6).toInt = V h.2.1 74 (h.2.1 70 6).toInt) ∧ (V h'.2.1 75 (h.2.1 70 6).toInt = V h.2.1 75 (h.2.1 70 6).toInt) ∧ ((h'.2.1 70 5).toInt = 0 → ∀ d : Int, ¬ V h.2.1 77 a2.toInt = 6 → ¬ V h.2.1 77 a2.toInt = 2 → ¬ V h.2.1 77 a2.toInt = 3 → RT h.2.1 h'.2.1 (h.2.1 70 6).toInt a2.toInt d) ∧ (OH h.2.1 h'.2.1 (h.2.1 70 6).toInt) ∧ (CKF h.2.1 → CKF h'.2.1)) 0 0 [(0, .ref 70), (1, .int a2)] [] h
  obtain ⟨S, hS⟩ : ∃ S : Int, S = (h.2.1 70 6).toInt := ⟨_, rfl⟩
  have S0 : 0 ≤ S := by rw [hS]; exact (hv.2.1 70 6).1
  have S1 : S ≤ 1 := by rw [hS]; exact (hv.2.1 70 6).2
  have oh : OH h.2.1 h.2.1 S := OH.rfl _ _
  have ck : CKF h.2.1 → CKF h.2.1 := id
  rw [← hS] at hi
  refine go_aload_n (pc := 0) rfl dX8_readEnd_0 ?_
  refine go_iload_n (pc := 1) rfl dX8_readEnd_1 ?_
  refine go_iconst (pc := 2) (v := 0) (by decide) dX8_readEnd_2 ?_
  have sM1 : (h.2.1 70 6).toInt = S := (congrArg Int32.toInt oh.side).trans hS.symm
  have g2 : (0 : Int) ≤ (h.2.1 70 4).toInt := (hv.2.1 70 4).1
  have g3 : (h.2.1 70 4).toInt ≤ 500 := (hv.2.1 70 4).2
  have g4 : (-2147483648 : Int) ≤ (h.2.1 70 5).toInt := (hv.2.1 70 5).1
  have g5 : (h.2.1 70 5).toInt ≤ 2147483647 := (hv.2.1 70 5).2
  refine go_invV (pc := 3) (sl := 0) (s_X8_operand l (d + 0) hv a2 (by rw [show (a2 : Int32).toInt = a2.toInt from (ti_rfl a2)]; omega) (by rw [show (a2 : Int32).toInt = a2.toInt from (ti_rfl a2)]; omega) 0 (by rw [show (0 : Int32).toInt = 0 from (ti_c (v := 0) (a := 0) (by decide))]; omega) (by rw [show (0 : Int32).toInt = 0 from (ti_c (v := 0) (a := 0) (by decide))]; omega) (by rw [sM1]; exact hi)) mL_X8_218 iM_X8_operand sM_X8_operand (hv.sh rfl) rfl rfl rfl (Nat.le_of_ble_eq_true rfl) (show d + 0 + 3 + 1 ≤ d + 4 by omega) (show 8 + (7 + 11) + 40 * (d + 0 + 3) ≤ 40 * (d + 4) by omega) (g_c0 hv.ln) (Nat.le_of_ble_eq_true rfl) dX8_readEnd_3 ?_
  intro r h6 hq _
  obtain ⟨rfl, ⟨Q7, hv6, sq8⟩, f9, f10, f11, f12, f13, f14, f15, f16⟩ := hq
  rw [sM1] at f12
  rw [sM1] at f13
  rw [sM1] at f14
  rw [sM1] at f15
  have oh6 : OH h.2.1 h6.2.1 S := oh.trans f15
  have ck6 : CKF h.2.1 → CKF h6.2.1 := fun z => f16 (ck z)
  try rw [show (0 : Int32).toInt = 0 from (ti_c (v := 0) (a := 0) (by decide))] at f9
  try rw [show (0 : Int32).toInt = 0 from (ti_c (v := 0) (a := 0) (by decide))] at f10
  try rw [show (0 : Int32).toInt = 0 from (ti_c (v := 0) (a := 0) (by decide))] at f11
  try rw [show (0 : Int32).toInt = 0 from (ti_c (v := 0) (a := 0) (by decide))] at f12
  try rw [show (0 : Int32).toInt = 0 from (ti_c (v := 0) (a := 0) (by decide))] at f13
  try rw [show (0 : Int32).toInt = 0 from (ti_c (v := 0) (a := 0) (by decide))] at f14
  try rw [show (0 : Int32).toInt = 0 from (ti_c (v := 0) (a := 0) (by decide))] at f15
  try rw [show (0 : Int32).toInt = 0 from (ti_c (v := 0) (a := 0) (by decide))] at f16
  obtain ⟨u17, u17w⟩ : ∃ v : Int32, v = h6.2.1 70 4 := ⟨_, rfl⟩
  have u17e : (h6.2.1 70 4).toInt = u17.toInt := by rw [u17w]
  have u17l : 0 ≤ u17.toInt := by rw [u17w]; exact (hv6.2.1 70 4).1
  have u17u : u17.toInt ≤ 500 := by rw [u17w]; exact (hv6.2.1 70 4).2
  obtain ⟨u18, u18w⟩ : ∃ v : Int32, v = h6.2.1 70 5 := ⟨_, rfl⟩
  have u18e : (h6.2.1 70 5).toInt = u18.toInt := by rw [u18w]
  have u18l : -2147483648 ≤ u18.toInt := by rw [u18w]; exact (hv6.2.1 70 5).1
  have u18u : u18.toInt ≤ 2147483647 := by rw [u18w]; exact (hv6.2.1 70 5).2
  refine go_aload_n (pc := 6) rfl dX8_readEnd_6 ?_
  refine go_bipush (pc := 7) (v := 59) (by decide) dX8_readEnd_7 ?_
  have g19 : (0 : Int) ≤ (h6.2.1 70 4).toInt := (hv6.2.1 70 4).1
  have g20 : (h6.2.1 70 4).toInt ≤ 500 := (hv6.2.1 70 4).2
  have g21 : (-2147483648 : Int) ≤ (h6.2.1 70 5).toInt := (hv6.2.1 70 5).1
  have g22 : (h6.2.1 70 5).toInt ≤ 2147483647 := (hv6.2.1 70 5).2
  have g23 : (h6.2.1 70 4).toInt = u17.toInt := by rw [← (show u17 = h6.2.1 70 4 from u17w)] <;> exact (ti_rfl u17)
  have g24 : (h6.2.1 70 5).toInt = u18.toInt := by rw [← (show u18 = h6.2.1 70 5 from u18w)] <;> exact (ti_rfl u18)
  refine go_invV (pc := 9) (sl := 0) (s_X8_must l (d + 1) hv6 59 (by rw [show (59 : Int32).toInt = 59 from (ti_c (v := 59) (a := 59) (by decide))]; omega) (by rw [show (59 : Int32).toInt = 59 from (ti_c (v := 59) (a := 59) (by decide))]; omega)) mL_X8_198 iM_X8_must sM_X8_must (hv6.sh rfl) rfl rfl rfl (Nat.le_of_ble_eq_true rfl) (show d + 1 + 2 + 1 ≤ d + 4 by omega) (show 8 + (2 + 11) + 40 * (d + 1 + 2) ≤ 40 * (d + 4) by omega) (g_c0 hv6.ln) (Nat.le_of_ble_eq_true rfl) dX8_readEnd_9 ?_
  intro r h25 hq _
  obtain ⟨rfl, hv25, f26, f27, f28⟩ := hq
  try rw [show (59 : Int32).toInt = 59 from (ti_c (v := 59) (a := 59) (by decide))] at f26
  try rw [show (59 : Int32).toInt = 59 from (ti_c (v := 59) (a := 59) (by decide))] at f27
  try rw [show (59 : Int32).toInt = 59 from (ti_c (v := 59) (a := 59) (by decide))] at f28
  have ve25 : VE h6.2.1 h25.2.1 := VE.of hv6 hv25
  have oh25 : OH h.2.1 h25.2.1 S := oh6.trans (OH.of hv6 hv25 S)
  have ck25 : CKF h.2.1 → CKF h25.2.1 := fun z => CKF.ve ve25 (ck6 z)
  have n73_25 : V h25.2.1 73 S = V h6.2.1 73 S := ve25.v (by omega) (by omega)
  have n74_25 : V h25.2.1 74 S = V h6.2.1 74 S := ve25.v (by omega) (by omega)
  have n75_25 : V h25.2.1 75 S = V h6.2.1 75 S := ve25.v (by omega) (by omega)
  obtain ⟨u29, u29w⟩ : ∃ v : Int32, v = h25.2.1 70 4 := ⟨_, rfl⟩
  have u29e : (h25.2.1 70 4).toInt = u29.toInt := by rw [u29w]
  have u29l : 0 ≤ u29.toInt := by rw [u29w]; exact (hv25.2.1 70 4).1
  have u29u : u29.toInt ≤ 500 := by rw [u29w]; exact (hv25.2.1 70 4).2
  obtain ⟨u30, u30w⟩ : ∃ v : Int32, v = h25.2.1 70 5 := ⟨_, rfl⟩
  have u30e : (h25.2.1 70 5).toInt = u30.toInt := by rw [u30w]
  have u30l : -2147483648 ≤ u30.toInt := by rw [u30w]; exact (hv25.2.1 70 5).1
  have u30u : u30.toInt ≤ 2147483647 := by rw [u30w]; exact (hv25.2.1 70 5).2
  have g31 : (0 : Int) ≤ (h25.2.1 70 4).toInt := (hv25.2.1 70 4).1
  have g32 : (h25.2.1 70 4).toInt ≤ 500 := (hv25.2.1 70 4).2
  have g33 : (-2147483648 : Int) ≤ (h25.2.1 70 5).toInt := (hv25.2.1 70 5).1
  have g34 : (h25.2.1 70 5).toInt ≤ 2147483647 := (hv25.2.1 70 5).2
  have g35 : (h25.2.1 70 4).toInt = u29.toInt := by rw [← (show u29 = h25.2.1 70 4 from u29w)] <;> exact (ti_rfl u29)
  have g36 : (h25.2.1 70 5).toInt = u30.toInt := by rw [← (show u30 = h25.2.1 70 5 from u30w)] <;> exact (ti_rfl u30)
  have pp37 : (h25.2.1 70 5).toInt = 0 → (h.2.1 70 5).toInt = 0 := (by omega)
  have pp38 : (h.2.1 70 4).toInt ≤ (h25.2.1 70 4).toInt := (by omega)
  have pp39 : V h25.2.1 73 S = V h.2.1 73 S := (by omega)
  have pp40 : V h25.2.1 74 S = V h.2.1 74 S := (by omega)
  have pp41 : V h25.2.1 75 S = V h.2.1 75 S := (by omega)
  have pp42 : (h25.2.1 70 5).toInt = 0 → ∀ d : Int, ¬ V h.2.1 77 a2.toInt = 6 → ¬ V h.2.1 77 a2.toInt = 2 → ¬ V h.2.1 77 a2.toInt = 3 → RT h.2.1 h25.2.1 S a2.toInt d := (fun hg d k1 k2 k3 => RT.op (((OP.rfl _).trans (f11 (by omega))).trans (OP.ve ve25)) k1 k2 k3)
  subst hS
  exact gi_vret (pc := 12) ⟨rfl, ⟨_, hv25, sq8⟩, pp37, pp38, pp39, pp40, pp41, pp42, oh25, ck25⟩ hv25 dX8_readEnd_12
set_option maxHeartbeats 4000000 in
set_option maxRecDepth 100000 in
theorem s_X8_readSet (l : Launch) (d : Nat) {P : PP} {h : HP} (hv : Iv P h) (a2 : Int32) (a2l : 0 ≤ a2.toInt) (a2u : a2.toInt ≤ 259) (a3 : Int32) (a3l : -1 ≤ a3.toInt) (a3u : a3.toInt ≤ 9) (hi : 130 * (h.2.1 70 6).toInt ≤ a2.toInt ∧ a2.toInt < 130 * (h.2.1 70 6).toInt + 130) : Mt l yX8_readSet cX8_readSet 3 none (d + 4) [.ref 70, .int a2, .int a3] h 0 0 (fun r h' => r = none ∧ (∃ Q : PP, Iv Q h' ∧ MW P Q) ∧ ((h'.2.1 70 5).toInt = 0 → (h.2.1 70 5).toInt = 0) ∧ ((h.2.1 70 4).toInt ≤ (h'.2.1 70 4).toInt) ∧ (V h'.2.1 73 (h.2.1 70 6).toInt = V h.2.1 73 (h.2.1 70 6).toInt) ∧ (V h'.2.1 74 (h.2.1 70 6).toInt = V h.2.1 74 (h.2.1 70 6).toInt) ∧ (V h'.2.1 75 (h.2.1 70 6).toInt = V h.2.1 75 (h.2.1 70 6).toInt) ∧ ((h'.2.1 70 5).toInt = 0 → ∀ d : Int, V h.2.1 77 a2.toInt = 0 → V h.2.1 82 a2.toInt = a3.toInt → RT h.2.1 h'.2.1 (h.2.1 70 6).toInt a2.toInt d) ∧ (OH h.2.1 h'.2.1 (h.2.1 70 6).toInt) ∧ (CKF h.2.1 → CKF h'.2.1)) := by
  refine Mt_iv hv (by decide) (Nat.le_of_ble_eq_true rfl) ?_
  show Go l RX8 cX8_readSet 3 (g_rm (d + 4) 0 0) "readSet" none 117 0 0 (fun _ _ => True) (fun r h' => r = none ∧ (∃ Q : PP, Iv Q h' ∧ MW P Q) ∧ ((h'.2.1 70 5).toInt = 0 → (h.2.1 70 5).toInt = 0) ∧ ((h.2.1 70 4).toInt ≤ (h'.2.1 70 4).toInt) ∧ (V h'.2.1 73 (h.2.1 70 6).toInt = V h.2.1 73 (h.2.1 70 6).toInt) ∧ (V h'.2.1 74 (h.2.1 70 6).toInt = V h.2.1 74 (h.2.1 70 6).toInt) ∧ (V h'.2.1 75 (h.2.1 70 6).toInt = V h.2.1 75 (h.2.1 70 6).toInt) ∧ ((h'.2.1 70 5).toInt = 0 → ∀ d : Int, V h.2.1 77 a2.toInt = 0 → V h.2.1 82 a2.toInt = a3.toInt → RT h.2.1 h'.2.1 (h.2.1 70 6).toInt a2.toInt d) ∧ (OH h.2.1 h'.2.1 (h.2.1 70 6).toInt) ∧ (CKF h.2.1 → CKF h'.2.1)) 0 0 [(0, .ref 70), (1, .int a2), (2, .int a3)] [] h
  obtain ⟨S, hS⟩ : ∃ S : Int, S = (h.2.1 70 6).toInt := ⟨_, rfl⟩
  have S0 : 0 ≤ S := by rw [hS]; exact (hv.2.1 70 6).1
  have S1 : S ≤ 1 := by rw [hS]; exact (hv.2.1 70 6).2
  have oh : OH h.2.1 h.2.1 S := OH.rfl _ _
  have ck : CKF h.2.1 → CKF h.2.1 := id
  rw [← hS] at hi
  refine go_aload_n (pc := 0) rfl dX8_readSet_0 ?_
  refine go_bipush (pc := 1) (v := 61) (by decide) dX8_readSet_1 ?_
  have g1 : (0 : Int) ≤ (h.2.1 70 4).toInt := (hv.2.1 70 4).1
  have g2 : (h.2.1 70 4).toInt ≤ 500 := (hv.2.1 70 4).2
  have g3 : (-2147483648 : Int) ≤ (h.2.1 70 5).toInt := (hv.2.1 70 5).1
  have g4 : (h.2.1 70 5).toInt ≤ 2147483647 := (hv.2.1 70 5).2
  refine go_invV (pc := 3) (sl := 0) (s_X8_must l (d + 1) hv 61 (by rw [show (61 : Int32).toInt = 61 from (ti_c (v := 61) (a := 61) (by decide))]; omega) (by rw [show (61 : Int32).toInt = 61 from (ti_c (v := 61) (a := 61) (by decide))]; omega)) mL_X8_198 iM_X8_must sM_X8_must (hv.sh rfl) rfl rfl rfl (Nat.le_of_ble_eq_true rfl) (show d + 1 + 2 + 1 ≤ d + 4 by omega) (show 8 + (2 + 11) + 40 * (d + 1 + 2) ≤ 40 * (d + 4) by omega) (g_c0 hv.ln) (Nat.le_of_ble_eq_true rfl) dX8_readSet_3 ?_
  intro r h5 hq _
  obtain ⟨rfl, hv5, f6, f7, f8⟩ := hq
  try rw [show (61 : Int32).toInt = 61 from (ti_c (v := 61) (a := 61) (by decide))] at f6
  try rw [show (61 : Int32).toInt = 61 from (ti_c (v := 61) (a := 61) (by decide))] at f7
  try rw [show (61 : Int32).toInt = 61 from (ti_c (v := 61) (a := 61) (by decide))] at f8
  have ve5 : VE h.2.1 h5.2.1 := VE.of hv hv5
  have oh5 : OH h.2.1 h5.2.1 S := oh.trans (OH.of hv hv5 S)
  have ck5 : CKF h.2.1 → CKF h5.2.1 := fun z => CKF.ve ve5 (ck z)
  have n73_5 : V h5.2.1 73 S = V h.2.1 73 S := ve5.v (by omega) (by omega)
  have n74_5 : V h5.2.1 74 S = V h.2.1 74 S := ve5.v (by omega) (by omega)
  have n75_5 : V h5.2.1 75 S = V h.2.1 75 S := ve5.v (by omega) (by omega)
  obtain ⟨u9, u9w⟩ : ∃ v : Int32, v = h5.2.1 70 4 := ⟨_, rfl⟩
  have u9e : (h5.2.1 70 4).toInt = u9.toInt := by rw [u9w]
  have u9l : 0 ≤ u9.toInt := by rw [u9w]; exact (hv5.2.1 70 4).1
  have u9u : u9.toInt ≤ 500 := by rw [u9w]; exact (hv5.2.1 70 4).2
  obtain ⟨u10, u10w⟩ : ∃ v : Int32, v = h5.2.1 70 5 := ⟨_, rfl⟩
  have u10e : (h5.2.1 70 5).toInt = u10.toInt := by rw [u10w]
  have u10l : -2147483648 ≤ u10.toInt := by rw [u10w]; exact (hv5.2.1 70 5).1
  have u10u : u10.toInt ≤ 2147483647 := by rw [u10w]; exact (hv5.2.1 70 5).2
  refine go_aload_n (pc := 6) rfl dX8_readSet_6 ?_
  refine go_invV (pc := 7) (sl := 0) (s_X8_isGood l (d + 2) hv5 ) mL_X8_172 iM_X8_isGood sM_X8_isGood (hv5.sh rfl) rfl rfl rfl (Nat.le_of_ble_eq_true rfl) (show d + 2 + 1 + 1 ≤ d + 4 by omega) (show 8 + (1 + 11) + 40 * (d + 2 + 1) ≤ 40 * (d + 4) by omega) (g_c0 hv5.ln) (Nat.le_of_ble_eq_true rfl) dX8_readSet_7 ?_
  intro r h11 hq _
  obtain ⟨v14, rfl, v14l, v14u, rfl, f12, f13⟩ := hq
  refine gf_if_eq (pc := 10) (tgt := 100) (ti_rfl v14) (by decide) dX8_readSet_10 (fun q15 => ?_) (fun q15 => ?_)
  ·
    refine go_aload_n (pc := 100) rfl dX8_readSet_100 ?_
    refine go_iload_n (pc := 101) rfl dX8_readSet_101 ?_
    refine go_iconst (pc := 102) (v := 0) (by decide) dX8_readSet_102 ?_
    have sM16 : (h5.2.1 70 6).toInt = S := (congrArg Int32.toInt oh5.side).trans hS.symm
    have g17 : (0 : Int) ≤ (h5.2.1 70 4).toInt := (hv5.2.1 70 4).1
    have g18 : (h5.2.1 70 4).toInt ≤ 500 := (hv5.2.1 70 4).2
    have g19 : (-2147483648 : Int) ≤ (h5.2.1 70 5).toInt := (hv5.2.1 70 5).1
    have g20 : (h5.2.1 70 5).toInt ≤ 2147483647 := (hv5.2.1 70 5).2
    have g21 : (h5.2.1 70 4).toInt = u9.toInt := by rw [← (show u9 = h5.2.1 70 4 from u9w)] <;> exact (ti_rfl u9)
    have g22 : (h5.2.1 70 5).toInt = u10.toInt := by rw [← (show u10 = h5.2.1 70 5 from u10w)] <;> exact (ti_rfl u10)
    refine go_invV (pc := 103) (sl := 0) (s_X8_operand l (d + 0) hv5 a2 (by rw [show (a2 : Int32).toInt = a2.toInt from (ti_rfl a2)]; omega) (by rw [show (a2 : Int32).toInt = a2.toInt from (ti_rfl a2)]; omega) 0 (by rw [show (0 : Int32).toInt = 0 from (ti_c (v := 0) (a := 0) (by decide))]; omega) (by rw [show (0 : Int32).toInt = 0 from (ti_c (v := 0) (a := 0) (by decide))]; omega) (by rw [sM16]; exact hi)) mL_X8_218 iM_X8_operand sM_X8_operand (hv5.sh rfl) rfl rfl rfl (Nat.le_of_ble_eq_true rfl) (show d + 0 + 3 + 1 ≤ d + 4 by omega) (show 8 + (7 + 11) + 40 * (d + 0 + 3) ≤ 40 * (d + 4) by omega) (g_c0 hv5.ln) (Nat.le_of_ble_eq_true rfl) dX8_readSet_103 ?_
    intro r h23 hq _
    obtain ⟨rfl, ⟨Q24, hv23, sq25⟩, f26, f27, f28, f29, f30, f31, f32, f33⟩ := hq
    rw [sM16] at f29
    rw [sM16] at f30
    rw [sM16] at f31
    rw [sM16] at f32
    have oh23 : OH h.2.1 h23.2.1 S := oh5.trans f32
    have ck23 : CKF h.2.1 → CKF h23.2.1 := fun z => f33 (ck5 z)
    try rw [show (0 : Int32).toInt = 0 from (ti_c (v := 0) (a := 0) (by decide))] at f26
    try rw [show (0 : Int32).toInt = 0 from (ti_c (v := 0) (a := 0) (by decide))] at f27
    try rw [show (0 : Int32).toInt = 0 from (ti_c (v := 0) (a := 0) (by decide))] at f28
    try rw [show (0 : Int32).toInt = 0 from (ti_c (v := 0) (a := 0) (by decide))] at f29
    try rw [show (0 : Int32).toInt = 0 from (ti_c (v := 0) (a := 0) (by decide))] at f30
    try rw [show (0 : Int32).toInt = 0 from (ti_c (v := 0) (a := 0) (by decide))] at f31
    try rw [show (0 : Int32).toInt = 0 from (ti_c (v := 0) (a := 0) (by decide))] at f32
    try rw [show (0 : Int32).toInt = 0 from (ti_c (v := 0) (a := 0) (by decide))] at f33
    obtain ⟨u34, u34w⟩ : ∃ v : Int32, v = h23.2.1 70 4 := ⟨_, rfl⟩
    have u34e : (h23.2.1 70 4).toInt = u34.toInt := by rw [u34w]
    have u34l : 0 ≤ u34.toInt := by rw [u34w]; exact (hv23.2.1 70 4).1
    have u34u : u34.toInt ≤ 500 := by rw [u34w]; exact (hv23.2.1 70 4).2
    obtain ⟨u35, u35w⟩ : ∃ v : Int32, v = h23.2.1 70 5 := ⟨_, rfl⟩
    have u35e : (h23.2.1 70 5).toInt = u35.toInt := by rw [u35w]
    have u35l : -2147483648 ≤ u35.toInt := by rw [u35w]; exact (hv23.2.1 70 5).1
    have u35u : u35.toInt ≤ 2147483647 := by rw [u35w]; exact (hv23.2.1 70 5).2
    refine go_aload_n (pc := 106) rfl dX8_readSet_106 ?_
    refine go_invV (pc := 107) (sl := 0) (s_X8_isGood l (d + 2) hv23 ) mL_X8_172 iM_X8_isGood sM_X8_isGood (hv23.sh rfl) rfl rfl rfl (Nat.le_of_ble_eq_true rfl) (show d + 2 + 1 + 1 ≤ d + 4 by omega) (show 8 + (1 + 11) + 40 * (d + 2 + 1) ≤ 40 * (d + 4) by omega) (g_c0 hv23.ln) (Nat.le_of_ble_eq_true rfl) dX8_readSet_107 ?_
    intro r h36 hq _
    obtain ⟨v39, rfl, v39l, v39u, rfl, f37, f38⟩ := hq
    refine gf_if_eq (pc := 110) (tgt := 149) (ti_rfl v39) (by decide) dX8_readSet_110 (fun q40 => ?_) (fun q40 => ?_)
    ·
      refine go_aload_n (pc := 149) rfl dX8_readSet_149 ?_
      refine go_bipush (pc := 150) (v := 59) (by decide) dX8_readSet_150 ?_
      have g41 : (0 : Int) ≤ (h23.2.1 70 4).toInt := (hv23.2.1 70 4).1
      have g42 : (h23.2.1 70 4).toInt ≤ 500 := (hv23.2.1 70 4).2
      have g43 : (-2147483648 : Int) ≤ (h23.2.1 70 5).toInt := (hv23.2.1 70 5).1
      have g44 : (h23.2.1 70 5).toInt ≤ 2147483647 := (hv23.2.1 70 5).2
      have g45 : (h23.2.1 70 4).toInt = u34.toInt := by rw [← (show u34 = h23.2.1 70 4 from u34w)] <;> exact (ti_rfl u34)
      have g46 : (h23.2.1 70 5).toInt = u35.toInt := by rw [← (show u35 = h23.2.1 70 5 from u35w)] <;> exact (ti_rfl u35)
      refine go_invV (pc := 152) (sl := 0) (s_X8_must l (d + 1) hv23 59 (by rw [show (59 : Int32).toInt = 59 from (ti_c (v := 59) (a := 59) (by decide))]; omega) (by rw [show (59 : Int32).toInt = 59 from (ti_c (v := 59) (a := 59) (by decide))]; omega)) mL_X8_198 iM_X8_must sM_X8_must (hv23.sh rfl) rfl rfl rfl (Nat.le_of_ble_eq_true rfl) (show d + 1 + 2 + 1 ≤ d + 4 by omega) (show 8 + (2 + 11) + 40 * (d + 1 + 2) ≤ 40 * (d + 4) by omega) (g_c0 hv23.ln) (Nat.le_of_ble_eq_true rfl) dX8_readSet_152 ?_
      intro r h47 hq _
      obtain ⟨rfl, hv47, f48, f49, f50⟩ := hq
      try rw [show (59 : Int32).toInt = 59 from (ti_c (v := 59) (a := 59) (by decide))] at f48
      try rw [show (59 : Int32).toInt = 59 from (ti_c (v := 59) (a := 59) (by decide))] at f49
      try rw [show (59 : Int32).toInt = 59 from (ti_c (v := 59) (a := 59) (by decide))] at f50
      have ve47 : VE h23.2.1 h47.2.1 := VE.of hv23 hv47
      have oh47 : OH h.2.1 h47.2.1 S := oh23.trans (OH.of hv23 hv47 S)
      have ck47 : CKF h.2.1 → CKF h47.2.1 := fun z => CKF.ve ve47 (ck23 z)
      have n73_47 : V h47.2.1 73 S = V h23.2.1 73 S := ve47.v (by omega) (by omega)
      have n74_47 : V h47.2.1 74 S = V h23.2.1 74 S := ve47.v (by omega) (by omega)
      have n75_47 : V h47.2.1 75 S = V h23.2.1 75 S := ve47.v (by omega) (by omega)
      obtain ⟨u51, u51w⟩ : ∃ v : Int32, v = h47.2.1 70 4 := ⟨_, rfl⟩
      have u51e : (h47.2.1 70 4).toInt = u51.toInt := by rw [u51w]
      have u51l : 0 ≤ u51.toInt := by rw [u51w]; exact (hv47.2.1 70 4).1
      have u51u : u51.toInt ≤ 500 := by rw [u51w]; exact (hv47.2.1 70 4).2
      obtain ⟨u52, u52w⟩ : ∃ v : Int32, v = h47.2.1 70 5 := ⟨_, rfl⟩
      have u52e : (h47.2.1 70 5).toInt = u52.toInt := by rw [u52w]
      have u52l : -2147483648 ≤ u52.toInt := by rw [u52w]; exact (hv47.2.1 70 5).1
      have u52u : u52.toInt ≤ 2147483647 := by rw [u52w]; exact (hv47.2.1 70 5).2
      have g53 : (0 : Int) ≤ (h47.2.1 70 4).toInt := (hv47.2.1 70 4).1
      have g54 : (h47.2.1 70 4).toInt ≤ 500 := (hv47.2.1 70 4).2
      have g55 : (-2147483648 : Int) ≤ (h47.2.1 70 5).toInt := (hv47.2.1 70 5).1
      have g56 : (h47.2.1 70 5).toInt ≤ 2147483647 := (hv47.2.1 70 5).2
      have g57 : (h47.2.1 70 4).toInt = u51.toInt := by rw [← (show u51 = h47.2.1 70 4 from u51w)] <;> exact (ti_rfl u51)
      have g58 : (h47.2.1 70 5).toInt = u52.toInt := by rw [← (show u52 = h47.2.1 70 5 from u52w)] <;> exact (ti_rfl u52)
      have pp59 : (h47.2.1 70 5).toInt = 0 → (h.2.1 70 5).toInt = 0 := (by omega)
      have pp60 : (h.2.1 70 4).toInt ≤ (h47.2.1 70 4).toInt := (by omega)
      have pp61 : V h47.2.1 73 S = V h.2.1 73 S := (by omega)
      have pp62 : V h47.2.1 74 S = V h.2.1 74 S := (by omega)
      have pp63 : V h47.2.1 75 S = V h.2.1 75 S := (by omega)
      have pp64 : (h47.2.1 70 5).toInt = 0 → ∀ d : Int, V h.2.1 77 a2.toInt = 0 → V h.2.1 82 a2.toInt = a3.toInt → RT h.2.1 h47.2.1 S a2.toInt d := (fun hg d k1 k2 => RT.op ((((OP.rfl _).trans (OP.ve ve5)).trans (f28 (by omega))).trans (OP.ve ve47)) (by omega) (by omega) (by omega))
      subst hS
      exact gi_vret (pc := 155) ⟨rfl, ⟨_, hv47, sq25⟩, pp59, pp60, pp61, pp62, pp63, pp64, oh47, ck47⟩ hv47 dX8_readSet_155
    ·
      refine go_aload_n (pc := 113) rfl dX8_readSet_113 ?_
      have g65 : (0 : Int) ≤ (h23.2.1 70 4).toInt := (hv23.2.1 70 4).1
      have g66 : (h23.2.1 70 4).toInt ≤ 500 := (hv23.2.1 70 4).2
      have g67 : (-2147483648 : Int) ≤ (h23.2.1 70 5).toInt := (hv23.2.1 70 5).1
      have g68 : (h23.2.1 70 5).toInt ≤ 2147483647 := (hv23.2.1 70 5).2
      have g69 : (h23.2.1 70 4).toInt = u34.toInt := by rw [← (show u34 = h23.2.1 70 4 from u34w)] <;> exact (ti_rfl u34)
      have g70 : (h23.2.1 70 5).toInt = u35.toInt := by rw [← (show u35 = h23.2.1 70 5 from u35w)] <;> exact (ti_rfl u35)
      refine go_invV (pc := 114) (sl := 0) (s_X8_here l (d + 2) hv23 ) mL_X8_176 iM_X8_here sM_X8_here (hv23.sh rfl) rfl rfl rfl (Nat.le_of_ble_eq_true rfl) (show d + 2 + 1 + 1 ≤ d + 4 by omega) (show 8 + (1 + 11) + 40 * (d + 2 + 1) ≤ 40 * (d + 4) by omega) (g_c0 hv23.ln) (Nat.le_of_ble_eq_true rfl) dX8_readSet_114 ?_
      intro r h71 hq _
      obtain ⟨v76, rfl, v76l, v76u, hv71, f72, f73, f74, f75⟩ := hq
      have ve71 : VE h23.2.1 h71.2.1 := VE.of hv23 hv71
      have oh71 : OH h.2.1 h71.2.1 S := oh23.trans (OH.of hv23 hv71 S)
      have ck71 : CKF h.2.1 → CKF h71.2.1 := fun z => CKF.ve ve71 (ck23 z)
      have n73_71 : V h71.2.1 73 S = V h23.2.1 73 S := ve71.v (by omega) (by omega)
      have n74_71 : V h71.2.1 74 S = V h23.2.1 74 S := ve71.v (by omega) (by omega)
      have n75_71 : V h71.2.1 75 S = V h23.2.1 75 S := ve71.v (by omega) (by omega)
      obtain ⟨u77, u77w⟩ : ∃ v : Int32, v = h71.2.1 70 4 := ⟨_, rfl⟩
      have u77e : (h71.2.1 70 4).toInt = u77.toInt := by rw [u77w]
      have u77l : 0 ≤ u77.toInt := by rw [u77w]; exact (hv71.2.1 70 4).1
      have u77u : u77.toInt ≤ 500 := by rw [u77w]; exact (hv71.2.1 70 4).2
      obtain ⟨u78, u78w⟩ : ∃ v : Int32, v = h71.2.1 70 5 := ⟨_, rfl⟩
      have u78e : (h71.2.1 70 5).toInt = u78.toInt := by rw [u78w]
      have u78l : -2147483648 ≤ u78.toInt := by rw [u78w]; exact (hv71.2.1 70 5).1
      have u78u : u78.toInt ≤ 2147483647 := by rw [u78w]; exact (hv71.2.1 70 5).2
      refine go_invS (pc := 117) (sl := 0) (s_X8_isSign l (d + 2) hv71 v76) mL_X8_220 iM_X8_isSign rfl rfl (Nat.le_of_ble_eq_true rfl) (show d + 2 + 1 + 1 ≤ d + 4 by omega) (show 8 + (1 + 11) + 40 * (d + 2 + 1) ≤ 40 * (d + 4) by omega) (g_c0 hv71.ln) (Nat.le_of_ble_eq_true rfl) dX8_readSet_117 ?_
      intro r h79 hq _
      obtain ⟨v81, rfl, v81l, v81u, rfl, f80⟩ := hq
      refine gf_if_eq (pc := 120) (tgt := 149) (ti_rfl v81) (by decide) dX8_readSet_120 (fun q82 => ?_) (fun q82 => ?_)
      ·
        refine go_aload_n (pc := 149) rfl dX8_readSet_149 ?_
        refine go_bipush (pc := 150) (v := 59) (by decide) dX8_readSet_150 ?_
        have g83 : (0 : Int) ≤ (h71.2.1 70 4).toInt := (hv71.2.1 70 4).1
        have g84 : (h71.2.1 70 4).toInt ≤ 500 := (hv71.2.1 70 4).2
        have g85 : (-2147483648 : Int) ≤ (h71.2.1 70 5).toInt := (hv71.2.1 70 5).1
        have g86 : (h71.2.1 70 5).toInt ≤ 2147483647 := (hv71.2.1 70 5).2
        have g87 : (h71.2.1 70 4).toInt = u77.toInt := by rw [← (show u77 = h71.2.1 70 4 from u77w)] <;> exact (ti_rfl u77)
        have g88 : (h71.2.1 70 5).toInt = u78.toInt := by rw [← (show u78 = h71.2.1 70 5 from u78w)] <;> exact (ti_rfl u78)
        refine go_invV (pc := 152) (sl := 0) (s_X8_must l (d + 1) hv71 59 (by rw [show (59 : Int32).toInt = 59 from (ti_c (v := 59) (a := 59) (by decide))]; omega) (by rw [show (59 : Int32).toInt = 59 from (ti_c (v := 59) (a := 59) (by decide))]; omega)) mL_X8_198 iM_X8_must sM_X8_must (hv71.sh rfl) rfl rfl rfl (Nat.le_of_ble_eq_true rfl) (show d + 1 + 2 + 1 ≤ d + 4 by omega) (show 8 + (2 + 11) + 40 * (d + 1 + 2) ≤ 40 * (d + 4) by omega) (g_c0 hv71.ln) (Nat.le_of_ble_eq_true rfl) dX8_readSet_152 ?_
        intro r h89 hq _
        obtain ⟨rfl, hv89, f90, f91, f92⟩ := hq
        try rw [show (59 : Int32).toInt = 59 from (ti_c (v := 59) (a := 59) (by decide))] at f90
        try rw [show (59 : Int32).toInt = 59 from (ti_c (v := 59) (a := 59) (by decide))] at f91
        try rw [show (59 : Int32).toInt = 59 from (ti_c (v := 59) (a := 59) (by decide))] at f92
        have ve89 : VE h71.2.1 h89.2.1 := VE.of hv71 hv89
        have oh89 : OH h.2.1 h89.2.1 S := oh71.trans (OH.of hv71 hv89 S)
        have ck89 : CKF h.2.1 → CKF h89.2.1 := fun z => CKF.ve ve89 (ck71 z)
        have n73_89 : V h89.2.1 73 S = V h71.2.1 73 S := ve89.v (by omega) (by omega)
        have n74_89 : V h89.2.1 74 S = V h71.2.1 74 S := ve89.v (by omega) (by omega)
        have n75_89 : V h89.2.1 75 S = V h71.2.1 75 S := ve89.v (by omega) (by omega)
        obtain ⟨u93, u93w⟩ : ∃ v : Int32, v = h89.2.1 70 4 := ⟨_, rfl⟩
        have u93e : (h89.2.1 70 4).toInt = u93.toInt := by rw [u93w]
        have u93l : 0 ≤ u93.toInt := by rw [u93w]; exact (hv89.2.1 70 4).1
        have u93u : u93.toInt ≤ 500 := by rw [u93w]; exact (hv89.2.1 70 4).2
        obtain ⟨u94, u94w⟩ : ∃ v : Int32, v = h89.2.1 70 5 := ⟨_, rfl⟩
        have u94e : (h89.2.1 70 5).toInt = u94.toInt := by rw [u94w]
        have u94l : -2147483648 ≤ u94.toInt := by rw [u94w]; exact (hv89.2.1 70 5).1
        have u94u : u94.toInt ≤ 2147483647 := by rw [u94w]; exact (hv89.2.1 70 5).2
        have g95 : (0 : Int) ≤ (h89.2.1 70 4).toInt := (hv89.2.1 70 4).1
        have g96 : (h89.2.1 70 4).toInt ≤ 500 := (hv89.2.1 70 4).2
        have g97 : (-2147483648 : Int) ≤ (h89.2.1 70 5).toInt := (hv89.2.1 70 5).1
        have g98 : (h89.2.1 70 5).toInt ≤ 2147483647 := (hv89.2.1 70 5).2
        have g99 : (h89.2.1 70 4).toInt = u93.toInt := by rw [← (show u93 = h89.2.1 70 4 from u93w)] <;> exact (ti_rfl u93)
        have g100 : (h89.2.1 70 5).toInt = u94.toInt := by rw [← (show u94 = h89.2.1 70 5 from u94w)] <;> exact (ti_rfl u94)
        have pp101 : (h89.2.1 70 5).toInt = 0 → (h.2.1 70 5).toInt = 0 := (by omega)
        have pp102 : (h.2.1 70 4).toInt ≤ (h89.2.1 70 4).toInt := (by omega)
        have pp103 : V h89.2.1 73 S = V h.2.1 73 S := (by omega)
        have pp104 : V h89.2.1 74 S = V h.2.1 74 S := (by omega)
        have pp105 : V h89.2.1 75 S = V h.2.1 75 S := (by omega)
        have pp106 : (h89.2.1 70 5).toInt = 0 → ∀ d : Int, V h.2.1 77 a2.toInt = 0 → V h.2.1 82 a2.toInt = a3.toInt → RT h.2.1 h89.2.1 S a2.toInt d := (fun hg d k1 k2 => RT.op (((((OP.rfl _).trans (OP.ve ve5)).trans (f28 (by omega))).trans (OP.ve ve71)).trans (OP.ve ve89)) (by omega) (by omega) (by omega))
        subst hS
        exact gi_vret (pc := 155) ⟨rfl, ⟨_, hv89, sq25⟩, pp101, pp102, pp103, pp104, pp105, pp106, oh89, ck89⟩ hv89 dX8_readSet_155
      ·
        refine go_aload_n (pc := 123) rfl dX8_readSet_123 ?_
        refine gi_getF (pc := 124) (q := 83) hv71 fL_X8_47 rfl (Nat.le_of_ble_eq_true rfl) rfl (hv71.rf (by decide)) dX8_readSet_124 ?_
        refine go_iload_n (pc := 127) rfl dX8_readSet_127 ?_
        refine go_aload_n (pc := 128) rfl dX8_readSet_128 ?_
        have k107 := (f75 (by omega)).1
        have k108 : (h71.2.1 70 3).toInt ≤ 500 := (hv71.2.1 70 3).2
        refine go_invV (pc := 129) (sl := 0) (s_X8_here_ns l (d + 2) hv71 (f75 (by omega))) mL_X8_176 iM_X8_here sM_X8_here (hv71.sh rfl) rfl rfl rfl (Nat.le_of_ble_eq_true rfl) (show d + 2 + 1 + 1 ≤ d + 4 by omega) (show 8 + (1 + 11) + 40 * (d + 2 + 1) ≤ 40 * (d + 4) by omega) (g_c0 hv71.ln) (Nat.le_of_ble_eq_true rfl) dX8_readSet_129 ?_
        intro r h109 hq _
        obtain ⟨v111, rfl, v111l, v111u, rfl, f110⟩ := hq
        refine gi_fst (pc := 132) (lo := -2147483648) (hi := 2147483647) (len := 260) hv71 (ti_rfl a2) (ti_rfl v111) rfl (by omega) (by omega) (fun _ => rfl) (ti_ge (ti_rfl v111)) (ti_le2 (ti_rfl v111)) (by omega) dX8_readSet_132 (fun h112 hv112 hv112e => ?_)
        refine go_aload_n (pc := 133) rfl dX8_readSet_133 ?_
        refine go_dup (pc := 134) rfl dX8_readSet_134 ?_
        refine gi_get (pc := 135) (lo := 0) (hi := 500) hv112 fL_X8_163 rfl (Nat.le_of_ble_eq_true rfl) rfl rfl dX8_readSet_135 (fun v113 v113l v113u v113w => ?_)
        have v113r : u77 = h112.2.1 70 4 := (show u77 = h112.2.1 70 4 from by rw [hv112e]; exact (g_iI rfl u77w.symm).symm)
        have v113q : TI v113 u77.toInt := by rw [v113w.trans v113r.symm]; exact (ti_rfl u77)
        refine go_iconst (pc := 138) (v := 1) (by decide) dX8_readSet_138 ?_
        refine gf_iadd (pc := 139) v113q (ti_c (v := 1) (a := 1) (by decide)) (by omega) (by omega) dX8_readSet_139 (fun v114 e115 => ?_)
        have E112 : h112.2.1 = (w1 h71.2.1 83 a2.toInt (v111 : Int32)) := by
          rw [hv112e]
          rfl
        have oh112 : OH h.2.1 h112.2.1 S := by rw [E112]; exact (oh71.trans (OH.w 130 rfl (by omega) (by omega) (by omega) (by omega)))
        have n73_112 : V h112.2.1 73 S = V h71.2.1 73 S := by rw [E112, V_ne (by omega)]
        have n74_112 : V h112.2.1 74 S = V h71.2.1 74 S := by rw [E112, V_ne (by omega)]
        have n75_112 : V h112.2.1 75 S = V h71.2.1 75 S := by rw [E112, V_ne (by omega)]
        have ck112 : CKF h.2.1 → CKF h112.2.1 := fun z => by rw [E112]; exact (CKF.w (by omega) (ck71 z))
        refine gi_put (pc := 140) (lo := 0) (hi := 500) hv112 e115 (fP_X8_163 _) rfl (Nat.le_of_ble_eq_true rfl) rfl rfl (by omega) (by omega) rfl rfl (by decide) (by decide) (by decide) (by decide) dX8_readSet_140 (fun h116 hv116 hv116e => ?_)
        have ve116 : VE h112.2.1 h116.2.1 := VE.of hv112 hv116
        have oh116 : OH h.2.1 h116.2.1 S := oh112.trans (OH.of hv112 hv116 S)
        have ck116 : CKF h.2.1 → CKF h116.2.1 := fun z => CKF.ve ve116 (ck112 z)
        have n73_116 : V h116.2.1 73 S = V h112.2.1 73 S := ve116.v (by omega) (by omega)
        have n74_116 : V h116.2.1 74 S = V h112.2.1 74 S := ve116.v (by omega) (by omega)
        have n75_116 : V h116.2.1 75 S = V h112.2.1 75 S := ve116.v (by omega) (by omega)
        refine go_aload_n (pc := 143) rfl dX8_readSet_143 ?_
        refine go_iload_n (pc := 144) rfl dX8_readSet_144 ?_
        refine go_iconst (pc := 145) (v := 1) (by decide) dX8_readSet_145 ?_
        have sM117 : (h116.2.1 70 6).toInt = S := (congrArg Int32.toInt oh116.side).trans hS.symm
        have g118 : (0 : Int) ≤ (h116.2.1 70 4).toInt := (hv116.2.1 70 4).1
        have g119 : (h116.2.1 70 4).toInt ≤ 500 := (hv116.2.1 70 4).2
        have g120 : (-2147483648 : Int) ≤ (h116.2.1 70 5).toInt := (hv116.2.1 70 5).1
        have g121 : (h116.2.1 70 5).toInt ≤ 2147483647 := (hv116.2.1 70 5).2
        have g122 : (h116.2.1 70 5).toInt = u78.toInt := by rw [← (show u78 = h116.2.1 70 5 from (show u78 = h116.2.1 70 5 from by rw [hv116e]; exact (g_iI rfl (show u78 = h112.2.1 70 5 from by rw [hv112e]; exact (g_iI rfl u78w.symm).symm).symm).symm))] <;> exact (ti_rfl u78)
        have g123 : (h116.2.1 70 4).toInt = (u77.toInt + 1) := by rw [← (show v114 = h116.2.1 70 4 from (show v114 = h116.2.1 70 4 from by rw [hv116e]; exact g_iS.symm))] <;> exact e115
        refine go_invV (pc := 146) (sl := 0) (s_X8_operand l (d + 0) hv116 a2 (by rw [show (a2 : Int32).toInt = a2.toInt from (ti_rfl a2)]; omega) (by rw [show (a2 : Int32).toInt = a2.toInt from (ti_rfl a2)]; omega) 1 (by rw [show (1 : Int32).toInt = 1 from (ti_c (v := 1) (a := 1) (by decide))]; omega) (by rw [show (1 : Int32).toInt = 1 from (ti_c (v := 1) (a := 1) (by decide))]; omega) (by rw [sM117]; exact hi)) mL_X8_218 iM_X8_operand sM_X8_operand (hv116.sh rfl) rfl rfl rfl (Nat.le_of_ble_eq_true rfl) (show d + 0 + 3 + 1 ≤ d + 4 by omega) (show 8 + (7 + 11) + 40 * (d + 0 + 3) ≤ 40 * (d + 4) by omega) (g_c0 hv116.ln) (Nat.le_of_ble_eq_true rfl) dX8_readSet_146 ?_
        intro r h124 hq _
        obtain ⟨rfl, ⟨Q125, hv124, sq126⟩, f127, f128, f129, f130, f131, f132, f133, f134⟩ := hq
        rw [sM117] at f130
        rw [sM117] at f131
        rw [sM117] at f132
        rw [sM117] at f133
        have oh124 : OH h.2.1 h124.2.1 S := oh116.trans f133
        have ck124 : CKF h.2.1 → CKF h124.2.1 := fun z => f134 (ck116 z)
        try rw [show (1 : Int32).toInt = 1 from (ti_c (v := 1) (a := 1) (by decide))] at f127
        try rw [show (1 : Int32).toInt = 1 from (ti_c (v := 1) (a := 1) (by decide))] at f128
        try rw [show (1 : Int32).toInt = 1 from (ti_c (v := 1) (a := 1) (by decide))] at f129
        try rw [show (1 : Int32).toInt = 1 from (ti_c (v := 1) (a := 1) (by decide))] at f130
        try rw [show (1 : Int32).toInt = 1 from (ti_c (v := 1) (a := 1) (by decide))] at f131
        try rw [show (1 : Int32).toInt = 1 from (ti_c (v := 1) (a := 1) (by decide))] at f132
        try rw [show (1 : Int32).toInt = 1 from (ti_c (v := 1) (a := 1) (by decide))] at f133
        try rw [show (1 : Int32).toInt = 1 from (ti_c (v := 1) (a := 1) (by decide))] at f134
        obtain ⟨u135, u135w⟩ : ∃ v : Int32, v = h124.2.1 70 4 := ⟨_, rfl⟩
        have u135e : (h124.2.1 70 4).toInt = u135.toInt := by rw [u135w]
        have u135l : 0 ≤ u135.toInt := by rw [u135w]; exact (hv124.2.1 70 4).1
        have u135u : u135.toInt ≤ 500 := by rw [u135w]; exact (hv124.2.1 70 4).2
        obtain ⟨u136, u136w⟩ : ∃ v : Int32, v = h124.2.1 70 5 := ⟨_, rfl⟩
        have u136e : (h124.2.1 70 5).toInt = u136.toInt := by rw [u136w]
        have u136l : -2147483648 ≤ u136.toInt := by rw [u136w]; exact (hv124.2.1 70 5).1
        have u136u : u136.toInt ≤ 2147483647 := by rw [u136w]; exact (hv124.2.1 70 5).2
        refine go_aload_n (pc := 149) rfl dX8_readSet_149 ?_
        refine go_bipush (pc := 150) (v := 59) (by decide) dX8_readSet_150 ?_
        have g137 : (0 : Int) ≤ (h124.2.1 70 4).toInt := (hv124.2.1 70 4).1
        have g138 : (h124.2.1 70 4).toInt ≤ 500 := (hv124.2.1 70 4).2
        have g139 : (-2147483648 : Int) ≤ (h124.2.1 70 5).toInt := (hv124.2.1 70 5).1
        have g140 : (h124.2.1 70 5).toInt ≤ 2147483647 := (hv124.2.1 70 5).2
        have g141 : (h124.2.1 70 4).toInt = u135.toInt := by rw [← (show u135 = h124.2.1 70 4 from u135w)] <;> exact (ti_rfl u135)
        have g142 : (h124.2.1 70 5).toInt = u136.toInt := by rw [← (show u136 = h124.2.1 70 5 from u136w)] <;> exact (ti_rfl u136)
        refine go_invV (pc := 152) (sl := 0) (s_X8_must l (d + 1) hv124 59 (by rw [show (59 : Int32).toInt = 59 from (ti_c (v := 59) (a := 59) (by decide))]; omega) (by rw [show (59 : Int32).toInt = 59 from (ti_c (v := 59) (a := 59) (by decide))]; omega)) mL_X8_198 iM_X8_must sM_X8_must (hv124.sh rfl) rfl rfl rfl (Nat.le_of_ble_eq_true rfl) (show d + 1 + 2 + 1 ≤ d + 4 by omega) (show 8 + (2 + 11) + 40 * (d + 1 + 2) ≤ 40 * (d + 4) by omega) (g_c0 hv124.ln) (Nat.le_of_ble_eq_true rfl) dX8_readSet_152 ?_
        intro r h143 hq _
        obtain ⟨rfl, hv143, f144, f145, f146⟩ := hq
        try rw [show (59 : Int32).toInt = 59 from (ti_c (v := 59) (a := 59) (by decide))] at f144
        try rw [show (59 : Int32).toInt = 59 from (ti_c (v := 59) (a := 59) (by decide))] at f145
        try rw [show (59 : Int32).toInt = 59 from (ti_c (v := 59) (a := 59) (by decide))] at f146
        have ve143 : VE h124.2.1 h143.2.1 := VE.of hv124 hv143
        have oh143 : OH h.2.1 h143.2.1 S := oh124.trans (OH.of hv124 hv143 S)
        have ck143 : CKF h.2.1 → CKF h143.2.1 := fun z => CKF.ve ve143 (ck124 z)
        have n73_143 : V h143.2.1 73 S = V h124.2.1 73 S := ve143.v (by omega) (by omega)
        have n74_143 : V h143.2.1 74 S = V h124.2.1 74 S := ve143.v (by omega) (by omega)
        have n75_143 : V h143.2.1 75 S = V h124.2.1 75 S := ve143.v (by omega) (by omega)
        obtain ⟨u147, u147w⟩ : ∃ v : Int32, v = h143.2.1 70 4 := ⟨_, rfl⟩
        have u147e : (h143.2.1 70 4).toInt = u147.toInt := by rw [u147w]
        have u147l : 0 ≤ u147.toInt := by rw [u147w]; exact (hv143.2.1 70 4).1
        have u147u : u147.toInt ≤ 500 := by rw [u147w]; exact (hv143.2.1 70 4).2
        obtain ⟨u148, u148w⟩ : ∃ v : Int32, v = h143.2.1 70 5 := ⟨_, rfl⟩
        have u148e : (h143.2.1 70 5).toInt = u148.toInt := by rw [u148w]
        have u148l : -2147483648 ≤ u148.toInt := by rw [u148w]; exact (hv143.2.1 70 5).1
        have u148u : u148.toInt ≤ 2147483647 := by rw [u148w]; exact (hv143.2.1 70 5).2
        have g149 : (0 : Int) ≤ (h143.2.1 70 4).toInt := (hv143.2.1 70 4).1
        have g150 : (h143.2.1 70 4).toInt ≤ 500 := (hv143.2.1 70 4).2
        have g151 : (-2147483648 : Int) ≤ (h143.2.1 70 5).toInt := (hv143.2.1 70 5).1
        have g152 : (h143.2.1 70 5).toInt ≤ 2147483647 := (hv143.2.1 70 5).2
        have g153 : (h143.2.1 70 4).toInt = u147.toInt := by rw [← (show u147 = h143.2.1 70 4 from u147w)] <;> exact (ti_rfl u147)
        have g154 : (h143.2.1 70 5).toInt = u148.toInt := by rw [← (show u148 = h143.2.1 70 5 from u148w)] <;> exact (ti_rfl u148)
        have pp155 : (h143.2.1 70 5).toInt = 0 → (h.2.1 70 5).toInt = 0 := (by omega)
        have pp156 : (h.2.1 70 4).toInt ≤ (h143.2.1 70 4).toInt := (by omega)
        have pp157 : V h143.2.1 73 S = V h.2.1 73 S := (by omega)
        have pp158 : V h143.2.1 74 S = V h.2.1 74 S := (by omega)
        have pp159 : V h143.2.1 75 S = V h.2.1 75 S := (by omega)
        have pp160 : (h143.2.1 70 5).toInt = 0 → ∀ d : Int, V h.2.1 77 a2.toInt = 0 → V h.2.1 82 a2.toInt = a3.toInt → RT h.2.1 h143.2.1 S a2.toInt d := (fun hg d k1 k2 => RT.op ((((((((OP.rfl _).trans (OP.ve ve5)).trans (f28 (by omega))).trans (OP.ve ve71)).trans (by rw [E112]; exact ((OP.rfl _).trans OP.w3))).trans (OP.ve ve116)).trans (f129 (by omega))).trans (OP.ve ve143)) (by omega) (by omega) (by omega))
        subst hS
        exact gi_vret (pc := 155) ⟨rfl, ⟨_, hv143, (MW.trans (MW.trans sq25 (MW.mz _ _)) sq126)⟩, pp155, pp156, pp157, pp158, pp159, pp160, oh143, ck143⟩ hv143 dX8_readSet_155
  ·
    refine go_iload_n (pc := 13) rfl dX8_readSet_13 ?_
    refine go_bipush (pc := 14) (v := 6) (by decide) dX8_readSet_14 ?_
    refine gf_icmp_ge (pc := 16) (tgt := 100) (ti_rfl a3) (ti_c (v := 6) (a := 6) (by decide)) (by decide) dX8_readSet_16 (fun q161 => ?_) (fun q161 => ?_)
    ·
      refine go_aload_n (pc := 100) rfl dX8_readSet_100 ?_
      refine go_iload_n (pc := 101) rfl dX8_readSet_101 ?_
      refine go_iconst (pc := 102) (v := 0) (by decide) dX8_readSet_102 ?_
      have sM162 : (h5.2.1 70 6).toInt = S := (congrArg Int32.toInt oh5.side).trans hS.symm
      have g163 : (0 : Int) ≤ (h5.2.1 70 4).toInt := (hv5.2.1 70 4).1
      have g164 : (h5.2.1 70 4).toInt ≤ 500 := (hv5.2.1 70 4).2
      have g165 : (-2147483648 : Int) ≤ (h5.2.1 70 5).toInt := (hv5.2.1 70 5).1
      have g166 : (h5.2.1 70 5).toInt ≤ 2147483647 := (hv5.2.1 70 5).2
      have g167 : (h5.2.1 70 4).toInt = u9.toInt := by rw [← (show u9 = h5.2.1 70 4 from u9w)] <;> exact (ti_rfl u9)
      have g168 : (h5.2.1 70 5).toInt = u10.toInt := by rw [← (show u10 = h5.2.1 70 5 from u10w)] <;> exact (ti_rfl u10)
      refine go_invV (pc := 103) (sl := 0) (s_X8_operand l (d + 0) hv5 a2 (by rw [show (a2 : Int32).toInt = a2.toInt from (ti_rfl a2)]; omega) (by rw [show (a2 : Int32).toInt = a2.toInt from (ti_rfl a2)]; omega) 0 (by rw [show (0 : Int32).toInt = 0 from (ti_c (v := 0) (a := 0) (by decide))]; omega) (by rw [show (0 : Int32).toInt = 0 from (ti_c (v := 0) (a := 0) (by decide))]; omega) (by rw [sM162]; exact hi)) mL_X8_218 iM_X8_operand sM_X8_operand (hv5.sh rfl) rfl rfl rfl (Nat.le_of_ble_eq_true rfl) (show d + 0 + 3 + 1 ≤ d + 4 by omega) (show 8 + (7 + 11) + 40 * (d + 0 + 3) ≤ 40 * (d + 4) by omega) (g_c0 hv5.ln) (Nat.le_of_ble_eq_true rfl) dX8_readSet_103 ?_
      intro r h169 hq _
      obtain ⟨rfl, ⟨Q170, hv169, sq171⟩, f172, f173, f174, f175, f176, f177, f178, f179⟩ := hq
      rw [sM162] at f175
      rw [sM162] at f176
      rw [sM162] at f177
      rw [sM162] at f178
      have oh169 : OH h.2.1 h169.2.1 S := oh5.trans f178
      have ck169 : CKF h.2.1 → CKF h169.2.1 := fun z => f179 (ck5 z)
      try rw [show (0 : Int32).toInt = 0 from (ti_c (v := 0) (a := 0) (by decide))] at f172
      try rw [show (0 : Int32).toInt = 0 from (ti_c (v := 0) (a := 0) (by decide))] at f173
      try rw [show (0 : Int32).toInt = 0 from (ti_c (v := 0) (a := 0) (by decide))] at f174
      try rw [show (0 : Int32).toInt = 0 from (ti_c (v := 0) (a := 0) (by decide))] at f175
      try rw [show (0 : Int32).toInt = 0 from (ti_c (v := 0) (a := 0) (by decide))] at f176
      try rw [show (0 : Int32).toInt = 0 from (ti_c (v := 0) (a := 0) (by decide))] at f177
      try rw [show (0 : Int32).toInt = 0 from (ti_c (v := 0) (a := 0) (by decide))] at f178
      try rw [show (0 : Int32).toInt = 0 from (ti_c (v := 0) (a := 0) (by decide))] at f179
      obtain ⟨u180, u180w⟩ : ∃ v : Int32, v = h169.2.1 70 4 := ⟨_, rfl⟩
      have u180e : (h169.2.1 70 4).toInt = u180.toInt := by rw [u180w]
      have u180l : 0 ≤ u180.toInt := by rw [u180w]; exact (hv169.2.1 70 4).1
      have u180u : u180.toInt ≤ 500 := by rw [u180w]; exact (hv169.2.1 70 4).2
      obtain ⟨u181, u181w⟩ : ∃ v : Int32, v = h169.2.1 70 5 := ⟨_, rfl⟩
      have u181e : (h169.2.1 70 5).toInt = u181.toInt := by rw [u181w]
      have u181l : -2147483648 ≤ u181.toInt := by rw [u181w]; exact (hv169.2.1 70 5).1
      have u181u : u181.toInt ≤ 2147483647 := by rw [u181w]; exact (hv169.2.1 70 5).2
      refine go_aload_n (pc := 106) rfl dX8_readSet_106 ?_
      refine go_invV (pc := 107) (sl := 0) (s_X8_isGood l (d + 2) hv169 ) mL_X8_172 iM_X8_isGood sM_X8_isGood (hv169.sh rfl) rfl rfl rfl (Nat.le_of_ble_eq_true rfl) (show d + 2 + 1 + 1 ≤ d + 4 by omega) (show 8 + (1 + 11) + 40 * (d + 2 + 1) ≤ 40 * (d + 4) by omega) (g_c0 hv169.ln) (Nat.le_of_ble_eq_true rfl) dX8_readSet_107 ?_
      intro r h182 hq _
      obtain ⟨v185, rfl, v185l, v185u, rfl, f183, f184⟩ := hq
      refine gf_if_eq (pc := 110) (tgt := 149) (ti_rfl v185) (by decide) dX8_readSet_110 (fun q186 => ?_) (fun q186 => ?_)
      ·
        refine go_aload_n (pc := 149) rfl dX8_readSet_149 ?_
        refine go_bipush (pc := 150) (v := 59) (by decide) dX8_readSet_150 ?_
        have g187 : (0 : Int) ≤ (h169.2.1 70 4).toInt := (hv169.2.1 70 4).1
        have g188 : (h169.2.1 70 4).toInt ≤ 500 := (hv169.2.1 70 4).2
        have g189 : (-2147483648 : Int) ≤ (h169.2.1 70 5).toInt := (hv169.2.1 70 5).1
        have g190 : (h169.2.1 70 5).toInt ≤ 2147483647 := (hv169.2.1 70 5).2
        have g191 : (h169.2.1 70 4).toInt = u180.toInt := by rw [← (show u180 = h169.2.1 70 4 from u180w)] <;> exact (ti_rfl u180)
        have g192 : (h169.2.1 70 5).toInt = u181.toInt := by rw [← (show u181 = h169.2.1 70 5 from u181w)] <;> exact (ti_rfl u181)
        refine go_invV (pc := 152) (sl := 0) (s_X8_must l (d + 1) hv169 59 (by rw [show (59 : Int32).toInt = 59 from (ti_c (v := 59) (a := 59) (by decide))]; omega) (by rw [show (59 : Int32).toInt = 59 from (ti_c (v := 59) (a := 59) (by decide))]; omega)) mL_X8_198 iM_X8_must sM_X8_must (hv169.sh rfl) rfl rfl rfl (Nat.le_of_ble_eq_true rfl) (show d + 1 + 2 + 1 ≤ d + 4 by omega) (show 8 + (2 + 11) + 40 * (d + 1 + 2) ≤ 40 * (d + 4) by omega) (g_c0 hv169.ln) (Nat.le_of_ble_eq_true rfl) dX8_readSet_152 ?_
        intro r h193 hq _
        obtain ⟨rfl, hv193, f194, f195, f196⟩ := hq
        try rw [show (59 : Int32).toInt = 59 from (ti_c (v := 59) (a := 59) (by decide))] at f194
        try rw [show (59 : Int32).toInt = 59 from (ti_c (v := 59) (a := 59) (by decide))] at f195
        try rw [show (59 : Int32).toInt = 59 from (ti_c (v := 59) (a := 59) (by decide))] at f196
        have ve193 : VE h169.2.1 h193.2.1 := VE.of hv169 hv193
        have oh193 : OH h.2.1 h193.2.1 S := oh169.trans (OH.of hv169 hv193 S)
        have ck193 : CKF h.2.1 → CKF h193.2.1 := fun z => CKF.ve ve193 (ck169 z)
        have n73_193 : V h193.2.1 73 S = V h169.2.1 73 S := ve193.v (by omega) (by omega)
        have n74_193 : V h193.2.1 74 S = V h169.2.1 74 S := ve193.v (by omega) (by omega)
        have n75_193 : V h193.2.1 75 S = V h169.2.1 75 S := ve193.v (by omega) (by omega)
        obtain ⟨u197, u197w⟩ : ∃ v : Int32, v = h193.2.1 70 4 := ⟨_, rfl⟩
        have u197e : (h193.2.1 70 4).toInt = u197.toInt := by rw [u197w]
        have u197l : 0 ≤ u197.toInt := by rw [u197w]; exact (hv193.2.1 70 4).1
        have u197u : u197.toInt ≤ 500 := by rw [u197w]; exact (hv193.2.1 70 4).2
        obtain ⟨u198, u198w⟩ : ∃ v : Int32, v = h193.2.1 70 5 := ⟨_, rfl⟩
        have u198e : (h193.2.1 70 5).toInt = u198.toInt := by rw [u198w]
        have u198l : -2147483648 ≤ u198.toInt := by rw [u198w]; exact (hv193.2.1 70 5).1
        have u198u : u198.toInt ≤ 2147483647 := by rw [u198w]; exact (hv193.2.1 70 5).2
        have g199 : (0 : Int) ≤ (h193.2.1 70 4).toInt := (hv193.2.1 70 4).1
        have g200 : (h193.2.1 70 4).toInt ≤ 500 := (hv193.2.1 70 4).2
        have g201 : (-2147483648 : Int) ≤ (h193.2.1 70 5).toInt := (hv193.2.1 70 5).1
        have g202 : (h193.2.1 70 5).toInt ≤ 2147483647 := (hv193.2.1 70 5).2
        have g203 : (h193.2.1 70 4).toInt = u197.toInt := by rw [← (show u197 = h193.2.1 70 4 from u197w)] <;> exact (ti_rfl u197)
        have g204 : (h193.2.1 70 5).toInt = u198.toInt := by rw [← (show u198 = h193.2.1 70 5 from u198w)] <;> exact (ti_rfl u198)
        have pp205 : (h193.2.1 70 5).toInt = 0 → (h.2.1 70 5).toInt = 0 := (by omega)
        have pp206 : (h.2.1 70 4).toInt ≤ (h193.2.1 70 4).toInt := (by omega)
        have pp207 : V h193.2.1 73 S = V h.2.1 73 S := (by omega)
        have pp208 : V h193.2.1 74 S = V h.2.1 74 S := (by omega)
        have pp209 : V h193.2.1 75 S = V h.2.1 75 S := (by omega)
        have pp210 : (h193.2.1 70 5).toInt = 0 → ∀ d : Int, V h.2.1 77 a2.toInt = 0 → V h.2.1 82 a2.toInt = a3.toInt → RT h.2.1 h193.2.1 S a2.toInt d := (fun hg d k1 k2 => RT.op ((((OP.rfl _).trans (OP.ve ve5)).trans (f174 (by omega))).trans (OP.ve ve193)) (by omega) (by omega) (by omega))
        subst hS
        exact gi_vret (pc := 155) ⟨rfl, ⟨_, hv193, sq171⟩, pp205, pp206, pp207, pp208, pp209, pp210, oh193, ck193⟩ hv193 dX8_readSet_155
      ·
        refine go_aload_n (pc := 113) rfl dX8_readSet_113 ?_
        have g211 : (0 : Int) ≤ (h169.2.1 70 4).toInt := (hv169.2.1 70 4).1
        have g212 : (h169.2.1 70 4).toInt ≤ 500 := (hv169.2.1 70 4).2
        have g213 : (-2147483648 : Int) ≤ (h169.2.1 70 5).toInt := (hv169.2.1 70 5).1
        have g214 : (h169.2.1 70 5).toInt ≤ 2147483647 := (hv169.2.1 70 5).2
        have g215 : (h169.2.1 70 4).toInt = u180.toInt := by rw [← (show u180 = h169.2.1 70 4 from u180w)] <;> exact (ti_rfl u180)
        have g216 : (h169.2.1 70 5).toInt = u181.toInt := by rw [← (show u181 = h169.2.1 70 5 from u181w)] <;> exact (ti_rfl u181)
        refine go_invV (pc := 114) (sl := 0) (s_X8_here l (d + 2) hv169 ) mL_X8_176 iM_X8_here sM_X8_here (hv169.sh rfl) rfl rfl rfl (Nat.le_of_ble_eq_true rfl) (show d + 2 + 1 + 1 ≤ d + 4 by omega) (show 8 + (1 + 11) + 40 * (d + 2 + 1) ≤ 40 * (d + 4) by omega) (g_c0 hv169.ln) (Nat.le_of_ble_eq_true rfl) dX8_readSet_114 ?_
        intro r h217 hq _
        obtain ⟨v222, rfl, v222l, v222u, hv217, f218, f219, f220, f221⟩ := hq
        have ve217 : VE h169.2.1 h217.2.1 := VE.of hv169 hv217
        have oh217 : OH h.2.1 h217.2.1 S := oh169.trans (OH.of hv169 hv217 S)
        have ck217 : CKF h.2.1 → CKF h217.2.1 := fun z => CKF.ve ve217 (ck169 z)
        have n73_217 : V h217.2.1 73 S = V h169.2.1 73 S := ve217.v (by omega) (by omega)
        have n74_217 : V h217.2.1 74 S = V h169.2.1 74 S := ve217.v (by omega) (by omega)
        have n75_217 : V h217.2.1 75 S = V h169.2.1 75 S := ve217.v (by omega) (by omega)
        obtain ⟨u223, u223w⟩ : ∃ v : Int32, v = h217.2.1 70 4 := ⟨_, rfl⟩
        have u223e : (h217.2.1 70 4).toInt = u223.toInt := by rw [u223w]
        have u223l : 0 ≤ u223.toInt := by rw [u223w]; exact (hv217.2.1 70 4).1
        have u223u : u223.toInt ≤ 500 := by rw [u223w]; exact (hv217.2.1 70 4).2
        obtain ⟨u224, u224w⟩ : ∃ v : Int32, v = h217.2.1 70 5 := ⟨_, rfl⟩
        have u224e : (h217.2.1 70 5).toInt = u224.toInt := by rw [u224w]
        have u224l : -2147483648 ≤ u224.toInt := by rw [u224w]; exact (hv217.2.1 70 5).1
        have u224u : u224.toInt ≤ 2147483647 := by rw [u224w]; exact (hv217.2.1 70 5).2
        refine go_invS (pc := 117) (sl := 0) (s_X8_isSign l (d + 2) hv217 v222) mL_X8_220 iM_X8_isSign rfl rfl (Nat.le_of_ble_eq_true rfl) (show d + 2 + 1 + 1 ≤ d + 4 by omega) (show 8 + (1 + 11) + 40 * (d + 2 + 1) ≤ 40 * (d + 4) by omega) (g_c0 hv217.ln) (Nat.le_of_ble_eq_true rfl) dX8_readSet_117 ?_
        intro r h225 hq _
        obtain ⟨v227, rfl, v227l, v227u, rfl, f226⟩ := hq
        refine gf_if_eq (pc := 120) (tgt := 149) (ti_rfl v227) (by decide) dX8_readSet_120 (fun q228 => ?_) (fun q228 => ?_)
        ·
          refine go_aload_n (pc := 149) rfl dX8_readSet_149 ?_
          refine go_bipush (pc := 150) (v := 59) (by decide) dX8_readSet_150 ?_
          have g229 : (0 : Int) ≤ (h217.2.1 70 4).toInt := (hv217.2.1 70 4).1
          have g230 : (h217.2.1 70 4).toInt ≤ 500 := (hv217.2.1 70 4).2
          have g231 : (-2147483648 : Int) ≤ (h217.2.1 70 5).toInt := (hv217.2.1 70 5).1
          have g232 : (h217.2.1 70 5).toInt ≤ 2147483647 := (hv217.2.1 70 5).2
          have g233 : (h217.2.1 70 4).toInt = u223.toInt := by rw [← (show u223 = h217.2.1 70 4 from u223w)] <;> exact (ti_rfl u223)
          have g234 : (h217.2.1 70 5).toInt = u224.toInt := by rw [← (show u224 = h217.2.1 70 5 from u224w)] <;> exact (ti_rfl u224)
          refine go_invV (pc := 152) (sl := 0) (s_X8_must l (d + 1) hv217 59 (by rw [show (59 : Int32).toInt = 59 from (ti_c (v := 59) (a := 59) (by decide))]; omega) (by rw [show (59 : Int32).toInt = 59 from (ti_c (v := 59) (a := 59) (by decide))]; omega)) mL_X8_198 iM_X8_must sM_X8_must (hv217.sh rfl) rfl rfl rfl (Nat.le_of_ble_eq_true rfl) (show d + 1 + 2 + 1 ≤ d + 4 by omega) (show 8 + (2 + 11) + 40 * (d + 1 + 2) ≤ 40 * (d + 4) by omega) (g_c0 hv217.ln) (Nat.le_of_ble_eq_true rfl) dX8_readSet_152 ?_
          intro r h235 hq _
          obtain ⟨rfl, hv235, f236, f237, f238⟩ := hq
          try rw [show (59 : Int32).toInt = 59 from (ti_c (v := 59) (a := 59) (by decide))] at f236
          try rw [show (59 : Int32).toInt = 59 from (ti_c (v := 59) (a := 59) (by decide))] at f237
          try rw [show (59 : Int32).toInt = 59 from (ti_c (v := 59) (a := 59) (by decide))] at f238
          have ve235 : VE h217.2.1 h235.2.1 := VE.of hv217 hv235
          have oh235 : OH h.2.1 h235.2.1 S := oh217.trans (OH.of hv217 hv235 S)
          have ck235 : CKF h.2.1 → CKF h235.2.1 := fun z => CKF.ve ve235 (ck217 z)
          have n73_235 : V h235.2.1 73 S = V h217.2.1 73 S := ve235.v (by omega) (by omega)
          have n74_235 : V h235.2.1 74 S = V h217.2.1 74 S := ve235.v (by omega) (by omega)
          have n75_235 : V h235.2.1 75 S = V h217.2.1 75 S := ve235.v (by omega) (by omega)
          obtain ⟨u239, u239w⟩ : ∃ v : Int32, v = h235.2.1 70 4 := ⟨_, rfl⟩
          have u239e : (h235.2.1 70 4).toInt = u239.toInt := by rw [u239w]
          have u239l : 0 ≤ u239.toInt := by rw [u239w]; exact (hv235.2.1 70 4).1
          have u239u : u239.toInt ≤ 500 := by rw [u239w]; exact (hv235.2.1 70 4).2
          obtain ⟨u240, u240w⟩ : ∃ v : Int32, v = h235.2.1 70 5 := ⟨_, rfl⟩
          have u240e : (h235.2.1 70 5).toInt = u240.toInt := by rw [u240w]
          have u240l : -2147483648 ≤ u240.toInt := by rw [u240w]; exact (hv235.2.1 70 5).1
          have u240u : u240.toInt ≤ 2147483647 := by rw [u240w]; exact (hv235.2.1 70 5).2
          have g241 : (0 : Int) ≤ (h235.2.1 70 4).toInt := (hv235.2.1 70 4).1
          have g242 : (h235.2.1 70 4).toInt ≤ 500 := (hv235.2.1 70 4).2
          have g243 : (-2147483648 : Int) ≤ (h235.2.1 70 5).toInt := (hv235.2.1 70 5).1
          have g244 : (h235.2.1 70 5).toInt ≤ 2147483647 := (hv235.2.1 70 5).2
          have g245 : (h235.2.1 70 4).toInt = u239.toInt := by rw [← (show u239 = h235.2.1 70 4 from u239w)] <;> exact (ti_rfl u239)
          have g246 : (h235.2.1 70 5).toInt = u240.toInt := by rw [← (show u240 = h235.2.1 70 5 from u240w)] <;> exact (ti_rfl u240)
          have pp247 : (h235.2.1 70 5).toInt = 0 → (h.2.1 70 5).toInt = 0 := (by omega)
          have pp248 : (h.2.1 70 4).toInt ≤ (h235.2.1 70 4).toInt := (by omega)
          have pp249 : V h235.2.1 73 S = V h.2.1 73 S := (by omega)
          have pp250 : V h235.2.1 74 S = V h.2.1 74 S := (by omega)
          have pp251 : V h235.2.1 75 S = V h.2.1 75 S := (by omega)
          have pp252 : (h235.2.1 70 5).toInt = 0 → ∀ d : Int, V h.2.1 77 a2.toInt = 0 → V h.2.1 82 a2.toInt = a3.toInt → RT h.2.1 h235.2.1 S a2.toInt d := (fun hg d k1 k2 => RT.op (((((OP.rfl _).trans (OP.ve ve5)).trans (f174 (by omega))).trans (OP.ve ve217)).trans (OP.ve ve235)) (by omega) (by omega) (by omega))
          subst hS
          exact gi_vret (pc := 155) ⟨rfl, ⟨_, hv235, sq171⟩, pp247, pp248, pp249, pp250, pp251, pp252, oh235, ck235⟩ hv235 dX8_readSet_155
        ·
          refine go_aload_n (pc := 123) rfl dX8_readSet_123 ?_
          refine gi_getF (pc := 124) (q := 83) hv217 fL_X8_47 rfl (Nat.le_of_ble_eq_true rfl) rfl (hv217.rf (by decide)) dX8_readSet_124 ?_
          refine go_iload_n (pc := 127) rfl dX8_readSet_127 ?_
          refine go_aload_n (pc := 128) rfl dX8_readSet_128 ?_
          have k253 := (f221 (by omega)).1
          have k254 : (h217.2.1 70 3).toInt ≤ 500 := (hv217.2.1 70 3).2
          refine go_invV (pc := 129) (sl := 0) (s_X8_here_ns l (d + 2) hv217 (f221 (by omega))) mL_X8_176 iM_X8_here sM_X8_here (hv217.sh rfl) rfl rfl rfl (Nat.le_of_ble_eq_true rfl) (show d + 2 + 1 + 1 ≤ d + 4 by omega) (show 8 + (1 + 11) + 40 * (d + 2 + 1) ≤ 40 * (d + 4) by omega) (g_c0 hv217.ln) (Nat.le_of_ble_eq_true rfl) dX8_readSet_129 ?_
          intro r h255 hq _
          obtain ⟨v257, rfl, v257l, v257u, rfl, f256⟩ := hq
          refine gi_fst (pc := 132) (lo := -2147483648) (hi := 2147483647) (len := 260) hv217 (ti_rfl a2) (ti_rfl v257) rfl (by omega) (by omega) (fun _ => rfl) (ti_ge (ti_rfl v257)) (ti_le2 (ti_rfl v257)) (by omega) dX8_readSet_132 (fun h258 hv258 hv258e => ?_)
          refine go_aload_n (pc := 133) rfl dX8_readSet_133 ?_
          refine go_dup (pc := 134) rfl dX8_readSet_134 ?_
          refine gi_get (pc := 135) (lo := 0) (hi := 500) hv258 fL_X8_163 rfl (Nat.le_of_ble_eq_true rfl) rfl rfl dX8_readSet_135 (fun v259 v259l v259u v259w => ?_)
          have v259r : u223 = h258.2.1 70 4 := (show u223 = h258.2.1 70 4 from by rw [hv258e]; exact (g_iI rfl u223w.symm).symm)
          have v259q : TI v259 u223.toInt := by rw [v259w.trans v259r.symm]; exact (ti_rfl u223)
          refine go_iconst (pc := 138) (v := 1) (by decide) dX8_readSet_138 ?_
          refine gf_iadd (pc := 139) v259q (ti_c (v := 1) (a := 1) (by decide)) (by omega) (by omega) dX8_readSet_139 (fun v260 e261 => ?_)
          have E258 : h258.2.1 = (w1 h217.2.1 83 a2.toInt (v257 : Int32)) := by
            rw [hv258e]
            rfl
          have oh258 : OH h.2.1 h258.2.1 S := by rw [E258]; exact (oh217.trans (OH.w 130 rfl (by omega) (by omega) (by omega) (by omega)))
          have n73_258 : V h258.2.1 73 S = V h217.2.1 73 S := by rw [E258, V_ne (by omega)]
          have n74_258 : V h258.2.1 74 S = V h217.2.1 74 S := by rw [E258, V_ne (by omega)]
          have n75_258 : V h258.2.1 75 S = V h217.2.1 75 S := by rw [E258, V_ne (by omega)]
          have ck258 : CKF h.2.1 → CKF h258.2.1 := fun z => by rw [E258]; exact (CKF.w (by omega) (ck217 z))
          refine gi_put (pc := 140) (lo := 0) (hi := 500) hv258 e261 (fP_X8_163 _) rfl (Nat.le_of_ble_eq_true rfl) rfl rfl (by omega) (by omega) rfl rfl (by decide) (by decide) (by decide) (by decide) dX8_readSet_140 (fun h262 hv262 hv262e => ?_)
          have ve262 : VE h258.2.1 h262.2.1 := VE.of hv258 hv262
          have oh262 : OH h.2.1 h262.2.1 S := oh258.trans (OH.of hv258 hv262 S)
          have ck262 : CKF h.2.1 → CKF h262.2.1 := fun z => CKF.ve ve262 (ck258 z)
          have n73_262 : V h262.2.1 73 S = V h258.2.1 73 S := ve262.v (by omega) (by omega)
          have n74_262 : V h262.2.1 74 S = V h258.2.1 74 S := ve262.v (by omega) (by omega)
          have n75_262 : V h262.2.1 75 S = V h258.2.1 75 S := ve262.v (by omega) (by omega)
          refine go_aload_n (pc := 143) rfl dX8_readSet_143 ?_
          refine go_iload_n (pc := 144) rfl dX8_readSet_144 ?_
          refine go_iconst (pc := 145) (v := 1) (by decide) dX8_readSet_145 ?_
          have sM263 : (h262.2.1 70 6).toInt = S := (congrArg Int32.toInt oh262.side).trans hS.symm
          have g264 : (0 : Int) ≤ (h262.2.1 70 4).toInt := (hv262.2.1 70 4).1
          have g265 : (h262.2.1 70 4).toInt ≤ 500 := (hv262.2.1 70 4).2
          have g266 : (-2147483648 : Int) ≤ (h262.2.1 70 5).toInt := (hv262.2.1 70 5).1
          have g267 : (h262.2.1 70 5).toInt ≤ 2147483647 := (hv262.2.1 70 5).2
          have g268 : (h262.2.1 70 5).toInt = u224.toInt := by rw [← (show u224 = h262.2.1 70 5 from (show u224 = h262.2.1 70 5 from by rw [hv262e]; exact (g_iI rfl (show u224 = h258.2.1 70 5 from by rw [hv258e]; exact (g_iI rfl u224w.symm).symm).symm).symm))] <;> exact (ti_rfl u224)
          have g269 : (h262.2.1 70 4).toInt = (u223.toInt + 1) := by rw [← (show v260 = h262.2.1 70 4 from (show v260 = h262.2.1 70 4 from by rw [hv262e]; exact g_iS.symm))] <;> exact e261
          refine go_invV (pc := 146) (sl := 0) (s_X8_operand l (d + 0) hv262 a2 (by rw [show (a2 : Int32).toInt = a2.toInt from (ti_rfl a2)]; omega) (by rw [show (a2 : Int32).toInt = a2.toInt from (ti_rfl a2)]; omega) 1 (by rw [show (1 : Int32).toInt = 1 from (ti_c (v := 1) (a := 1) (by decide))]; omega) (by rw [show (1 : Int32).toInt = 1 from (ti_c (v := 1) (a := 1) (by decide))]; omega) (by rw [sM263]; exact hi)) mL_X8_218 iM_X8_operand sM_X8_operand (hv262.sh rfl) rfl rfl rfl (Nat.le_of_ble_eq_true rfl) (show d + 0 + 3 + 1 ≤ d + 4 by omega) (show 8 + (7 + 11) + 40 * (d + 0 + 3) ≤ 40 * (d + 4) by omega) (g_c0 hv262.ln) (Nat.le_of_ble_eq_true rfl) dX8_readSet_146 ?_
          intro r h270 hq _
          obtain ⟨rfl, ⟨Q271, hv270, sq272⟩, f273, f274, f275, f276, f277, f278, f279, f280⟩ := hq
          rw [sM263] at f276
          rw [sM263] at f277
          rw [sM263] at f278
          rw [sM263] at f279
          have oh270 : OH h.2.1 h270.2.1 S := oh262.trans f279
          have ck270 : CKF h.2.1 → CKF h270.2.1 := fun z => f280 (ck262 z)
          try rw [show (1 : Int32).toInt = 1 from (ti_c (v := 1) (a := 1) (by decide))] at f273
          try rw [show (1 : Int32).toInt = 1 from (ti_c (v := 1) (a := 1) (by decide))] at f274
          try rw [show (1 : Int32).toInt = 1 from (ti_c (v := 1) (a := 1) (by decide))] at f275
          try rw [show (1 : Int32).toInt = 1 from (ti_c (v := 1) (a := 1) (by decide))] at f276
          try rw [show (1 : Int32).toInt = 1 from (ti_c (v := 1) (a := 1) (by decide))] at f277
          try rw [show (1 : Int32).toInt = 1 from (ti_c (v := 1) (a := 1) (by decide))] at f278
          try rw [show (1 : Int32).toInt = 1 from (ti_c (v := 1) (a := 1) (by decide))] at f279
          try rw [show (1 : Int32).toInt = 1 from (ti_c (v := 1) (a := 1) (by decide))] at f280
          obtain ⟨u281, u281w⟩ : ∃ v : Int32, v = h270.2.1 70 4 := ⟨_, rfl⟩
          have u281e : (h270.2.1 70 4).toInt = u281.toInt := by rw [u281w]
          have u281l : 0 ≤ u281.toInt := by rw [u281w]; exact (hv270.2.1 70 4).1
          have u281u : u281.toInt ≤ 500 := by rw [u281w]; exact (hv270.2.1 70 4).2
          obtain ⟨u282, u282w⟩ : ∃ v : Int32, v = h270.2.1 70 5 := ⟨_, rfl⟩
          have u282e : (h270.2.1 70 5).toInt = u282.toInt := by rw [u282w]
          have u282l : -2147483648 ≤ u282.toInt := by rw [u282w]; exact (hv270.2.1 70 5).1
          have u282u : u282.toInt ≤ 2147483647 := by rw [u282w]; exact (hv270.2.1 70 5).2
          refine go_aload_n (pc := 149) rfl dX8_readSet_149 ?_
          refine go_bipush (pc := 150) (v := 59) (by decide) dX8_readSet_150 ?_
          have g283 : (0 : Int) ≤ (h270.2.1 70 4).toInt := (hv270.2.1 70 4).1
          have g284 : (h270.2.1 70 4).toInt ≤ 500 := (hv270.2.1 70 4).2
          have g285 : (-2147483648 : Int) ≤ (h270.2.1 70 5).toInt := (hv270.2.1 70 5).1
          have g286 : (h270.2.1 70 5).toInt ≤ 2147483647 := (hv270.2.1 70 5).2
          have g287 : (h270.2.1 70 4).toInt = u281.toInt := by rw [← (show u281 = h270.2.1 70 4 from u281w)] <;> exact (ti_rfl u281)
          have g288 : (h270.2.1 70 5).toInt = u282.toInt := by rw [← (show u282 = h270.2.1 70 5 from u282w)] <;> exact (ti_rfl u282)
          refine go_invV (pc := 152) (sl := 0) (s_X8_must l (d + 1) hv270 59 (by rw [show (59 : Int32).toInt = 59 from (ti_c (v := 59) (a := 59) (by decide))]; omega) (by rw [show (59 : Int32).toInt = 59 from (ti_c (v := 59) (a := 59) (by decide))]; omega)) mL_X8_198 iM_X8_must sM_X8_must (hv270.sh rfl) rfl rfl rfl (Nat.le_of_ble_eq_true rfl) (show d + 1 + 2 + 1 ≤ d + 4 by omega) (show 8 + (2 + 11) + 40 * (d + 1 + 2) ≤ 40 * (d + 4) by omega) (g_c0 hv270.ln) (Nat.le_of_ble_eq_true rfl) dX8_readSet_152 ?_
          intro r h289 hq _
          obtain ⟨rfl, hv289, f290, f291, f292⟩ := hq
          try rw [show (59 : Int32).toInt = 59 from (ti_c (v := 59) (a := 59) (by decide))] at f290
          try rw [show (59 : Int32).toInt = 59 from (ti_c (v := 59) (a := 59) (by decide))] at f291
          try rw [show (59 : Int32).toInt = 59 from (ti_c (v := 59) (a := 59) (by decide))] at f292
          have ve289 : VE h270.2.1 h289.2.1 := VE.of hv270 hv289
          have oh289 : OH h.2.1 h289.2.1 S := oh270.trans (OH.of hv270 hv289 S)
          have ck289 : CKF h.2.1 → CKF h289.2.1 := fun z => CKF.ve ve289 (ck270 z)
          have n73_289 : V h289.2.1 73 S = V h270.2.1 73 S := ve289.v (by omega) (by omega)
          have n74_289 : V h289.2.1 74 S = V h270.2.1 74 S := ve289.v (by omega) (by omega)
          have n75_289 : V h289.2.1 75 S = V h270.2.1 75 S := ve289.v (by omega) (by omega)
          obtain ⟨u293, u293w⟩ : ∃ v : Int32, v = h289.2.1 70 4 := ⟨_, rfl⟩
          have u293e : (h289.2.1 70 4).toInt = u293.toInt := by rw [u293w]
          have u293l : 0 ≤ u293.toInt := by rw [u293w]; exact (hv289.2.1 70 4).1
          have u293u : u293.toInt ≤ 500 := by rw [u293w]; exact (hv289.2.1 70 4).2
          obtain ⟨u294, u294w⟩ : ∃ v : Int32, v = h289.2.1 70 5 := ⟨_, rfl⟩
          have u294e : (h289.2.1 70 5).toInt = u294.toInt := by rw [u294w]
          have u294l : -2147483648 ≤ u294.toInt := by rw [u294w]; exact (hv289.2.1 70 5).1
          have u294u : u294.toInt ≤ 2147483647 := by rw [u294w]; exact (hv289.2.1 70 5).2
          have g295 : (0 : Int) ≤ (h289.2.1 70 4).toInt := (hv289.2.1 70 4).1
          have g296 : (h289.2.1 70 4).toInt ≤ 500 := (hv289.2.1 70 4).2
          have g297 : (-2147483648 : Int) ≤ (h289.2.1 70 5).toInt := (hv289.2.1 70 5).1
          have g298 : (h289.2.1 70 5).toInt ≤ 2147483647 := (hv289.2.1 70 5).2
          have g299 : (h289.2.1 70 4).toInt = u293.toInt := by rw [← (show u293 = h289.2.1 70 4 from u293w)] <;> exact (ti_rfl u293)
          have g300 : (h289.2.1 70 5).toInt = u294.toInt := by rw [← (show u294 = h289.2.1 70 5 from u294w)] <;> exact (ti_rfl u294)
          have pp301 : (h289.2.1 70 5).toInt = 0 → (h.2.1 70 5).toInt = 0 := (by omega)
          have pp302 : (h.2.1 70 4).toInt ≤ (h289.2.1 70 4).toInt := (by omega)
          have pp303 : V h289.2.1 73 S = V h.2.1 73 S := (by omega)
          have pp304 : V h289.2.1 74 S = V h.2.1 74 S := (by omega)
          have pp305 : V h289.2.1 75 S = V h.2.1 75 S := (by omega)
          have pp306 : (h289.2.1 70 5).toInt = 0 → ∀ d : Int, V h.2.1 77 a2.toInt = 0 → V h.2.1 82 a2.toInt = a3.toInt → RT h.2.1 h289.2.1 S a2.toInt d := (fun hg d k1 k2 => RT.op ((((((((OP.rfl _).trans (OP.ve ve5)).trans (f174 (by omega))).trans (OP.ve ve217)).trans (by rw [E258]; exact ((OP.rfl _).trans OP.w3))).trans (OP.ve ve262)).trans (f275 (by omega))).trans (OP.ve ve289)) (by omega) (by omega) (by omega))
          subst hS
          exact gi_vret (pc := 155) ⟨rfl, ⟨_, hv289, (MW.trans (MW.trans sq171 (MW.mz _ _)) sq272)⟩, pp301, pp302, pp303, pp304, pp305, pp306, oh289, ck289⟩ hv289 dX8_readSet_155
    ·
      refine go_aload_n (pc := 19) rfl dX8_readSet_19 ?_
      have g307 : (0 : Int) ≤ (h5.2.1 70 4).toInt := (hv5.2.1 70 4).1
      have g308 : (h5.2.1 70 4).toInt ≤ 500 := (hv5.2.1 70 4).2
      have g309 : (-2147483648 : Int) ≤ (h5.2.1 70 5).toInt := (hv5.2.1 70 5).1
      have g310 : (h5.2.1 70 5).toInt ≤ 2147483647 := (hv5.2.1 70 5).2
      have g311 : (h5.2.1 70 4).toInt = u9.toInt := by rw [← (show u9 = h5.2.1 70 4 from u9w)] <;> exact (ti_rfl u9)
      have g312 : (h5.2.1 70 5).toInt = u10.toInt := by rw [← (show u10 = h5.2.1 70 5 from u10w)] <;> exact (ti_rfl u10)
      refine go_invV (pc := 20) (sl := 0) (s_X8_here l (d + 2) hv5 ) mL_X8_176 iM_X8_here sM_X8_here (hv5.sh rfl) rfl rfl rfl (Nat.le_of_ble_eq_true rfl) (show d + 2 + 1 + 1 ≤ d + 4 by omega) (show 8 + (1 + 11) + 40 * (d + 2 + 1) ≤ 40 * (d + 4) by omega) (g_c0 hv5.ln) (Nat.le_of_ble_eq_true rfl) dX8_readSet_20 ?_
      intro r h313 hq _
      obtain ⟨v318, rfl, v318l, v318u, hv313, f314, f315, f316, f317⟩ := hq
      have ve313 : VE h5.2.1 h313.2.1 := VE.of hv5 hv313
      have oh313 : OH h.2.1 h313.2.1 S := oh5.trans (OH.of hv5 hv313 S)
      have ck313 : CKF h.2.1 → CKF h313.2.1 := fun z => CKF.ve ve313 (ck5 z)
      have n73_313 : V h313.2.1 73 S = V h5.2.1 73 S := ve313.v (by omega) (by omega)
      have n74_313 : V h313.2.1 74 S = V h5.2.1 74 S := ve313.v (by omega) (by omega)
      have n75_313 : V h313.2.1 75 S = V h5.2.1 75 S := ve313.v (by omega) (by omega)
      obtain ⟨u319, u319w⟩ : ∃ v : Int32, v = h313.2.1 70 4 := ⟨_, rfl⟩
      have u319e : (h313.2.1 70 4).toInt = u319.toInt := by rw [u319w]
      have u319l : 0 ≤ u319.toInt := by rw [u319w]; exact (hv313.2.1 70 4).1
      have u319u : u319.toInt ≤ 500 := by rw [u319w]; exact (hv313.2.1 70 4).2
      obtain ⟨u320, u320w⟩ : ∃ v : Int32, v = h313.2.1 70 5 := ⟨_, rfl⟩
      have u320e : (h313.2.1 70 5).toInt = u320.toInt := by rw [u320w]
      have u320l : -2147483648 ≤ u320.toInt := by rw [u320w]; exact (hv313.2.1 70 5).1
      have u320u : u320.toInt ≤ 2147483647 := by rw [u320w]; exact (hv313.2.1 70 5).2
      refine go_bipush (pc := 23) (v := 65) (by decide) dX8_readSet_23 ?_
      refine go_bipush (pc := 25) (v := 69) (by decide) dX8_readSet_25 ?_
      refine go_invS (pc := 27) (sl := 0) (s_X8_isIn l (d + 2) hv313 v318 65 69) mL_X8_159 iM_X8_isIn rfl rfl (Nat.le_of_ble_eq_true rfl) (show d + 2 + 1 + 1 ≤ d + 4 by omega) (show 8 + (3 + 11) + 40 * (d + 2 + 1) ≤ 40 * (d + 4) by omega) (g_c0 hv313.ln) (Nat.le_of_ble_eq_true rfl) dX8_readSet_27 ?_
      intro r h321 hq _
      obtain ⟨v324, rfl, v324l, v324u, rfl, f322, f323⟩ := hq
      try rw [show (65 : Int32).toInt = 65 from (ti_c (v := 65) (a := 65) (by decide))] at f322
      try rw [show (69 : Int32).toInt = 69 from (ti_c (v := 69) (a := 69) (by decide))] at f322
      try rw [show (65 : Int32).toInt = 65 from (ti_c (v := 65) (a := 65) (by decide))] at f323
      try rw [show (69 : Int32).toInt = 69 from (ti_c (v := 69) (a := 69) (by decide))] at f323
      refine gf_if_eq (pc := 30) (tgt := 100) (ti_rfl v324) (by decide) dX8_readSet_30 (fun q325 => ?_) (fun q325 => ?_)
      ·
        refine go_aload_n (pc := 100) rfl dX8_readSet_100 ?_
        refine go_iload_n (pc := 101) rfl dX8_readSet_101 ?_
        refine go_iconst (pc := 102) (v := 0) (by decide) dX8_readSet_102 ?_
        have sM326 : (h313.2.1 70 6).toInt = S := (congrArg Int32.toInt oh313.side).trans hS.symm
        have g327 : (0 : Int) ≤ (h313.2.1 70 4).toInt := (hv313.2.1 70 4).1
        have g328 : (h313.2.1 70 4).toInt ≤ 500 := (hv313.2.1 70 4).2
        have g329 : (-2147483648 : Int) ≤ (h313.2.1 70 5).toInt := (hv313.2.1 70 5).1
        have g330 : (h313.2.1 70 5).toInt ≤ 2147483647 := (hv313.2.1 70 5).2
        have g331 : (h313.2.1 70 4).toInt = u319.toInt := by rw [← (show u319 = h313.2.1 70 4 from u319w)] <;> exact (ti_rfl u319)
        have g332 : (h313.2.1 70 5).toInt = u320.toInt := by rw [← (show u320 = h313.2.1 70 5 from u320w)] <;> exact (ti_rfl u320)
        refine go_invV (pc := 103) (sl := 0) (s_X8_operand l (d + 0) hv313 a2 (by rw [show (a2 : Int32).toInt = a2.toInt from (ti_rfl a2)]; omega) (by rw [show (a2 : Int32).toInt = a2.toInt from (ti_rfl a2)]; omega) 0 (by rw [show (0 : Int32).toInt = 0 from (ti_c (v := 0) (a := 0) (by decide))]; omega) (by rw [show (0 : Int32).toInt = 0 from (ti_c (v := 0) (a := 0) (by decide))]; omega) (by rw [sM326]; exact hi)) mL_X8_218 iM_X8_operand sM_X8_operand (hv313.sh rfl) rfl rfl rfl (Nat.le_of_ble_eq_true rfl) (show d + 0 + 3 + 1 ≤ d + 4 by omega) (show 8 + (7 + 11) + 40 * (d + 0 + 3) ≤ 40 * (d + 4) by omega) (g_c0 hv313.ln) (Nat.le_of_ble_eq_true rfl) dX8_readSet_103 ?_
        intro r h333 hq _
        obtain ⟨rfl, ⟨Q334, hv333, sq335⟩, f336, f337, f338, f339, f340, f341, f342, f343⟩ := hq
        rw [sM326] at f339
        rw [sM326] at f340
        rw [sM326] at f341
        rw [sM326] at f342
        have oh333 : OH h.2.1 h333.2.1 S := oh313.trans f342
        have ck333 : CKF h.2.1 → CKF h333.2.1 := fun z => f343 (ck313 z)
        try rw [show (0 : Int32).toInt = 0 from (ti_c (v := 0) (a := 0) (by decide))] at f336
        try rw [show (0 : Int32).toInt = 0 from (ti_c (v := 0) (a := 0) (by decide))] at f337
        try rw [show (0 : Int32).toInt = 0 from (ti_c (v := 0) (a := 0) (by decide))] at f338
        try rw [show (0 : Int32).toInt = 0 from (ti_c (v := 0) (a := 0) (by decide))] at f339
        try rw [show (0 : Int32).toInt = 0 from (ti_c (v := 0) (a := 0) (by decide))] at f340
        try rw [show (0 : Int32).toInt = 0 from (ti_c (v := 0) (a := 0) (by decide))] at f341
        try rw [show (0 : Int32).toInt = 0 from (ti_c (v := 0) (a := 0) (by decide))] at f342
        try rw [show (0 : Int32).toInt = 0 from (ti_c (v := 0) (a := 0) (by decide))] at f343
        obtain ⟨u344, u344w⟩ : ∃ v : Int32, v = h333.2.1 70 4 := ⟨_, rfl⟩
        have u344e : (h333.2.1 70 4).toInt = u344.toInt := by rw [u344w]
        have u344l : 0 ≤ u344.toInt := by rw [u344w]; exact (hv333.2.1 70 4).1
        have u344u : u344.toInt ≤ 500 := by rw [u344w]; exact (hv333.2.1 70 4).2
        obtain ⟨u345, u345w⟩ : ∃ v : Int32, v = h333.2.1 70 5 := ⟨_, rfl⟩
        have u345e : (h333.2.1 70 5).toInt = u345.toInt := by rw [u345w]
        have u345l : -2147483648 ≤ u345.toInt := by rw [u345w]; exact (hv333.2.1 70 5).1
        have u345u : u345.toInt ≤ 2147483647 := by rw [u345w]; exact (hv333.2.1 70 5).2
        refine go_aload_n (pc := 106) rfl dX8_readSet_106 ?_
        refine go_invV (pc := 107) (sl := 0) (s_X8_isGood l (d + 2) hv333 ) mL_X8_172 iM_X8_isGood sM_X8_isGood (hv333.sh rfl) rfl rfl rfl (Nat.le_of_ble_eq_true rfl) (show d + 2 + 1 + 1 ≤ d + 4 by omega) (show 8 + (1 + 11) + 40 * (d + 2 + 1) ≤ 40 * (d + 4) by omega) (g_c0 hv333.ln) (Nat.le_of_ble_eq_true rfl) dX8_readSet_107 ?_
        intro r h346 hq _
        obtain ⟨v349, rfl, v349l, v349u, rfl, f347, f348⟩ := hq
        refine gf_if_eq (pc := 110) (tgt := 149) (ti_rfl v349) (by decide) dX8_readSet_110 (fun q350 => ?_) (fun q350 => ?_)
        ·
          refine go_aload_n (pc := 149) rfl dX8_readSet_149 ?_
          refine go_bipush (pc := 150) (v := 59) (by decide) dX8_readSet_150 ?_
          have g351 : (0 : Int) ≤ (h333.2.1 70 4).toInt := (hv333.2.1 70 4).1
          have g352 : (h333.2.1 70 4).toInt ≤ 500 := (hv333.2.1 70 4).2
          have g353 : (-2147483648 : Int) ≤ (h333.2.1 70 5).toInt := (hv333.2.1 70 5).1
          have g354 : (h333.2.1 70 5).toInt ≤ 2147483647 := (hv333.2.1 70 5).2
          have g355 : (h333.2.1 70 4).toInt = u344.toInt := by rw [← (show u344 = h333.2.1 70 4 from u344w)] <;> exact (ti_rfl u344)
          have g356 : (h333.2.1 70 5).toInt = u345.toInt := by rw [← (show u345 = h333.2.1 70 5 from u345w)] <;> exact (ti_rfl u345)
          refine go_invV (pc := 152) (sl := 0) (s_X8_must l (d + 1) hv333 59 (by rw [show (59 : Int32).toInt = 59 from (ti_c (v := 59) (a := 59) (by decide))]; omega) (by rw [show (59 : Int32).toInt = 59 from (ti_c (v := 59) (a := 59) (by decide))]; omega)) mL_X8_198 iM_X8_must sM_X8_must (hv333.sh rfl) rfl rfl rfl (Nat.le_of_ble_eq_true rfl) (show d + 1 + 2 + 1 ≤ d + 4 by omega) (show 8 + (2 + 11) + 40 * (d + 1 + 2) ≤ 40 * (d + 4) by omega) (g_c0 hv333.ln) (Nat.le_of_ble_eq_true rfl) dX8_readSet_152 ?_
          intro r h357 hq _
          obtain ⟨rfl, hv357, f358, f359, f360⟩ := hq
          try rw [show (59 : Int32).toInt = 59 from (ti_c (v := 59) (a := 59) (by decide))] at f358
          try rw [show (59 : Int32).toInt = 59 from (ti_c (v := 59) (a := 59) (by decide))] at f359
          try rw [show (59 : Int32).toInt = 59 from (ti_c (v := 59) (a := 59) (by decide))] at f360
          have ve357 : VE h333.2.1 h357.2.1 := VE.of hv333 hv357
          have oh357 : OH h.2.1 h357.2.1 S := oh333.trans (OH.of hv333 hv357 S)
          have ck357 : CKF h.2.1 → CKF h357.2.1 := fun z => CKF.ve ve357 (ck333 z)
          have n73_357 : V h357.2.1 73 S = V h333.2.1 73 S := ve357.v (by omega) (by omega)
          have n74_357 : V h357.2.1 74 S = V h333.2.1 74 S := ve357.v (by omega) (by omega)
          have n75_357 : V h357.2.1 75 S = V h333.2.1 75 S := ve357.v (by omega) (by omega)
          obtain ⟨u361, u361w⟩ : ∃ v : Int32, v = h357.2.1 70 4 := ⟨_, rfl⟩
          have u361e : (h357.2.1 70 4).toInt = u361.toInt := by rw [u361w]
          have u361l : 0 ≤ u361.toInt := by rw [u361w]; exact (hv357.2.1 70 4).1
          have u361u : u361.toInt ≤ 500 := by rw [u361w]; exact (hv357.2.1 70 4).2
          obtain ⟨u362, u362w⟩ : ∃ v : Int32, v = h357.2.1 70 5 := ⟨_, rfl⟩
          have u362e : (h357.2.1 70 5).toInt = u362.toInt := by rw [u362w]
          have u362l : -2147483648 ≤ u362.toInt := by rw [u362w]; exact (hv357.2.1 70 5).1
          have u362u : u362.toInt ≤ 2147483647 := by rw [u362w]; exact (hv357.2.1 70 5).2
          have g363 : (0 : Int) ≤ (h357.2.1 70 4).toInt := (hv357.2.1 70 4).1
          have g364 : (h357.2.1 70 4).toInt ≤ 500 := (hv357.2.1 70 4).2
          have g365 : (-2147483648 : Int) ≤ (h357.2.1 70 5).toInt := (hv357.2.1 70 5).1
          have g366 : (h357.2.1 70 5).toInt ≤ 2147483647 := (hv357.2.1 70 5).2
          have g367 : (h357.2.1 70 4).toInt = u361.toInt := by rw [← (show u361 = h357.2.1 70 4 from u361w)] <;> exact (ti_rfl u361)
          have g368 : (h357.2.1 70 5).toInt = u362.toInt := by rw [← (show u362 = h357.2.1 70 5 from u362w)] <;> exact (ti_rfl u362)
          have pp369 : (h357.2.1 70 5).toInt = 0 → (h.2.1 70 5).toInt = 0 := (by omega)
          have pp370 : (h.2.1 70 4).toInt ≤ (h357.2.1 70 4).toInt := (by omega)
          have pp371 : V h357.2.1 73 S = V h.2.1 73 S := (by omega)
          have pp372 : V h357.2.1 74 S = V h.2.1 74 S := (by omega)
          have pp373 : V h357.2.1 75 S = V h.2.1 75 S := (by omega)
          have pp374 : (h357.2.1 70 5).toInt = 0 → ∀ d : Int, V h.2.1 77 a2.toInt = 0 → V h.2.1 82 a2.toInt = a3.toInt → RT h.2.1 h357.2.1 S a2.toInt d := (fun hg d k1 k2 => RT.op (((((OP.rfl _).trans (OP.ve ve5)).trans (OP.ve ve313)).trans (f338 (by omega))).trans (OP.ve ve357)) (by omega) (by omega) (by omega))
          subst hS
          exact gi_vret (pc := 155) ⟨rfl, ⟨_, hv357, sq335⟩, pp369, pp370, pp371, pp372, pp373, pp374, oh357, ck357⟩ hv357 dX8_readSet_155
        ·
          refine go_aload_n (pc := 113) rfl dX8_readSet_113 ?_
          have g375 : (0 : Int) ≤ (h333.2.1 70 4).toInt := (hv333.2.1 70 4).1
          have g376 : (h333.2.1 70 4).toInt ≤ 500 := (hv333.2.1 70 4).2
          have g377 : (-2147483648 : Int) ≤ (h333.2.1 70 5).toInt := (hv333.2.1 70 5).1
          have g378 : (h333.2.1 70 5).toInt ≤ 2147483647 := (hv333.2.1 70 5).2
          have g379 : (h333.2.1 70 4).toInt = u344.toInt := by rw [← (show u344 = h333.2.1 70 4 from u344w)] <;> exact (ti_rfl u344)
          have g380 : (h333.2.1 70 5).toInt = u345.toInt := by rw [← (show u345 = h333.2.1 70 5 from u345w)] <;> exact (ti_rfl u345)
          refine go_invV (pc := 114) (sl := 0) (s_X8_here l (d + 2) hv333 ) mL_X8_176 iM_X8_here sM_X8_here (hv333.sh rfl) rfl rfl rfl (Nat.le_of_ble_eq_true rfl) (show d + 2 + 1 + 1 ≤ d + 4 by omega) (show 8 + (1 + 11) + 40 * (d + 2 + 1) ≤ 40 * (d + 4) by omega) (g_c0 hv333.ln) (Nat.le_of_ble_eq_true rfl) dX8_readSet_114 ?_
          intro r h381 hq _
          obtain ⟨v386, rfl, v386l, v386u, hv381, f382, f383, f384, f385⟩ := hq
          have ve381 : VE h333.2.1 h381.2.1 := VE.of hv333 hv381
          have oh381 : OH h.2.1 h381.2.1 S := oh333.trans (OH.of hv333 hv381 S)
          have ck381 : CKF h.2.1 → CKF h381.2.1 := fun z => CKF.ve ve381 (ck333 z)
          have n73_381 : V h381.2.1 73 S = V h333.2.1 73 S := ve381.v (by omega) (by omega)
          have n74_381 : V h381.2.1 74 S = V h333.2.1 74 S := ve381.v (by omega) (by omega)
          have n75_381 : V h381.2.1 75 S = V h333.2.1 75 S := ve381.v (by omega) (by omega)
          obtain ⟨u387, u387w⟩ : ∃ v : Int32, v = h381.2.1 70 4 := ⟨_, rfl⟩
          have u387e : (h381.2.1 70 4).toInt = u387.toInt := by rw [u387w]
          have u387l : 0 ≤ u387.toInt := by rw [u387w]; exact (hv381.2.1 70 4).1
          have u387u : u387.toInt ≤ 500 := by rw [u387w]; exact (hv381.2.1 70 4).2
          obtain ⟨u388, u388w⟩ : ∃ v : Int32, v = h381.2.1 70 5 := ⟨_, rfl⟩
          have u388e : (h381.2.1 70 5).toInt = u388.toInt := by rw [u388w]
          have u388l : -2147483648 ≤ u388.toInt := by rw [u388w]; exact (hv381.2.1 70 5).1
          have u388u : u388.toInt ≤ 2147483647 := by rw [u388w]; exact (hv381.2.1 70 5).2
          refine go_invS (pc := 117) (sl := 0) (s_X8_isSign l (d + 2) hv381 v386) mL_X8_220 iM_X8_isSign rfl rfl (Nat.le_of_ble_eq_true rfl) (show d + 2 + 1 + 1 ≤ d + 4 by omega) (show 8 + (1 + 11) + 40 * (d + 2 + 1) ≤ 40 * (d + 4) by omega) (g_c0 hv381.ln) (Nat.le_of_ble_eq_true rfl) dX8_readSet_117 ?_
          intro r h389 hq _
          obtain ⟨v391, rfl, v391l, v391u, rfl, f390⟩ := hq
          refine gf_if_eq (pc := 120) (tgt := 149) (ti_rfl v391) (by decide) dX8_readSet_120 (fun q392 => ?_) (fun q392 => ?_)
          ·
            refine go_aload_n (pc := 149) rfl dX8_readSet_149 ?_
            refine go_bipush (pc := 150) (v := 59) (by decide) dX8_readSet_150 ?_
            have g393 : (0 : Int) ≤ (h381.2.1 70 4).toInt := (hv381.2.1 70 4).1
            have g394 : (h381.2.1 70 4).toInt ≤ 500 := (hv381.2.1 70 4).2
            have g395 : (-2147483648 : Int) ≤ (h381.2.1 70 5).toInt := (hv381.2.1 70 5).1
            have g396 : (h381.2.1 70 5).toInt ≤ 2147483647 := (hv381.2.1 70 5).2
            have g397 : (h381.2.1 70 4).toInt = u387.toInt := by rw [← (show u387 = h381.2.1 70 4 from u387w)] <;> exact (ti_rfl u387)
            have g398 : (h381.2.1 70 5).toInt = u388.toInt := by rw [← (show u388 = h381.2.1 70 5 from u388w)] <;> exact (ti_rfl u388)
            refine go_invV (pc := 152) (sl := 0) (s_X8_must l (d + 1) hv381 59 (by rw [show (59 : Int32).toInt = 59 from (ti_c (v := 59) (a := 59) (by decide))]; omega) (by rw [show (59 : Int32).toInt = 59 from (ti_c (v := 59) (a := 59) (by decide))]; omega)) mL_X8_198 iM_X8_must sM_X8_must (hv381.sh rfl) rfl rfl rfl (Nat.le_of_ble_eq_true rfl) (show d + 1 + 2 + 1 ≤ d + 4 by omega) (show 8 + (2 + 11) + 40 * (d + 1 + 2) ≤ 40 * (d + 4) by omega) (g_c0 hv381.ln) (Nat.le_of_ble_eq_true rfl) dX8_readSet_152 ?_
            intro r h399 hq _
            obtain ⟨rfl, hv399, f400, f401, f402⟩ := hq
            try rw [show (59 : Int32).toInt = 59 from (ti_c (v := 59) (a := 59) (by decide))] at f400
            try rw [show (59 : Int32).toInt = 59 from (ti_c (v := 59) (a := 59) (by decide))] at f401
            try rw [show (59 : Int32).toInt = 59 from (ti_c (v := 59) (a := 59) (by decide))] at f402
            have ve399 : VE h381.2.1 h399.2.1 := VE.of hv381 hv399
            have oh399 : OH h.2.1 h399.2.1 S := oh381.trans (OH.of hv381 hv399 S)
            have ck399 : CKF h.2.1 → CKF h399.2.1 := fun z => CKF.ve ve399 (ck381 z)
            have n73_399 : V h399.2.1 73 S = V h381.2.1 73 S := ve399.v (by omega) (by omega)
            have n74_399 : V h399.2.1 74 S = V h381.2.1 74 S := ve399.v (by omega) (by omega)
            have n75_399 : V h399.2.1 75 S = V h381.2.1 75 S := ve399.v (by omega) (by omega)
            obtain ⟨u403, u403w⟩ : ∃ v : Int32, v = h399.2.1 70 4 := ⟨_, rfl⟩
            have u403e : (h399.2.1 70 4).toInt = u403.toInt := by rw [u403w]
            have u403l : 0 ≤ u403.toInt := by rw [u403w]; exact (hv399.2.1 70 4).1
            have u403u : u403.toInt ≤ 500 := by rw [u403w]; exact (hv399.2.1 70 4).2
            obtain ⟨u404, u404w⟩ : ∃ v : Int32, v = h399.2.1 70 5 := ⟨_, rfl⟩
            have u404e : (h399.2.1 70 5).toInt = u404.toInt := by rw [u404w]
            have u404l : -2147483648 ≤ u404.toInt := by rw [u404w]; exact (hv399.2.1 70 5).1
            have u404u : u404.toInt ≤ 2147483647 := by rw [u404w]; exact (hv399.2.1 70 5).2
            have g405 : (0 : Int) ≤ (h399.2.1 70 4).toInt := (hv399.2.1 70 4).1
            have g406 : (h399.2.1 70 4).toInt ≤ 500 := (hv399.2.1 70 4).2
            have g407 : (-2147483648 : Int) ≤ (h399.2.1 70 5).toInt := (hv399.2.1 70 5).1
            have g408 : (h399.2.1 70 5).toInt ≤ 2147483647 := (hv399.2.1 70 5).2
            have g409 : (h399.2.1 70 4).toInt = u403.toInt := by rw [← (show u403 = h399.2.1 70 4 from u403w)] <;> exact (ti_rfl u403)
            have g410 : (h399.2.1 70 5).toInt = u404.toInt := by rw [← (show u404 = h399.2.1 70 5 from u404w)] <;> exact (ti_rfl u404)
            have pp411 : (h399.2.1 70 5).toInt = 0 → (h.2.1 70 5).toInt = 0 := (by omega)
            have pp412 : (h.2.1 70 4).toInt ≤ (h399.2.1 70 4).toInt := (by omega)
            have pp413 : V h399.2.1 73 S = V h.2.1 73 S := (by omega)
            have pp414 : V h399.2.1 74 S = V h.2.1 74 S := (by omega)
            have pp415 : V h399.2.1 75 S = V h.2.1 75 S := (by omega)
            have pp416 : (h399.2.1 70 5).toInt = 0 → ∀ d : Int, V h.2.1 77 a2.toInt = 0 → V h.2.1 82 a2.toInt = a3.toInt → RT h.2.1 h399.2.1 S a2.toInt d := (fun hg d k1 k2 => RT.op ((((((OP.rfl _).trans (OP.ve ve5)).trans (OP.ve ve313)).trans (f338 (by omega))).trans (OP.ve ve381)).trans (OP.ve ve399)) (by omega) (by omega) (by omega))
            subst hS
            exact gi_vret (pc := 155) ⟨rfl, ⟨_, hv399, sq335⟩, pp411, pp412, pp413, pp414, pp415, pp416, oh399, ck399⟩ hv399 dX8_readSet_155
          ·
            refine go_aload_n (pc := 123) rfl dX8_readSet_123 ?_
            refine gi_getF (pc := 124) (q := 83) hv381 fL_X8_47 rfl (Nat.le_of_ble_eq_true rfl) rfl (hv381.rf (by decide)) dX8_readSet_124 ?_
            refine go_iload_n (pc := 127) rfl dX8_readSet_127 ?_
            refine go_aload_n (pc := 128) rfl dX8_readSet_128 ?_
            have k417 := (f385 (by omega)).1
            have k418 : (h381.2.1 70 3).toInt ≤ 500 := (hv381.2.1 70 3).2
            refine go_invV (pc := 129) (sl := 0) (s_X8_here_ns l (d + 2) hv381 (f385 (by omega))) mL_X8_176 iM_X8_here sM_X8_here (hv381.sh rfl) rfl rfl rfl (Nat.le_of_ble_eq_true rfl) (show d + 2 + 1 + 1 ≤ d + 4 by omega) (show 8 + (1 + 11) + 40 * (d + 2 + 1) ≤ 40 * (d + 4) by omega) (g_c0 hv381.ln) (Nat.le_of_ble_eq_true rfl) dX8_readSet_129 ?_
            intro r h419 hq _
            obtain ⟨v421, rfl, v421l, v421u, rfl, f420⟩ := hq
            refine gi_fst (pc := 132) (lo := -2147483648) (hi := 2147483647) (len := 260) hv381 (ti_rfl a2) (ti_rfl v421) rfl (by omega) (by omega) (fun _ => rfl) (ti_ge (ti_rfl v421)) (ti_le2 (ti_rfl v421)) (by omega) dX8_readSet_132 (fun h422 hv422 hv422e => ?_)
            refine go_aload_n (pc := 133) rfl dX8_readSet_133 ?_
            refine go_dup (pc := 134) rfl dX8_readSet_134 ?_
            refine gi_get (pc := 135) (lo := 0) (hi := 500) hv422 fL_X8_163 rfl (Nat.le_of_ble_eq_true rfl) rfl rfl dX8_readSet_135 (fun v423 v423l v423u v423w => ?_)
            have v423r : u387 = h422.2.1 70 4 := (show u387 = h422.2.1 70 4 from by rw [hv422e]; exact (g_iI rfl u387w.symm).symm)
            have v423q : TI v423 u387.toInt := by rw [v423w.trans v423r.symm]; exact (ti_rfl u387)
            refine go_iconst (pc := 138) (v := 1) (by decide) dX8_readSet_138 ?_
            refine gf_iadd (pc := 139) v423q (ti_c (v := 1) (a := 1) (by decide)) (by omega) (by omega) dX8_readSet_139 (fun v424 e425 => ?_)
            have E422 : h422.2.1 = (w1 h381.2.1 83 a2.toInt (v421 : Int32)) := by
              rw [hv422e]
              rfl
            have oh422 : OH h.2.1 h422.2.1 S := by rw [E422]; exact (oh381.trans (OH.w 130 rfl (by omega) (by omega) (by omega) (by omega)))
            have n73_422 : V h422.2.1 73 S = V h381.2.1 73 S := by rw [E422, V_ne (by omega)]
            have n74_422 : V h422.2.1 74 S = V h381.2.1 74 S := by rw [E422, V_ne (by omega)]
            have n75_422 : V h422.2.1 75 S = V h381.2.1 75 S := by rw [E422, V_ne (by omega)]
            have ck422 : CKF h.2.1 → CKF h422.2.1 := fun z => by rw [E422]; exact (CKF.w (by omega) (ck381 z))
            refine gi_put (pc := 140) (lo := 0) (hi := 500) hv422 e425 (fP_X8_163 _) rfl (Nat.le_of_ble_eq_true rfl) rfl rfl (by omega) (by omega) rfl rfl (by decide) (by decide) (by decide) (by decide) dX8_readSet_140 (fun h426 hv426 hv426e => ?_)
            have ve426 : VE h422.2.1 h426.2.1 := VE.of hv422 hv426
            have oh426 : OH h.2.1 h426.2.1 S := oh422.trans (OH.of hv422 hv426 S)
            have ck426 : CKF h.2.1 → CKF h426.2.1 := fun z => CKF.ve ve426 (ck422 z)
            have n73_426 : V h426.2.1 73 S = V h422.2.1 73 S := ve426.v (by omega) (by omega)
            have n74_426 : V h426.2.1 74 S = V h422.2.1 74 S := ve426.v (by omega) (by omega)
            have n75_426 : V h426.2.1 75 S = V h422.2.1 75 S := ve426.v (by omega) (by omega)
            refine go_aload_n (pc := 143) rfl dX8_readSet_143 ?_
            refine go_iload_n (pc := 144) rfl dX8_readSet_144 ?_
            refine go_iconst (pc := 145) (v := 1) (by decide) dX8_readSet_145 ?_
            have sM427 : (h426.2.1 70 6).toInt = S := (congrArg Int32.toInt oh426.side).trans hS.symm
            have g428 : (0 : Int) ≤ (h426.2.1 70 4).toInt := (hv426.2.1 70 4).1
            have g429 : (h426.2.1 70 4).toInt ≤ 500 := (hv426.2.1 70 4).2
            have g430 : (-2147483648 : Int) ≤ (h426.2.1 70 5).toInt := (hv426.2.1 70 5).1
            have g431 : (h426.2.1 70 5).toInt ≤ 2147483647 := (hv426.2.1 70 5).2
            have g432 : (h426.2.1 70 5).toInt = u388.toInt := by rw [← (show u388 = h426.2.1 70 5 from (show u388 = h426.2.1 70 5 from by rw [hv426e]; exact (g_iI rfl (show u388 = h422.2.1 70 5 from by rw [hv422e]; exact (g_iI rfl u388w.symm).symm).symm).symm))] <;> exact (ti_rfl u388)
            have g433 : (h426.2.1 70 4).toInt = (u387.toInt + 1) := by rw [← (show v424 = h426.2.1 70 4 from (show v424 = h426.2.1 70 4 from by rw [hv426e]; exact g_iS.symm))] <;> exact e425
            refine go_invV (pc := 146) (sl := 0) (s_X8_operand l (d + 0) hv426 a2 (by rw [show (a2 : Int32).toInt = a2.toInt from (ti_rfl a2)]; omega) (by rw [show (a2 : Int32).toInt = a2.toInt from (ti_rfl a2)]; omega) 1 (by rw [show (1 : Int32).toInt = 1 from (ti_c (v := 1) (a := 1) (by decide))]; omega) (by rw [show (1 : Int32).toInt = 1 from (ti_c (v := 1) (a := 1) (by decide))]; omega) (by rw [sM427]; exact hi)) mL_X8_218 iM_X8_operand sM_X8_operand (hv426.sh rfl) rfl rfl rfl (Nat.le_of_ble_eq_true rfl) (show d + 0 + 3 + 1 ≤ d + 4 by omega) (show 8 + (7 + 11) + 40 * (d + 0 + 3) ≤ 40 * (d + 4) by omega) (g_c0 hv426.ln) (Nat.le_of_ble_eq_true rfl) dX8_readSet_146 ?_
            intro r h434 hq _
            obtain ⟨rfl, ⟨Q435, hv434, sq436⟩, f437, f438, f439, f440, f441, f442, f443, f444⟩ := hq
            rw [sM427] at f440
            rw [sM427] at f441
            rw [sM427] at f442
            rw [sM427] at f443
            have oh434 : OH h.2.1 h434.2.1 S := oh426.trans f443
            have ck434 : CKF h.2.1 → CKF h434.2.1 := fun z => f444 (ck426 z)
            try rw [show (1 : Int32).toInt = 1 from (ti_c (v := 1) (a := 1) (by decide))] at f437
            try rw [show (1 : Int32).toInt = 1 from (ti_c (v := 1) (a := 1) (by decide))] at f438
            try rw [show (1 : Int32).toInt = 1 from (ti_c (v := 1) (a := 1) (by decide))] at f439
            try rw [show (1 : Int32).toInt = 1 from (ti_c (v := 1) (a := 1) (by decide))] at f440
            try rw [show (1 : Int32).toInt = 1 from (ti_c (v := 1) (a := 1) (by decide))] at f441
            try rw [show (1 : Int32).toInt = 1 from (ti_c (v := 1) (a := 1) (by decide))] at f442
            try rw [show (1 : Int32).toInt = 1 from (ti_c (v := 1) (a := 1) (by decide))] at f443
            try rw [show (1 : Int32).toInt = 1 from (ti_c (v := 1) (a := 1) (by decide))] at f444
            obtain ⟨u445, u445w⟩ : ∃ v : Int32, v = h434.2.1 70 4 := ⟨_, rfl⟩
            have u445e : (h434.2.1 70 4).toInt = u445.toInt := by rw [u445w]
            have u445l : 0 ≤ u445.toInt := by rw [u445w]; exact (hv434.2.1 70 4).1
            have u445u : u445.toInt ≤ 500 := by rw [u445w]; exact (hv434.2.1 70 4).2
            obtain ⟨u446, u446w⟩ : ∃ v : Int32, v = h434.2.1 70 5 := ⟨_, rfl⟩
            have u446e : (h434.2.1 70 5).toInt = u446.toInt := by rw [u446w]
            have u446l : -2147483648 ≤ u446.toInt := by rw [u446w]; exact (hv434.2.1 70 5).1
            have u446u : u446.toInt ≤ 2147483647 := by rw [u446w]; exact (hv434.2.1 70 5).2
            refine go_aload_n (pc := 149) rfl dX8_readSet_149 ?_
            refine go_bipush (pc := 150) (v := 59) (by decide) dX8_readSet_150 ?_
            have g447 : (0 : Int) ≤ (h434.2.1 70 4).toInt := (hv434.2.1 70 4).1
            have g448 : (h434.2.1 70 4).toInt ≤ 500 := (hv434.2.1 70 4).2
            have g449 : (-2147483648 : Int) ≤ (h434.2.1 70 5).toInt := (hv434.2.1 70 5).1
            have g450 : (h434.2.1 70 5).toInt ≤ 2147483647 := (hv434.2.1 70 5).2
            have g451 : (h434.2.1 70 4).toInt = u445.toInt := by rw [← (show u445 = h434.2.1 70 4 from u445w)] <;> exact (ti_rfl u445)
            have g452 : (h434.2.1 70 5).toInt = u446.toInt := by rw [← (show u446 = h434.2.1 70 5 from u446w)] <;> exact (ti_rfl u446)
            refine go_invV (pc := 152) (sl := 0) (s_X8_must l (d + 1) hv434 59 (by rw [show (59 : Int32).toInt = 59 from (ti_c (v := 59) (a := 59) (by decide))]; omega) (by rw [show (59 : Int32).toInt = 59 from (ti_c (v := 59) (a := 59) (by decide))]; omega)) mL_X8_198 iM_X8_must sM_X8_must (hv434.sh rfl) rfl rfl rfl (Nat.le_of_ble_eq_true rfl) (show d + 1 + 2 + 1 ≤ d + 4 by omega) (show 8 + (2 + 11) + 40 * (d + 1 + 2) ≤ 40 * (d + 4) by omega) (g_c0 hv434.ln) (Nat.le_of_ble_eq_true rfl) dX8_readSet_152 ?_
            intro r h453 hq _
            obtain ⟨rfl, hv453, f454, f455, f456⟩ := hq
            try rw [show (59 : Int32).toInt = 59 from (ti_c (v := 59) (a := 59) (by decide))] at f454
            try rw [show (59 : Int32).toInt = 59 from (ti_c (v := 59) (a := 59) (by decide))] at f455
            try rw [show (59 : Int32).toInt = 59 from (ti_c (v := 59) (a := 59) (by decide))] at f456
            have ve453 : VE h434.2.1 h453.2.1 := VE.of hv434 hv453
            have oh453 : OH h.2.1 h453.2.1 S := oh434.trans (OH.of hv434 hv453 S)
            have ck453 : CKF h.2.1 → CKF h453.2.1 := fun z => CKF.ve ve453 (ck434 z)
            have n73_453 : V h453.2.1 73 S = V h434.2.1 73 S := ve453.v (by omega) (by omega)
            have n74_453 : V h453.2.1 74 S = V h434.2.1 74 S := ve453.v (by omega) (by omega)
            have n75_453 : V h453.2.1 75 S = V h434.2.1 75 S := ve453.v (by omega) (by omega)
            obtain ⟨u457, u457w⟩ : ∃ v : Int32, v = h453.2.1 70 4 := ⟨_, rfl⟩
            have u457e : (h453.2.1 70 4).toInt = u457.toInt := by rw [u457w]
            have u457l : 0 ≤ u457.toInt := by rw [u457w]; exact (hv453.2.1 70 4).1
            have u457u : u457.toInt ≤ 500 := by rw [u457w]; exact (hv453.2.1 70 4).2
            obtain ⟨u458, u458w⟩ : ∃ v : Int32, v = h453.2.1 70 5 := ⟨_, rfl⟩
            have u458e : (h453.2.1 70 5).toInt = u458.toInt := by rw [u458w]
            have u458l : -2147483648 ≤ u458.toInt := by rw [u458w]; exact (hv453.2.1 70 5).1
            have u458u : u458.toInt ≤ 2147483647 := by rw [u458w]; exact (hv453.2.1 70 5).2
            have g459 : (0 : Int) ≤ (h453.2.1 70 4).toInt := (hv453.2.1 70 4).1
            have g460 : (h453.2.1 70 4).toInt ≤ 500 := (hv453.2.1 70 4).2
            have g461 : (-2147483648 : Int) ≤ (h453.2.1 70 5).toInt := (hv453.2.1 70 5).1
            have g462 : (h453.2.1 70 5).toInt ≤ 2147483647 := (hv453.2.1 70 5).2
            have g463 : (h453.2.1 70 4).toInt = u457.toInt := by rw [← (show u457 = h453.2.1 70 4 from u457w)] <;> exact (ti_rfl u457)
            have g464 : (h453.2.1 70 5).toInt = u458.toInt := by rw [← (show u458 = h453.2.1 70 5 from u458w)] <;> exact (ti_rfl u458)
            have pp465 : (h453.2.1 70 5).toInt = 0 → (h.2.1 70 5).toInt = 0 := (by omega)
            have pp466 : (h.2.1 70 4).toInt ≤ (h453.2.1 70 4).toInt := (by omega)
            have pp467 : V h453.2.1 73 S = V h.2.1 73 S := (by omega)
            have pp468 : V h453.2.1 74 S = V h.2.1 74 S := (by omega)
            have pp469 : V h453.2.1 75 S = V h.2.1 75 S := (by omega)
            have pp470 : (h453.2.1 70 5).toInt = 0 → ∀ d : Int, V h.2.1 77 a2.toInt = 0 → V h.2.1 82 a2.toInt = a3.toInt → RT h.2.1 h453.2.1 S a2.toInt d := (fun hg d k1 k2 => RT.op (((((((((OP.rfl _).trans (OP.ve ve5)).trans (OP.ve ve313)).trans (f338 (by omega))).trans (OP.ve ve381)).trans (by rw [E422]; exact ((OP.rfl _).trans OP.w3))).trans (OP.ve ve426)).trans (f439 (by omega))).trans (OP.ve ve453)) (by omega) (by omega) (by omega))
            subst hS
            exact gi_vret (pc := 155) ⟨rfl, ⟨_, hv453, (MW.trans (MW.trans sq335 (MW.mz _ _)) sq436)⟩, pp465, pp466, pp467, pp468, pp469, pp470, oh453, ck453⟩ hv453 dX8_readSet_155
      ·
        refine go_aload_n (pc := 33) rfl dX8_readSet_33 ?_
        refine gi_getF (pc := 34) (q := 77) hv313 fL_X8_29 rfl (Nat.le_of_ble_eq_true rfl) rfl (hv313.rf (by decide)) dX8_readSet_34 ?_
        refine go_iload_n (pc := 37) rfl dX8_readSet_37 ?_
        refine go_iconst (pc := 38) (v := 1) (by decide) dX8_readSet_38 ?_
        refine gi_fst (pc := 39) (lo := 0) (hi := 6) (len := 260) hv313 (ti_rfl a2) (ti_c (v := 1) (a := 1) (by decide)) rfl (by omega) (by omega) (fun _ => rfl) (by omega) (by omega) (by omega) dX8_readSet_39 (fun h471 hv471 hv471e => ?_)
        refine go_aload_n (pc := 40) rfl dX8_readSet_40 ?_
        refine gi_getF (pc := 41) (q := 84) hv471 fL_X8_50 rfl (Nat.le_of_ble_eq_true rfl) rfl (hv471.rf (by decide)) dX8_readSet_41 ?_
        refine go_iload_n (pc := 44) rfl dX8_readSet_44 ?_
        refine go_aload_n (pc := 45) rfl dX8_readSet_45 ?_
        refine go_invV (pc := 46) (sl := 0) (s_X8_here_ns l (d + 2) hv471 (NS.w hv471e (by omega) (f317 (by omega)))) mL_X8_176 iM_X8_here sM_X8_here (hv471.sh rfl) rfl rfl rfl (Nat.le_of_ble_eq_true rfl) (show d + 2 + 1 + 1 ≤ d + 4 by omega) (show 8 + (1 + 11) + 40 * (d + 2 + 1) ≤ 40 * (d + 4) by omega) (g_c0 hv471.ln) (Nat.le_of_ble_eq_true rfl) dX8_readSet_46 ?_
        intro r h472 hq _
        obtain ⟨v474, rfl, v474l, v474u, rfl, f473⟩ := hq
        have k475 : v474.toInt = v318.toInt := congrArg Int32.toInt f473
        have k476 : 65 ≤ v474.toInt ∧ v474.toInt ≤ 69 := by omega
        refine go_bipush (pc := 49) (v := 65) (by decide) dX8_readSet_49 ?_
        refine gf_isub (pc := 51) (ti_rfl v474) (ti_c (v := 65) (a := 65) (by decide)) (by omega) (by omega) dX8_readSet_51 (fun v477 e478 => ?_)
        refine gi_fst (pc := 52) (lo := -2) (hi := 4) (len := 260) hv471 (ti_rfl a2) e478 rfl (by omega) (by omega) (fun _ => rfl) (by omega) (by omega) (by omega) dX8_readSet_52 (fun h479 hv479 hv479e => ?_)
        refine go_aload_n (pc := 53) rfl dX8_readSet_53 ?_
        refine go_dup (pc := 54) rfl dX8_readSet_54 ?_
        refine gi_get (pc := 55) (lo := 0) (hi := 500) hv479 fL_X8_163 rfl (Nat.le_of_ble_eq_true rfl) rfl rfl dX8_readSet_55 (fun v480 v480l v480u v480w => ?_)
        have v480r : u319 = h479.2.1 70 4 := (show u319 = h479.2.1 70 4 from by rw [hv479e]; exact (g_iI rfl (show u319 = h471.2.1 70 4 from by rw [hv471e]; exact (g_iI rfl u319w.symm).symm).symm).symm)
        have v480q : TI v480 u319.toInt := by rw [v480w.trans v480r.symm]; exact (ti_rfl u319)
        refine go_iconst (pc := 58) (v := 1) (by decide) dX8_readSet_58 ?_
        refine gf_iadd (pc := 59) v480q (ti_c (v := 1) (a := 1) (by decide)) (by omega) (by omega) dX8_readSet_59 (fun v481 e482 => ?_)
        have E479 : h479.2.1 = (w1 (w1 h313.2.1 77 a2.toInt (1 : Int32)) 84 a2.toInt (v477 : Int32)) := by
          rw [hv479e, hv471e]
          rfl
        have oh479 : OH h.2.1 h479.2.1 S := by rw [E479]; exact ((oh313.trans (OH.w 130 rfl (by omega) (by omega) (by omega) (by omega))).trans (OH.w 130 rfl (by omega) (by omega) (by omega) (by omega)))
        have n73_479 : V h479.2.1 73 S = V h313.2.1 73 S := by rw [E479, V_ne (by omega), V_ne (by omega)]
        have n74_479 : V h479.2.1 74 S = V h313.2.1 74 S := by rw [E479, V_ne (by omega), V_ne (by omega)]
        have n75_479 : V h479.2.1 75 S = V h313.2.1 75 S := by rw [E479, V_ne (by omega), V_ne (by omega)]
        have ck479 : CKF h.2.1 → CKF h479.2.1 := fun z => by rw [E479]; exact CKF.call (x := (1 : Int32)) (VE.rfl _) (by rw [show (v477 : Int32).toInt = (v474.toInt - 65) from e478]; omega) (ck313 z)
        refine gi_put (pc := 60) (lo := 0) (hi := 500) hv479 e482 (fP_X8_163 _) rfl (Nat.le_of_ble_eq_true rfl) rfl rfl (by omega) (by omega) rfl rfl (by decide) (by decide) (by decide) (by decide) dX8_readSet_60 (fun h483 hv483 hv483e => ?_)
        have ve483 : VE h479.2.1 h483.2.1 := VE.of hv479 hv483
        have oh483 : OH h.2.1 h483.2.1 S := oh479.trans (OH.of hv479 hv483 S)
        have ck483 : CKF h.2.1 → CKF h483.2.1 := fun z => CKF.ve ve483 (ck479 z)
        have n73_483 : V h483.2.1 73 S = V h479.2.1 73 S := ve483.v (by omega) (by omega)
        have n74_483 : V h483.2.1 74 S = V h479.2.1 74 S := ve483.v (by omega) (by omega)
        have n75_483 : V h483.2.1 75 S = V h479.2.1 75 S := ve483.v (by omega) (by omega)
        refine go_aload_n (pc := 63) rfl dX8_readSet_63 ?_
        refine go_bipush (pc := 64) (v := 40) (by decide) dX8_readSet_64 ?_
        have g484 : (0 : Int) ≤ (h483.2.1 70 4).toInt := (hv483.2.1 70 4).1
        have g485 : (h483.2.1 70 4).toInt ≤ 500 := (hv483.2.1 70 4).2
        have g486 : (-2147483648 : Int) ≤ (h483.2.1 70 5).toInt := (hv483.2.1 70 5).1
        have g487 : (h483.2.1 70 5).toInt ≤ 2147483647 := (hv483.2.1 70 5).2
        have g488 : (h483.2.1 70 5).toInt = u320.toInt := by rw [← (show u320 = h483.2.1 70 5 from (show u320 = h483.2.1 70 5 from by rw [hv483e]; exact (g_iI rfl (show u320 = h479.2.1 70 5 from by rw [hv479e]; exact (g_iI rfl (show u320 = h471.2.1 70 5 from by rw [hv471e]; exact (g_iI rfl u320w.symm).symm).symm).symm).symm).symm))] <;> exact (ti_rfl u320)
        have g489 : (h483.2.1 70 4).toInt = (u319.toInt + 1) := by rw [← (show v481 = h483.2.1 70 4 from (show v481 = h483.2.1 70 4 from by rw [hv483e]; exact g_iS.symm))] <;> exact e482
        refine go_invV (pc := 66) (sl := 0) (s_X8_must l (d + 1) hv483 40 (by rw [show (40 : Int32).toInt = 40 from (ti_c (v := 40) (a := 40) (by decide))]; omega) (by rw [show (40 : Int32).toInt = 40 from (ti_c (v := 40) (a := 40) (by decide))]; omega)) mL_X8_198 iM_X8_must sM_X8_must (hv483.sh rfl) rfl rfl rfl (Nat.le_of_ble_eq_true rfl) (show d + 1 + 2 + 1 ≤ d + 4 by omega) (show 8 + (2 + 11) + 40 * (d + 1 + 2) ≤ 40 * (d + 4) by omega) (g_c0 hv483.ln) (Nat.le_of_ble_eq_true rfl) dX8_readSet_66 ?_
        intro r h490 hq _
        obtain ⟨rfl, hv490, f491, f492, f493⟩ := hq
        try rw [show (40 : Int32).toInt = 40 from (ti_c (v := 40) (a := 40) (by decide))] at f491
        try rw [show (40 : Int32).toInt = 40 from (ti_c (v := 40) (a := 40) (by decide))] at f492
        try rw [show (40 : Int32).toInt = 40 from (ti_c (v := 40) (a := 40) (by decide))] at f493
        have ve490 : VE h483.2.1 h490.2.1 := VE.of hv483 hv490
        have oh490 : OH h.2.1 h490.2.1 S := oh483.trans (OH.of hv483 hv490 S)
        have ck490 : CKF h.2.1 → CKF h490.2.1 := fun z => CKF.ve ve490 (ck483 z)
        have n73_490 : V h490.2.1 73 S = V h483.2.1 73 S := ve490.v (by omega) (by omega)
        have n74_490 : V h490.2.1 74 S = V h483.2.1 74 S := ve490.v (by omega) (by omega)
        have n75_490 : V h490.2.1 75 S = V h483.2.1 75 S := ve490.v (by omega) (by omega)
        obtain ⟨u494, u494w⟩ : ∃ v : Int32, v = h490.2.1 70 4 := ⟨_, rfl⟩
        have u494e : (h490.2.1 70 4).toInt = u494.toInt := by rw [u494w]
        have u494l : 0 ≤ u494.toInt := by rw [u494w]; exact (hv490.2.1 70 4).1
        have u494u : u494.toInt ≤ 500 := by rw [u494w]; exact (hv490.2.1 70 4).2
        obtain ⟨u495, u495w⟩ : ∃ v : Int32, v = h490.2.1 70 5 := ⟨_, rfl⟩
        have u495e : (h490.2.1 70 5).toInt = u495.toInt := by rw [u495w]
        have u495l : -2147483648 ≤ u495.toInt := by rw [u495w]; exact (hv490.2.1 70 5).1
        have u495u : u495.toInt ≤ 2147483647 := by rw [u495w]; exact (hv490.2.1 70 5).2
        refine go_aload_n (pc := 69) rfl dX8_readSet_69 ?_
        refine go_iload_n (pc := 70) rfl dX8_readSet_70 ?_
        refine go_iconst (pc := 71) (v := 0) (by decide) dX8_readSet_71 ?_
        have sM496 : (h490.2.1 70 6).toInt = S := (congrArg Int32.toInt oh490.side).trans hS.symm
        have g497 : (0 : Int) ≤ (h490.2.1 70 4).toInt := (hv490.2.1 70 4).1
        have g498 : (h490.2.1 70 4).toInt ≤ 500 := (hv490.2.1 70 4).2
        have g499 : (-2147483648 : Int) ≤ (h490.2.1 70 5).toInt := (hv490.2.1 70 5).1
        have g500 : (h490.2.1 70 5).toInt ≤ 2147483647 := (hv490.2.1 70 5).2
        have g501 : (h490.2.1 70 4).toInt = u494.toInt := by rw [← (show u494 = h490.2.1 70 4 from u494w)] <;> exact (ti_rfl u494)
        have g502 : (h490.2.1 70 5).toInt = u495.toInt := by rw [← (show u495 = h490.2.1 70 5 from u495w)] <;> exact (ti_rfl u495)
        refine go_invV (pc := 72) (sl := 0) (s_X8_operand l (d + 0) hv490 a2 (by rw [show (a2 : Int32).toInt = a2.toInt from (ti_rfl a2)]; omega) (by rw [show (a2 : Int32).toInt = a2.toInt from (ti_rfl a2)]; omega) 0 (by rw [show (0 : Int32).toInt = 0 from (ti_c (v := 0) (a := 0) (by decide))]; omega) (by rw [show (0 : Int32).toInt = 0 from (ti_c (v := 0) (a := 0) (by decide))]; omega) (by rw [sM496]; exact hi)) mL_X8_218 iM_X8_operand sM_X8_operand (hv490.sh rfl) rfl rfl rfl (Nat.le_of_ble_eq_true rfl) (show d + 0 + 3 + 1 ≤ d + 4 by omega) (show 8 + (7 + 11) + 40 * (d + 0 + 3) ≤ 40 * (d + 4) by omega) (g_c0 hv490.ln) (Nat.le_of_ble_eq_true rfl) dX8_readSet_72 ?_
        intro r h503 hq _
        obtain ⟨rfl, ⟨Q504, hv503, sq505⟩, f506, f507, f508, f509, f510, f511, f512, f513⟩ := hq
        rw [sM496] at f509
        rw [sM496] at f510
        rw [sM496] at f511
        rw [sM496] at f512
        have oh503 : OH h.2.1 h503.2.1 S := oh490.trans f512
        have ck503 : CKF h.2.1 → CKF h503.2.1 := fun z => f513 (ck490 z)
        try rw [show (0 : Int32).toInt = 0 from (ti_c (v := 0) (a := 0) (by decide))] at f506
        try rw [show (0 : Int32).toInt = 0 from (ti_c (v := 0) (a := 0) (by decide))] at f507
        try rw [show (0 : Int32).toInt = 0 from (ti_c (v := 0) (a := 0) (by decide))] at f508
        try rw [show (0 : Int32).toInt = 0 from (ti_c (v := 0) (a := 0) (by decide))] at f509
        try rw [show (0 : Int32).toInt = 0 from (ti_c (v := 0) (a := 0) (by decide))] at f510
        try rw [show (0 : Int32).toInt = 0 from (ti_c (v := 0) (a := 0) (by decide))] at f511
        try rw [show (0 : Int32).toInt = 0 from (ti_c (v := 0) (a := 0) (by decide))] at f512
        try rw [show (0 : Int32).toInt = 0 from (ti_c (v := 0) (a := 0) (by decide))] at f513
        obtain ⟨u514, u514w⟩ : ∃ v : Int32, v = h503.2.1 70 4 := ⟨_, rfl⟩
        have u514e : (h503.2.1 70 4).toInt = u514.toInt := by rw [u514w]
        have u514l : 0 ≤ u514.toInt := by rw [u514w]; exact (hv503.2.1 70 4).1
        have u514u : u514.toInt ≤ 500 := by rw [u514w]; exact (hv503.2.1 70 4).2
        obtain ⟨u515, u515w⟩ : ∃ v : Int32, v = h503.2.1 70 5 := ⟨_, rfl⟩
        have u515e : (h503.2.1 70 5).toInt = u515.toInt := by rw [u515w]
        have u515l : -2147483648 ≤ u515.toInt := by rw [u515w]; exact (hv503.2.1 70 5).1
        have u515u : u515.toInt ≤ 2147483647 := by rw [u515w]; exact (hv503.2.1 70 5).2
        refine go_aload_n (pc := 75) rfl dX8_readSet_75 ?_
        refine go_bipush (pc := 76) (v := 44) (by decide) dX8_readSet_76 ?_
        have g516 : (0 : Int) ≤ (h503.2.1 70 4).toInt := (hv503.2.1 70 4).1
        have g517 : (h503.2.1 70 4).toInt ≤ 500 := (hv503.2.1 70 4).2
        have g518 : (-2147483648 : Int) ≤ (h503.2.1 70 5).toInt := (hv503.2.1 70 5).1
        have g519 : (h503.2.1 70 5).toInt ≤ 2147483647 := (hv503.2.1 70 5).2
        have g520 : (h503.2.1 70 4).toInt = u514.toInt := by rw [← (show u514 = h503.2.1 70 4 from u514w)] <;> exact (ti_rfl u514)
        have g521 : (h503.2.1 70 5).toInt = u515.toInt := by rw [← (show u515 = h503.2.1 70 5 from u515w)] <;> exact (ti_rfl u515)
        refine go_invV (pc := 78) (sl := 0) (s_X8_must l (d + 1) hv503 44 (by rw [show (44 : Int32).toInt = 44 from (ti_c (v := 44) (a := 44) (by decide))]; omega) (by rw [show (44 : Int32).toInt = 44 from (ti_c (v := 44) (a := 44) (by decide))]; omega)) mL_X8_198 iM_X8_must sM_X8_must (hv503.sh rfl) rfl rfl rfl (Nat.le_of_ble_eq_true rfl) (show d + 1 + 2 + 1 ≤ d + 4 by omega) (show 8 + (2 + 11) + 40 * (d + 1 + 2) ≤ 40 * (d + 4) by omega) (g_c0 hv503.ln) (Nat.le_of_ble_eq_true rfl) dX8_readSet_78 ?_
        intro r h522 hq _
        obtain ⟨rfl, hv522, f523, f524, f525⟩ := hq
        try rw [show (44 : Int32).toInt = 44 from (ti_c (v := 44) (a := 44) (by decide))] at f523
        try rw [show (44 : Int32).toInt = 44 from (ti_c (v := 44) (a := 44) (by decide))] at f524
        try rw [show (44 : Int32).toInt = 44 from (ti_c (v := 44) (a := 44) (by decide))] at f525
        have ve522 : VE h503.2.1 h522.2.1 := VE.of hv503 hv522
        have oh522 : OH h.2.1 h522.2.1 S := oh503.trans (OH.of hv503 hv522 S)
        have ck522 : CKF h.2.1 → CKF h522.2.1 := fun z => CKF.ve ve522 (ck503 z)
        have n73_522 : V h522.2.1 73 S = V h503.2.1 73 S := ve522.v (by omega) (by omega)
        have n74_522 : V h522.2.1 74 S = V h503.2.1 74 S := ve522.v (by omega) (by omega)
        have n75_522 : V h522.2.1 75 S = V h503.2.1 75 S := ve522.v (by omega) (by omega)
        obtain ⟨u526, u526w⟩ : ∃ v : Int32, v = h522.2.1 70 4 := ⟨_, rfl⟩
        have u526e : (h522.2.1 70 4).toInt = u526.toInt := by rw [u526w]
        have u526l : 0 ≤ u526.toInt := by rw [u526w]; exact (hv522.2.1 70 4).1
        have u526u : u526.toInt ≤ 500 := by rw [u526w]; exact (hv522.2.1 70 4).2
        obtain ⟨u527, u527w⟩ : ∃ v : Int32, v = h522.2.1 70 5 := ⟨_, rfl⟩
        have u527e : (h522.2.1 70 5).toInt = u527.toInt := by rw [u527w]
        have u527l : -2147483648 ≤ u527.toInt := by rw [u527w]; exact (hv522.2.1 70 5).1
        have u527u : u527.toInt ≤ 2147483647 := by rw [u527w]; exact (hv522.2.1 70 5).2
        refine go_aload_n (pc := 81) rfl dX8_readSet_81 ?_
        refine go_iload_n (pc := 82) rfl dX8_readSet_82 ?_
        refine go_iconst (pc := 83) (v := 1) (by decide) dX8_readSet_83 ?_
        have sM528 : (h522.2.1 70 6).toInt = S := (congrArg Int32.toInt oh522.side).trans hS.symm
        have g529 : (0 : Int) ≤ (h522.2.1 70 4).toInt := (hv522.2.1 70 4).1
        have g530 : (h522.2.1 70 4).toInt ≤ 500 := (hv522.2.1 70 4).2
        have g531 : (-2147483648 : Int) ≤ (h522.2.1 70 5).toInt := (hv522.2.1 70 5).1
        have g532 : (h522.2.1 70 5).toInt ≤ 2147483647 := (hv522.2.1 70 5).2
        have g533 : (h522.2.1 70 4).toInt = u526.toInt := by rw [← (show u526 = h522.2.1 70 4 from u526w)] <;> exact (ti_rfl u526)
        have g534 : (h522.2.1 70 5).toInt = u527.toInt := by rw [← (show u527 = h522.2.1 70 5 from u527w)] <;> exact (ti_rfl u527)
        refine go_invV (pc := 84) (sl := 0) (s_X8_operand l (d + 0) hv522 a2 (by rw [show (a2 : Int32).toInt = a2.toInt from (ti_rfl a2)]; omega) (by rw [show (a2 : Int32).toInt = a2.toInt from (ti_rfl a2)]; omega) 1 (by rw [show (1 : Int32).toInt = 1 from (ti_c (v := 1) (a := 1) (by decide))]; omega) (by rw [show (1 : Int32).toInt = 1 from (ti_c (v := 1) (a := 1) (by decide))]; omega) (by rw [sM528]; exact hi)) mL_X8_218 iM_X8_operand sM_X8_operand (hv522.sh rfl) rfl rfl rfl (Nat.le_of_ble_eq_true rfl) (show d + 0 + 3 + 1 ≤ d + 4 by omega) (show 8 + (7 + 11) + 40 * (d + 0 + 3) ≤ 40 * (d + 4) by omega) (g_c0 hv522.ln) (Nat.le_of_ble_eq_true rfl) dX8_readSet_84 ?_
        intro r h535 hq _
        obtain ⟨rfl, ⟨Q536, hv535, sq537⟩, f538, f539, f540, f541, f542, f543, f544, f545⟩ := hq
        rw [sM528] at f541
        rw [sM528] at f542
        rw [sM528] at f543
        rw [sM528] at f544
        have oh535 : OH h.2.1 h535.2.1 S := oh522.trans f544
        have ck535 : CKF h.2.1 → CKF h535.2.1 := fun z => f545 (ck522 z)
        try rw [show (1 : Int32).toInt = 1 from (ti_c (v := 1) (a := 1) (by decide))] at f538
        try rw [show (1 : Int32).toInt = 1 from (ti_c (v := 1) (a := 1) (by decide))] at f539
        try rw [show (1 : Int32).toInt = 1 from (ti_c (v := 1) (a := 1) (by decide))] at f540
        try rw [show (1 : Int32).toInt = 1 from (ti_c (v := 1) (a := 1) (by decide))] at f541
        try rw [show (1 : Int32).toInt = 1 from (ti_c (v := 1) (a := 1) (by decide))] at f542
        try rw [show (1 : Int32).toInt = 1 from (ti_c (v := 1) (a := 1) (by decide))] at f543
        try rw [show (1 : Int32).toInt = 1 from (ti_c (v := 1) (a := 1) (by decide))] at f544
        try rw [show (1 : Int32).toInt = 1 from (ti_c (v := 1) (a := 1) (by decide))] at f545
        obtain ⟨u546, u546w⟩ : ∃ v : Int32, v = h535.2.1 70 4 := ⟨_, rfl⟩
        have u546e : (h535.2.1 70 4).toInt = u546.toInt := by rw [u546w]
        have u546l : 0 ≤ u546.toInt := by rw [u546w]; exact (hv535.2.1 70 4).1
        have u546u : u546.toInt ≤ 500 := by rw [u546w]; exact (hv535.2.1 70 4).2
        obtain ⟨u547, u547w⟩ : ∃ v : Int32, v = h535.2.1 70 5 := ⟨_, rfl⟩
        have u547e : (h535.2.1 70 5).toInt = u547.toInt := by rw [u547w]
        have u547l : -2147483648 ≤ u547.toInt := by rw [u547w]; exact (hv535.2.1 70 5).1
        have u547u : u547.toInt ≤ 2147483647 := by rw [u547w]; exact (hv535.2.1 70 5).2
        refine go_aload_n (pc := 87) rfl dX8_readSet_87 ?_
        refine go_bipush (pc := 88) (v := 41) (by decide) dX8_readSet_88 ?_
        have g548 : (0 : Int) ≤ (h535.2.1 70 4).toInt := (hv535.2.1 70 4).1
        have g549 : (h535.2.1 70 4).toInt ≤ 500 := (hv535.2.1 70 4).2
        have g550 : (-2147483648 : Int) ≤ (h535.2.1 70 5).toInt := (hv535.2.1 70 5).1
        have g551 : (h535.2.1 70 5).toInt ≤ 2147483647 := (hv535.2.1 70 5).2
        have g552 : (h535.2.1 70 4).toInt = u546.toInt := by rw [← (show u546 = h535.2.1 70 4 from u546w)] <;> exact (ti_rfl u546)
        have g553 : (h535.2.1 70 5).toInt = u547.toInt := by rw [← (show u547 = h535.2.1 70 5 from u547w)] <;> exact (ti_rfl u547)
        refine go_invV (pc := 90) (sl := 0) (s_X8_must l (d + 1) hv535 41 (by rw [show (41 : Int32).toInt = 41 from (ti_c (v := 41) (a := 41) (by decide))]; omega) (by rw [show (41 : Int32).toInt = 41 from (ti_c (v := 41) (a := 41) (by decide))]; omega)) mL_X8_198 iM_X8_must sM_X8_must (hv535.sh rfl) rfl rfl rfl (Nat.le_of_ble_eq_true rfl) (show d + 1 + 2 + 1 ≤ d + 4 by omega) (show 8 + (2 + 11) + 40 * (d + 1 + 2) ≤ 40 * (d + 4) by omega) (g_c0 hv535.ln) (Nat.le_of_ble_eq_true rfl) dX8_readSet_90 ?_
        intro r h554 hq _
        obtain ⟨rfl, hv554, f555, f556, f557⟩ := hq
        try rw [show (41 : Int32).toInt = 41 from (ti_c (v := 41) (a := 41) (by decide))] at f555
        try rw [show (41 : Int32).toInt = 41 from (ti_c (v := 41) (a := 41) (by decide))] at f556
        try rw [show (41 : Int32).toInt = 41 from (ti_c (v := 41) (a := 41) (by decide))] at f557
        have ve554 : VE h535.2.1 h554.2.1 := VE.of hv535 hv554
        have oh554 : OH h.2.1 h554.2.1 S := oh535.trans (OH.of hv535 hv554 S)
        have ck554 : CKF h.2.1 → CKF h554.2.1 := fun z => CKF.ve ve554 (ck535 z)
        have n73_554 : V h554.2.1 73 S = V h535.2.1 73 S := ve554.v (by omega) (by omega)
        have n74_554 : V h554.2.1 74 S = V h535.2.1 74 S := ve554.v (by omega) (by omega)
        have n75_554 : V h554.2.1 75 S = V h535.2.1 75 S := ve554.v (by omega) (by omega)
        obtain ⟨u558, u558w⟩ : ∃ v : Int32, v = h554.2.1 70 4 := ⟨_, rfl⟩
        have u558e : (h554.2.1 70 4).toInt = u558.toInt := by rw [u558w]
        have u558l : 0 ≤ u558.toInt := by rw [u558w]; exact (hv554.2.1 70 4).1
        have u558u : u558.toInt ≤ 500 := by rw [u558w]; exact (hv554.2.1 70 4).2
        obtain ⟨u559, u559w⟩ : ∃ v : Int32, v = h554.2.1 70 5 := ⟨_, rfl⟩
        have u559e : (h554.2.1 70 5).toInt = u559.toInt := by rw [u559w]
        have u559l : -2147483648 ≤ u559.toInt := by rw [u559w]; exact (hv554.2.1 70 5).1
        have u559u : u559.toInt ≤ 2147483647 := by rw [u559w]; exact (hv554.2.1 70 5).2
        refine go_aload_n (pc := 93) rfl dX8_readSet_93 ?_
        refine go_bipush (pc := 94) (v := 59) (by decide) dX8_readSet_94 ?_
        have g560 : (0 : Int) ≤ (h554.2.1 70 4).toInt := (hv554.2.1 70 4).1
        have g561 : (h554.2.1 70 4).toInt ≤ 500 := (hv554.2.1 70 4).2
        have g562 : (-2147483648 : Int) ≤ (h554.2.1 70 5).toInt := (hv554.2.1 70 5).1
        have g563 : (h554.2.1 70 5).toInt ≤ 2147483647 := (hv554.2.1 70 5).2
        have g564 : (h554.2.1 70 4).toInt = u558.toInt := by rw [← (show u558 = h554.2.1 70 4 from u558w)] <;> exact (ti_rfl u558)
        have g565 : (h554.2.1 70 5).toInt = u559.toInt := by rw [← (show u559 = h554.2.1 70 5 from u559w)] <;> exact (ti_rfl u559)
        refine go_invV (pc := 96) (sl := 0) (s_X8_must l (d + 1) hv554 59 (by rw [show (59 : Int32).toInt = 59 from (ti_c (v := 59) (a := 59) (by decide))]; omega) (by rw [show (59 : Int32).toInt = 59 from (ti_c (v := 59) (a := 59) (by decide))]; omega)) mL_X8_198 iM_X8_must sM_X8_must (hv554.sh rfl) rfl rfl rfl (Nat.le_of_ble_eq_true rfl) (show d + 1 + 2 + 1 ≤ d + 4 by omega) (show 8 + (2 + 11) + 40 * (d + 1 + 2) ≤ 40 * (d + 4) by omega) (g_c0 hv554.ln) (Nat.le_of_ble_eq_true rfl) dX8_readSet_96 ?_
        intro r h566 hq _
        obtain ⟨rfl, hv566, f567, f568, f569⟩ := hq
        try rw [show (59 : Int32).toInt = 59 from (ti_c (v := 59) (a := 59) (by decide))] at f567
        try rw [show (59 : Int32).toInt = 59 from (ti_c (v := 59) (a := 59) (by decide))] at f568
        try rw [show (59 : Int32).toInt = 59 from (ti_c (v := 59) (a := 59) (by decide))] at f569
        have ve566 : VE h554.2.1 h566.2.1 := VE.of hv554 hv566
        have oh566 : OH h.2.1 h566.2.1 S := oh554.trans (OH.of hv554 hv566 S)
        have ck566 : CKF h.2.1 → CKF h566.2.1 := fun z => CKF.ve ve566 (ck554 z)
        have n73_566 : V h566.2.1 73 S = V h554.2.1 73 S := ve566.v (by omega) (by omega)
        have n74_566 : V h566.2.1 74 S = V h554.2.1 74 S := ve566.v (by omega) (by omega)
        have n75_566 : V h566.2.1 75 S = V h554.2.1 75 S := ve566.v (by omega) (by omega)
        obtain ⟨u570, u570w⟩ : ∃ v : Int32, v = h566.2.1 70 4 := ⟨_, rfl⟩
        have u570e : (h566.2.1 70 4).toInt = u570.toInt := by rw [u570w]
        have u570l : 0 ≤ u570.toInt := by rw [u570w]; exact (hv566.2.1 70 4).1
        have u570u : u570.toInt ≤ 500 := by rw [u570w]; exact (hv566.2.1 70 4).2
        obtain ⟨u571, u571w⟩ : ∃ v : Int32, v = h566.2.1 70 5 := ⟨_, rfl⟩
        have u571e : (h566.2.1 70 5).toInt = u571.toInt := by rw [u571w]
        have u571l : -2147483648 ≤ u571.toInt := by rw [u571w]; exact (hv566.2.1 70 5).1
        have u571u : u571.toInt ≤ 2147483647 := by rw [u571w]; exact (hv566.2.1 70 5).2
        have g572 : (0 : Int) ≤ (h566.2.1 70 4).toInt := (hv566.2.1 70 4).1
        have g573 : (h566.2.1 70 4).toInt ≤ 500 := (hv566.2.1 70 4).2
        have g574 : (-2147483648 : Int) ≤ (h566.2.1 70 5).toInt := (hv566.2.1 70 5).1
        have g575 : (h566.2.1 70 5).toInt ≤ 2147483647 := (hv566.2.1 70 5).2
        have g576 : (h566.2.1 70 4).toInt = u570.toInt := by rw [← (show u570 = h566.2.1 70 4 from u570w)] <;> exact (ti_rfl u570)
        have g577 : (h566.2.1 70 5).toInt = u571.toInt := by rw [← (show u571 = h566.2.1 70 5 from u571w)] <;> exact (ti_rfl u571)
        have pp578 : (h566.2.1 70 5).toInt = 0 → (h.2.1 70 5).toInt = 0 := (by omega)
        have pp579 : (h.2.1 70 4).toInt ≤ (h566.2.1 70 4).toInt := (by omega)
        have pp580 : V h566.2.1 73 S = V h.2.1 73 S := (by omega)
        have pp581 : V h566.2.1 74 S = V h.2.1 74 S := (by omega)
        have pp582 : V h566.2.1 75 S = V h.2.1 75 S := (by omega)
        have pp583 : (h566.2.1 70 5).toInt = 0 → ∀ d : Int, V h.2.1 77 a2.toInt = 0 → V h.2.1 82 a2.toInt = a3.toInt → RT h.2.1 h566.2.1 S a2.toInt d := (fun hg d k1 k2 => RT.call (x := (1 : Int32)) (y := (v477 : Int32)) S0 (((OP.rfl _).trans (OP.ve ve5)).trans (OP.ve ve313)) (by rw [← E479]; exact ((((((((OP.rfl _).trans (OP.ve ve483)).trans (OP.ve ve490)).trans (f508 (by omega))).trans (OP.ve ve522)).trans (f540 (by omega))).trans (OP.ve ve554)).trans (OP.ve ve566))) k1 (by decide) (by omega))
        subst hS
        exact gi_vret (pc := 99) ⟨rfl, ⟨_, hv566, (MW.trans (MW.trans (MW.trans (MW.mz _ _) (MW.mz _ _)) sq505) sq537)⟩, pp578, pp579, pp580, pp581, pp582, pp583, oh566, ck566⟩ hv566 dX8_readSet_99
