theorem dX8_readEnd_0 : decode cX8_readEnd 0 = .ok (.aload_n 0, 1) := by decide +kernel
theorem dX8_readEnd_1 : decode cX8_readEnd 1 = .ok (.iload_n 1, 1) := by decide +kernel
theorem dX8_readEnd_2 : decode cX8_readEnd 2 = .ok (.iconst 0, 1) := by decide +kernel
theorem dX8_readEnd_3 : decode cX8_readEnd 3 = .ok (.invokevirtual 218, 3) := by decide +kernel
theorem dX8_readEnd_6 : decode cX8_readEnd 6 = .ok (.aload_n 0, 1) := by decide +kernel
theorem dX8_readEnd_7 : decode cX8_readEnd 7 = .ok (.bipush 59, 2) := by decide +kernel
theorem dX8_readEnd_9 : decode cX8_readEnd 9 = .ok (.invokevirtual 198, 3) := by decide +kernel
theorem dX8_readEnd_12 : decode cX8_readEnd 12 = .ok (.return_, 1) := by decide +kernel
theorem dX8_readSet_0 : decode cX8_readSet 0 = .ok (.aload_n 0, 1) := by decide +kernel
theorem dX8_readSet_1 : decode cX8_readSet 1 = .ok (.bipush 61, 2) := by decide +kernel
theorem dX8_readSet_3 : decode cX8_readSet 3 = .ok (.invokevirtual 198, 3) := by decide +kernel
theorem dX8_readSet_6 : decode cX8_readSet 6 = .ok (.aload_n 0, 1) := by decide +kernel
theorem dX8_readSet_7 : decode cX8_readSet 7 = .ok (.invokevirtual 172, 3) := by decide +kernel
theorem dX8_readSet_10 : decode cX8_readSet 10 = .ok (.ifCond .eq 90, 3) := by decide +kernel
theorem dX8_readSet_13 : decode cX8_readSet 13 = .ok (.iload_n 2, 1) := by decide +kernel
theorem dX8_readSet_14 : decode cX8_readSet 14 = .ok (.bipush 6, 2) := by decide +kernel
theorem dX8_readSet_16 : decode cX8_readSet 16 = .ok (.if_icmp .ge 84, 3) := by decide +kernel
theorem dX8_readSet_19 : decode cX8_readSet 19 = .ok (.aload_n 0, 1) := by decide +kernel
theorem dX8_readSet_20 : decode cX8_readSet 20 = .ok (.invokevirtual 176, 3) := by decide +kernel
theorem dX8_readSet_23 : decode cX8_readSet 23 = .ok (.bipush 65, 2) := by decide +kernel
theorem dX8_readSet_25 : decode cX8_readSet 25 = .ok (.bipush 69, 2) := by decide +kernel
theorem dX8_readSet_27 : decode cX8_readSet 27 = .ok (.invokestatic 159, 3) := by decide +kernel
theorem dX8_readSet_30 : decode cX8_readSet 30 = .ok (.ifCond .eq 70, 3) := by decide +kernel
theorem dX8_readSet_33 : decode cX8_readSet 33 = .ok (.aload_n 0, 1) := by decide +kernel
theorem dX8_readSet_34 : decode cX8_readSet 34 = .ok (.getfield 29, 3) := by decide +kernel
theorem dX8_readSet_37 : decode cX8_readSet 37 = .ok (.iload_n 1, 1) := by decide +kernel
theorem dX8_readSet_38 : decode cX8_readSet 38 = .ok (.iconst 1, 1) := by decide +kernel
theorem dX8_readSet_39 : decode cX8_readSet 39 = .ok (.iastore, 1) := by decide +kernel
theorem dX8_readSet_40 : decode cX8_readSet 40 = .ok (.aload_n 0, 1) := by decide +kernel
theorem dX8_readSet_41 : decode cX8_readSet 41 = .ok (.getfield 50, 3) := by decide +kernel
theorem dX8_readSet_44 : decode cX8_readSet 44 = .ok (.iload_n 1, 1) := by decide +kernel
theorem dX8_readSet_45 : decode cX8_readSet 45 = .ok (.aload_n 0, 1) := by decide +kernel
theorem dX8_readSet_46 : decode cX8_readSet 46 = .ok (.invokevirtual 176, 3) := by decide +kernel
theorem dX8_readSet_49 : decode cX8_readSet 49 = .ok (.bipush 65, 2) := by decide +kernel
theorem dX8_readSet_51 : decode cX8_readSet 51 = .ok (.isub, 1) := by decide +kernel
theorem dX8_readSet_52 : decode cX8_readSet 52 = .ok (.iastore, 1) := by decide +kernel
theorem dX8_readSet_53 : decode cX8_readSet 53 = .ok (.aload_n 0, 1) := by decide +kernel
theorem dX8_readSet_54 : decode cX8_readSet 54 = .ok (.dup, 1) := by decide +kernel
theorem dX8_readSet_55 : decode cX8_readSet 55 = .ok (.getfield 163, 3) := by decide +kernel
theorem dX8_readSet_58 : decode cX8_readSet 58 = .ok (.iconst 1, 1) := by decide +kernel
theorem dX8_readSet_59 : decode cX8_readSet 59 = .ok (.iadd, 1) := by decide +kernel
theorem dX8_readSet_60 : decode cX8_readSet 60 = .ok (.putfield 163, 3) := by decide +kernel
theorem dX8_readSet_63 : decode cX8_readSet 63 = .ok (.aload_n 0, 1) := by decide +kernel
theorem dX8_readSet_64 : decode cX8_readSet 64 = .ok (.bipush 40, 2) := by decide +kernel
theorem dX8_readSet_66 : decode cX8_readSet 66 = .ok (.invokevirtual 198, 3) := by decide +kernel
theorem dX8_readSet_69 : decode cX8_readSet 69 = .ok (.aload_n 0, 1) := by decide +kernel
theorem dX8_readSet_70 : decode cX8_readSet 70 = .ok (.iload_n 1, 1) := by decide +kernel
theorem dX8_readSet_71 : decode cX8_readSet 71 = .ok (.iconst 0, 1) := by decide +kernel
theorem dX8_readSet_72 : decode cX8_readSet 72 = .ok (.invokevirtual 218, 3) := by decide +kernel
theorem dX8_readSet_75 : decode cX8_readSet 75 = .ok (.aload_n 0, 1) := by decide +kernel
theorem dX8_readSet_76 : decode cX8_readSet 76 = .ok (.bipush 44, 2) := by decide +kernel
theorem dX8_readSet_78 : decode cX8_readSet 78 = .ok (.invokevirtual 198, 3) := by decide +kernel
theorem dX8_readSet_81 : decode cX8_readSet 81 = .ok (.aload_n 0, 1) := by decide +kernel
theorem dX8_readSet_82 : decode cX8_readSet 82 = .ok (.iload_n 1, 1) := by decide +kernel
theorem dX8_readSet_83 : decode cX8_readSet 83 = .ok (.iconst 1, 1) := by decide +kernel
theorem dX8_readSet_84 : decode cX8_readSet 84 = .ok (.invokevirtual 218, 3) := by decide +kernel
theorem dX8_readSet_87 : decode cX8_readSet 87 = .ok (.aload_n 0, 1) := by decide +kernel
theorem dX8_readSet_88 : decode cX8_readSet 88 = .ok (.bipush 41, 2) := by decide +kernel
theorem dX8_readSet_90 : decode cX8_readSet 90 = .ok (.invokevirtual 198, 3) := by decide +kernel
theorem dX8_readSet_93 : decode cX8_readSet 93 = .ok (.aload_n 0, 1) := by decide +kernel
theorem dX8_readSet_94 : decode cX8_readSet 94 = .ok (.bipush 59, 2) := by decide +kernel
theorem dX8_readSet_96 : decode cX8_readSet 96 = .ok (.invokevirtual 198, 3) := by decide +kernel
theorem dX8_readSet_99 : decode cX8_readSet 99 = .ok (.return_, 1) := by decide +kernel
theorem dX8_readSet_100 : decode cX8_readSet 100 = .ok (.aload_n 0, 1) := by decide +kernel
theorem dX8_readSet_101 : decode cX8_readSet 101 = .ok (.iload_n 1, 1) := by decide +kernel
theorem dX8_readSet_102 : decode cX8_readSet 102 = .ok (.iconst 0, 1) := by decide +kernel
theorem dX8_readSet_103 : decode cX8_readSet 103 = .ok (.invokevirtual 218, 3) := by decide +kernel
theorem dX8_readSet_106 : decode cX8_readSet 106 = .ok (.aload_n 0, 1) := by decide +kernel
theorem dX8_readSet_107 : decode cX8_readSet 107 = .ok (.invokevirtual 172, 3) := by decide +kernel
theorem dX8_readSet_110 : decode cX8_readSet 110 = .ok (.ifCond .eq 39, 3) := by decide +kernel
theorem dX8_readSet_113 : decode cX8_readSet 113 = .ok (.aload_n 0, 1) := by decide +kernel
theorem dX8_readSet_114 : decode cX8_readSet 114 = .ok (.invokevirtual 176, 3) := by decide +kernel
theorem dX8_readSet_117 : decode cX8_readSet 117 = .ok (.invokestatic 220, 3) := by decide +kernel
theorem dX8_readSet_120 : decode cX8_readSet 120 = .ok (.ifCond .eq 29, 3) := by decide +kernel
theorem dX8_readSet_123 : decode cX8_readSet 123 = .ok (.aload_n 0, 1) := by decide +kernel
theorem dX8_readSet_124 : decode cX8_readSet 124 = .ok (.getfield 47, 3) := by decide +kernel
theorem dX8_readSet_127 : decode cX8_readSet 127 = .ok (.iload_n 1, 1) := by decide +kernel
theorem dX8_readSet_128 : decode cX8_readSet 128 = .ok (.aload_n 0, 1) := by decide +kernel
theorem dX8_readSet_129 : decode cX8_readSet 129 = .ok (.invokevirtual 176, 3) := by decide +kernel
theorem dX8_readSet_132 : decode cX8_readSet 132 = .ok (.iastore, 1) := by decide +kernel
theorem dX8_readSet_133 : decode cX8_readSet 133 = .ok (.aload_n 0, 1) := by decide +kernel
theorem dX8_readSet_134 : decode cX8_readSet 134 = .ok (.dup, 1) := by decide +kernel
theorem dX8_readSet_135 : decode cX8_readSet 135 = .ok (.getfield 163, 3) := by decide +kernel
theorem dX8_readSet_138 : decode cX8_readSet 138 = .ok (.iconst 1, 1) := by decide +kernel
theorem dX8_readSet_139 : decode cX8_readSet 139 = .ok (.iadd, 1) := by decide +kernel
theorem dX8_readSet_140 : decode cX8_readSet 140 = .ok (.putfield 163, 3) := by decide +kernel
theorem dX8_readSet_143 : decode cX8_readSet 143 = .ok (.aload_n 0, 1) := by decide +kernel
theorem dX8_readSet_144 : decode cX8_readSet 144 = .ok (.iload_n 1, 1) := by decide +kernel
theorem dX8_readSet_145 : decode cX8_readSet 145 = .ok (.iconst 1, 1) := by decide +kernel
theorem dX8_readSet_146 : decode cX8_readSet 146 = .ok (.invokevirtual 218, 3) := by decide +kernel
theorem dX8_readSet_149 : decode cX8_readSet 149 = .ok (.aload_n 0, 1) := by decide +kernel
theorem dX8_readSet_150 : decode cX8_readSet 150 = .ok (.bipush 59, 2) := by decide +kernel
theorem dX8_readSet_152 : decode cX8_readSet 152 = .ok (.invokevirtual 198, 3) := by decide +kernel
theorem dX8_readSet_155 : decode cX8_readSet 155 = .ok (.return_, 1) := by decide +kernel
set_option maxHeartbeats 4000000 in
set_option maxRecDepth 100000 in
theorem s_X8_readEnd (l : Launch) (d : Nat) {P : PP} {h : HP} (hv : Iv P h) (a2 : Int32) (a2l : 0 ≤ a2.toInt) (a2u : a2.toInt ≤ 259) (hi : 130 * (h.2.1 70 6).toInt ≤ a2.toInt ∧ a2.toInt < 130 * (h.2.1 70 6).toInt + 130) : Mt l yX8_readEnd cX8_readEnd 2 none (d + 4) [.ref 70, .int a2] h 0 0 (fun r h' => r = none ∧ (∃ Q : PP, Iv Q h' ∧ MW P Q) ∧ ((h'.2.1 70 5).toInt = 0 → (h.2.1 70 5).toInt = 0) ∧ ((h.2.1 70 4).toInt ≤ (h'.2.1 70 4).toInt) ∧ (V h'.2.1 73 (h.2.1 70 6).toInt = V h.2.1 73 (h.2.1 70 6).toInt) ∧ (V h'.2.1 74 (h.2.1 70 6).toInt = V h.2.1 74 (h.2.1 70 6).toInt) ∧ (V h'.2.1 75 (h.2.1 70 6).toInt = V h.2.1 75 (h.2.1 70 6).toInt) ∧ ((h'.2.1 70 5).toInt = 0 → ∀ d : Int, ¬ V h.2.1 77 a2.toInt = 6 → ¬ V h.2.1 77 a2.toInt = 2 → ¬ V h.2.1 77 a2.toInt = 3 → RT h.2.1 h'.2.1 (h.2.1 70 6).toInt a2.toInt d) ∧ (KP h.2.1 h'.2.1) ∧ (OH h.2.1 h'.2.1 (h.2.1 70 6).toInt) ∧ (CKF h.2.1 → CKF h'.2.1)) := by
  refine Mt_iv hv (by decide) (Nat.le_of_ble_eq_true rfl) ?_
  show Go l RX8 cX8_readEnd 2 (g_rm (d + 4) 0 0) "readEnd" none 117 0 0 (fun _ _ => True) (fun r h' => r = none ∧ (∃ Q : PP, Iv Q h' ∧ MW P Q) ∧ ((h'.2.1 70 5).toInt = 0 → (h.2.1 70 5).toInt = 0) ∧ ((h.2.1 70 4).toInt ≤ (h'.2.1 70 4).toInt) ∧ (V h'.2.1 73 (h.2.1 70 6).toInt = V h.2.1 73 (h.2.1 70 6).toInt) ∧ (V h'.2.1 74 (h.2.1 70 6).toInt = V h.2.1 74 (h.2.1 70 6).toInt) ∧ (V h'.2.1 75 (h.2.1 70 6).toInt = V h.2.1 75 (h.2.1 70 6).toInt) ∧ ((h'.2.1 70 5).toInt = 0 → ∀ d : Int, ¬ V h.2.1 77 a2.toInt = 6 → ¬ V h.2.1 77 a2.toInt = 2 → ¬ V h.2.1 77 a2.toInt = 3 → RT h.2.1 h'.2.1 (h.2.1 70 6).toInt a2.toInt d) ∧ (KP h.2.1 h'.2.1) ∧ (OH h.2.1 h'.2.1 (h.2.1 70 6).toInt) ∧ (CKF h.2.1 → CKF h'.2.1)) 0 0 [(0, .ref 70), (1, .int a2)] [] h
  obtain ⟨S, hS⟩ : ∃ S : Int, S = (h.2.1 70 6).toInt := ⟨_, rfl⟩
  have S0 : 0 ≤ S := by rw [hS]; exact (hv.2.1 70 6).1
  have S1 : S ≤ 1 := by rw [hS]; exact (hv.2.1 70 6).2
  have oh : OH h.2.1 h.2.1 S := OH.rfl _ _
  have ck : CKF h.2.1 → CKF h.2.1 := id
  have kp : KP h.2.1 h.2.1 := KP.rfl _
  rw [← hS] at hi
  refine go_aload_n (pc := 0) rfl dX8_readEnd_0 ?_
  refine go_iload_n (pc := 1) rfl dX8_readEnd_1 ?_
  refine go_iconst (pc := 2) (v := 0) (by decide) dX8_readEnd_2 ?_
  have sM1 : (h.2.1 70 6).toInt = S := (congrArg Int32.toInt oh.side).trans hS.symm
  have g2 : (0 : Int) ≤ (h.2.1 70 4).toInt := (hv.2.1 70 4).1
  have g3 : (h.2.1 70 4).toInt ≤ 500 := (hv.2.1 70 4).2
  have g4 : (-2147483648 : Int) ≤ (h.2.1 70 5).toInt := (hv.2.1 70 5).1
  have g5 : (h.2.1 70 5).toInt ≤ 2147483647 := (hv.2.1 70 5).2
  refine go_invV (pc := 3) (sl := 0) (s_X8_operand l (d + 0) hv a2 (by rw [show (a2 : Int32).toInt = a2.toInt from (ti_rfl a2)]; omega) (by rw [show (a2 : Int32).toInt = a2.toInt from (ti_rfl a2)]; omega) 0 (by rw [show (0 : Int32).toInt = 0 from (ti_c (v := 0) (a := 0) (by decide))]; omega) (by rw [show (0 : Int32).toInt = 0 from (ti_c (v := 0) (a := 0) (by decide))]; omega) (by rw [sM1]; exact hi)) mL_X8_218 iM_X8_operand sM_X8_operand (hv.sh rfl) rfl rfl rfl (Nat.le_of_ble_eq_true rfl) (show d + 0 + 3 + 1 ≤ d + 4 by omega) (show 8 + (7 + 11) + 40 * (d + 0 + 3) ≤ 40 * (d + 4) by omega) (g_c0 hv.ln) (Nat.le_of_ble_eq_true rfl) dX8_readEnd_3 ?_
  intro r h6 hq _
  obtain ⟨rfl, ⟨Q7, hv6, sq8⟩, f9, f10, f11, f12, f13, f14, f15, f16, f17⟩ := hq
  rw [sM1] at f12
  rw [sM1] at f13
  rw [sM1] at f14
  rw [sM1] at f16
  have oh6 : OH h.2.1 h6.2.1 S := oh.trans f16
  have kp6 : KP h.2.1 h6.2.1 := kp.trans f15
  have ck6 : CKF h.2.1 → CKF h6.2.1 := fun z => f17 (ck z)
  try rw [show (0 : Int32).toInt = 0 from (ti_c (v := 0) (a := 0) (by decide))] at f9
  try rw [show (0 : Int32).toInt = 0 from (ti_c (v := 0) (a := 0) (by decide))] at f10
  try rw [show (0 : Int32).toInt = 0 from (ti_c (v := 0) (a := 0) (by decide))] at f11
  try rw [show (0 : Int32).toInt = 0 from (ti_c (v := 0) (a := 0) (by decide))] at f12
  try rw [show (0 : Int32).toInt = 0 from (ti_c (v := 0) (a := 0) (by decide))] at f13
  try rw [show (0 : Int32).toInt = 0 from (ti_c (v := 0) (a := 0) (by decide))] at f14
  try rw [show (0 : Int32).toInt = 0 from (ti_c (v := 0) (a := 0) (by decide))] at f15
  try rw [show (0 : Int32).toInt = 0 from (ti_c (v := 0) (a := 0) (by decide))] at f16
  try rw [show (0 : Int32).toInt = 0 from (ti_c (v := 0) (a := 0) (by decide))] at f17
  obtain ⟨u18, u18w⟩ : ∃ v : Int32, v = h6.2.1 70 4 := ⟨_, rfl⟩
  have u18e : (h6.2.1 70 4).toInt = u18.toInt := by rw [u18w]
  have u18l : 0 ≤ u18.toInt := by rw [u18w]; exact (hv6.2.1 70 4).1
  have u18u : u18.toInt ≤ 500 := by rw [u18w]; exact (hv6.2.1 70 4).2
  obtain ⟨u19, u19w⟩ : ∃ v : Int32, v = h6.2.1 70 5 := ⟨_, rfl⟩
  have u19e : (h6.2.1 70 5).toInt = u19.toInt := by rw [u19w]
  have u19l : -2147483648 ≤ u19.toInt := by rw [u19w]; exact (hv6.2.1 70 5).1
  have u19u : u19.toInt ≤ 2147483647 := by rw [u19w]; exact (hv6.2.1 70 5).2
  refine go_aload_n (pc := 6) rfl dX8_readEnd_6 ?_
  refine go_bipush (pc := 7) (v := 59) (by decide) dX8_readEnd_7 ?_
  have g20 : (0 : Int) ≤ (h6.2.1 70 4).toInt := (hv6.2.1 70 4).1
  have g21 : (h6.2.1 70 4).toInt ≤ 500 := (hv6.2.1 70 4).2
  have g22 : (-2147483648 : Int) ≤ (h6.2.1 70 5).toInt := (hv6.2.1 70 5).1
  have g23 : (h6.2.1 70 5).toInt ≤ 2147483647 := (hv6.2.1 70 5).2
  have g24 : (h6.2.1 70 4).toInt = u18.toInt := by rw [← (show u18 = h6.2.1 70 4 from u18w)] <;> exact (ti_rfl u18)
  have g25 : (h6.2.1 70 5).toInt = u19.toInt := by rw [← (show u19 = h6.2.1 70 5 from u19w)] <;> exact (ti_rfl u19)
  refine go_invV (pc := 9) (sl := 0) (s_X8_must l (d + 1) hv6 59 (by rw [show (59 : Int32).toInt = 59 from (ti_c (v := 59) (a := 59) (by decide))]; omega) (by rw [show (59 : Int32).toInt = 59 from (ti_c (v := 59) (a := 59) (by decide))]; omega)) mL_X8_198 iM_X8_must sM_X8_must (hv6.sh rfl) rfl rfl rfl (Nat.le_of_ble_eq_true rfl) (show d + 1 + 2 + 1 ≤ d + 4 by omega) (show 8 + (2 + 11) + 40 * (d + 1 + 2) ≤ 40 * (d + 4) by omega) (g_c0 hv6.ln) (Nat.le_of_ble_eq_true rfl) dX8_readEnd_9 ?_
  intro r h26 hq _
  obtain ⟨rfl, hv26, f27, f28, f29⟩ := hq
  try rw [show (59 : Int32).toInt = 59 from (ti_c (v := 59) (a := 59) (by decide))] at f27
  try rw [show (59 : Int32).toInt = 59 from (ti_c (v := 59) (a := 59) (by decide))] at f28
  try rw [show (59 : Int32).toInt = 59 from (ti_c (v := 59) (a := 59) (by decide))] at f29
  have ve26 : VE h6.2.1 h26.2.1 := VE.of hv6 hv26
  have oh26 : OH h.2.1 h26.2.1 S := oh6.trans (OH.of hv6 hv26 S)
  have kp26 : KP h.2.1 h26.2.1 := kp6.trans (KP.ve ve26)
  have ck26 : CKF h.2.1 → CKF h26.2.1 := fun z => CKF.ve ve26 (ck6 z)
  have n73_26 : V h26.2.1 73 S = V h6.2.1 73 S := ve26.v (by omega) (by omega)
  have n74_26 : V h26.2.1 74 S = V h6.2.1 74 S := ve26.v (by omega) (by omega)
  have n75_26 : V h26.2.1 75 S = V h6.2.1 75 S := ve26.v (by omega) (by omega)
  obtain ⟨u30, u30w⟩ : ∃ v : Int32, v = h26.2.1 70 4 := ⟨_, rfl⟩
  have u30e : (h26.2.1 70 4).toInt = u30.toInt := by rw [u30w]
  have u30l : 0 ≤ u30.toInt := by rw [u30w]; exact (hv26.2.1 70 4).1
  have u30u : u30.toInt ≤ 500 := by rw [u30w]; exact (hv26.2.1 70 4).2
  obtain ⟨u31, u31w⟩ : ∃ v : Int32, v = h26.2.1 70 5 := ⟨_, rfl⟩
  have u31e : (h26.2.1 70 5).toInt = u31.toInt := by rw [u31w]
  have u31l : -2147483648 ≤ u31.toInt := by rw [u31w]; exact (hv26.2.1 70 5).1
  have u31u : u31.toInt ≤ 2147483647 := by rw [u31w]; exact (hv26.2.1 70 5).2
  have g32 : (0 : Int) ≤ (h26.2.1 70 4).toInt := (hv26.2.1 70 4).1
  have g33 : (h26.2.1 70 4).toInt ≤ 500 := (hv26.2.1 70 4).2
  have g34 : (-2147483648 : Int) ≤ (h26.2.1 70 5).toInt := (hv26.2.1 70 5).1
  have g35 : (h26.2.1 70 5).toInt ≤ 2147483647 := (hv26.2.1 70 5).2
  have g36 : (h26.2.1 70 4).toInt = u30.toInt := by rw [← (show u30 = h26.2.1 70 4 from u30w)] <;> exact (ti_rfl u30)
  have g37 : (h26.2.1 70 5).toInt = u31.toInt := by rw [← (show u31 = h26.2.1 70 5 from u31w)] <;> exact (ti_rfl u31)
  have pp38 : (h26.2.1 70 5).toInt = 0 → (h.2.1 70 5).toInt = 0 := (by omega)
  have pp39 : (h.2.1 70 4).toInt ≤ (h26.2.1 70 4).toInt := (by omega)
  have pp40 : V h26.2.1 73 S = V h.2.1 73 S := (by omega)
  have pp41 : V h26.2.1 74 S = V h.2.1 74 S := (by omega)
  have pp42 : V h26.2.1 75 S = V h.2.1 75 S := (by omega)
  have pp43 : (h26.2.1 70 5).toInt = 0 → ∀ d : Int, ¬ V h.2.1 77 a2.toInt = 6 → ¬ V h.2.1 77 a2.toInt = 2 → ¬ V h.2.1 77 a2.toInt = 3 → RT h.2.1 h26.2.1 S a2.toInt d := (fun hg d k1 k2 k3 => RT.op (((OP.rfl _).trans (f11 (by omega))).trans (OP.ve ve26)) k1 k2 k3)
  subst hS
  exact gi_vret (pc := 12) ⟨rfl, ⟨_, hv26, sq8⟩, pp38, pp39, pp40, pp41, pp42, pp43, kp26, oh26, ck26⟩ hv26 dX8_readEnd_12
set_option maxHeartbeats 4000000 in
set_option maxRecDepth 100000 in
theorem s_X8_readSet (l : Launch) (d : Nat) {P : PP} {h : HP} (hv : Iv P h) (a2 : Int32) (a2l : 0 ≤ a2.toInt) (a2u : a2.toInt ≤ 259) (a3 : Int32) (a3l : -1 ≤ a3.toInt) (a3u : a3.toInt ≤ 9) (hi : 130 * (h.2.1 70 6).toInt ≤ a2.toInt ∧ a2.toInt < 130 * (h.2.1 70 6).toInt + 130) : Mt l yX8_readSet cX8_readSet 3 none (d + 4) [.ref 70, .int a2, .int a3] h 0 0 (fun r h' => r = none ∧ (∃ Q : PP, Iv Q h' ∧ MW P Q) ∧ ((h'.2.1 70 5).toInt = 0 → (h.2.1 70 5).toInt = 0) ∧ ((h.2.1 70 4).toInt ≤ (h'.2.1 70 4).toInt) ∧ (V h'.2.1 73 (h.2.1 70 6).toInt = V h.2.1 73 (h.2.1 70 6).toInt) ∧ (V h'.2.1 74 (h.2.1 70 6).toInt = V h.2.1 74 (h.2.1 70 6).toInt) ∧ (V h'.2.1 75 (h.2.1 70 6).toInt = V h.2.1 75 (h.2.1 70 6).toInt) ∧ ((h'.2.1 70 5).toInt = 0 → ∀ d : Int, V h.2.1 77 a2.toInt = 0 → V h.2.1 82 a2.toInt = a3.toInt → RT h.2.1 h'.2.1 (h.2.1 70 6).toInt a2.toInt d) ∧ (KP h.2.1 h'.2.1) ∧ (OH h.2.1 h'.2.1 (h.2.1 70 6).toInt) ∧ (CKF h.2.1 → CKF h'.2.1)) := by
  refine Mt_iv hv (by decide) (Nat.le_of_ble_eq_true rfl) ?_
  show Go l RX8 cX8_readSet 3 (g_rm (d + 4) 0 0) "readSet" none 117 0 0 (fun _ _ => True) (fun r h' => r = none ∧ (∃ Q : PP, Iv Q h' ∧ MW P Q) ∧ ((h'.2.1 70 5).toInt = 0 → (h.2.1 70 5).toInt = 0) ∧ ((h.2.1 70 4).toInt ≤ (h'.2.1 70 4).toInt) ∧ (V h'.2.1 73 (h.2.1 70 6).toInt = V h.2.1 73 (h.2.1 70 6).toInt) ∧ (V h'.2.1 74 (h.2.1 70 6).toInt = V h.2.1 74 (h.2.1 70 6).toInt) ∧ (V h'.2.1 75 (h.2.1 70 6).toInt = V h.2.1 75 (h.2.1 70 6).toInt) ∧ ((h'.2.1 70 5).toInt = 0 → ∀ d : Int, V h.2.1 77 a2.toInt = 0 → V h.2.1 82 a2.toInt = a3.toInt → RT h.2.1 h'.2.1 (h.2.1 70 6).toInt a2.toInt d) ∧ (KP h.2.1 h'.2.1) ∧ (OH h.2.1 h'.2.1 (h.2.1 70 6).toInt) ∧ (CKF h.2.1 → CKF h'.2.1)) 0 0 [(0, .ref 70), (1, .int a2), (2, .int a3)] [] h
  obtain ⟨S, hS⟩ : ∃ S : Int, S = (h.2.1 70 6).toInt := ⟨_, rfl⟩
  have S0 : 0 ≤ S := by rw [hS]; exact (hv.2.1 70 6).1
  have S1 : S ≤ 1 := by rw [hS]; exact (hv.2.1 70 6).2
  have oh : OH h.2.1 h.2.1 S := OH.rfl _ _
  have ck : CKF h.2.1 → CKF h.2.1 := id
  have kp : KP h.2.1 h.2.1 := KP.rfl _
  rw [← hS] at hi
  refine go_aload_n (pc := 0) rfl dX8_readSet_0 ?_
  refine go_bipush (pc := 1) (v := 61) (by decide) dX8_readSet_1 ?_
  have g1 : (0 : Int) ≤ (h.2.1 70 4).toInt := (hv.2.1 70 4).1
  have g2 : (h.2.1 70 4).toInt ≤ 500 := (hv.2.1 70 4).2
  have g3 : (-2147483648 : Int) ≤ (h.2.1 70 5).toInt := (hv.2.1 70 5).1
  have g4 : (h.2.1 70 5).toInt ≤ 2147483647 := (hv.2.1 70 5).2
  refine go_invV (pc := 3) (sl := 0) (s_X8_must l (d + 1) hv 61 (by rw [show (61 : Int32).toInt = 61 from (ti_c (v := 61) (a := 61) (by decide))]; omega) (by rw [show (61 : Int32).toInt = 61 from (ti_c (v := 61) (a := 61) (by decide))]; omega)) mL_X8_198 iM_X8_must sM_X8_must (hv.sh rfl) rfl rfl rfl (Nat.le_of_ble_eq_true rfl) (show d + 1 + 2 + 1 ≤ d + 4 by omega) (show 8 + (2 + 11) + 40 * (d + 1 + 2) ≤ 40 * (d + 4) by omega) (g_c0 hv.ln) (Nat.le_of_ble_eq_true rfl) dX8_readSet_3 ?_
  intro r h5 hq _
  obtain ⟨rfl, hv5, f6, f7, f8⟩ := hq
  try rw [show (61 : Int32).toInt = 61 from (ti_c (v := 61) (a := 61) (by decide))] at f6
  try rw [show (61 : Int32).toInt = 61 from (ti_c (v := 61) (a := 61) (by decide))] at f7
  try rw [show (61 : Int32).toInt = 61 from (ti_c (v := 61) (a := 61) (by decide))] at f8
  have ve5 : VE h.2.1 h5.2.1 := VE.of hv hv5
  have oh5 : OH h.2.1 h5.2.1 S := oh.trans (OH.of hv hv5 S)
  have kp5 : KP h.2.1 h5.2.1 := kp.trans (KP.ve ve5)
  have ck5 : CKF h.2.1 → CKF h5.2.1 := fun z => CKF.ve ve5 (ck z)
  have n73_5 : V h5.2.1 73 S = V h.2.1 73 S := ve5.v (by omega) (by omega)
  have n74_5 : V h5.2.1 74 S = V h.2.1 74 S := ve5.v (by omega) (by omega)
  have n75_5 : V h5.2.1 75 S = V h.2.1 75 S := ve5.v (by omega) (by omega)
  obtain ⟨u9, u9w⟩ : ∃ v : Int32, v = h5.2.1 70 4 := ⟨_, rfl⟩
  have u9e : (h5.2.1 70 4).toInt = u9.toInt := by rw [u9w]
  have u9l : 0 ≤ u9.toInt := by rw [u9w]; exact (hv5.2.1 70 4).1
  have u9u : u9.toInt ≤ 500 := by rw [u9w]; exact (hv5.2.1 70 4).2
  obtain ⟨u10, u10w⟩ : ∃ v : Int32, v = h5.2.1 70 5 := ⟨_, rfl⟩
  have u10e : (h5.2.1 70 5).toInt = u10.toInt := by rw [u10w]
  have u10l : -2147483648 ≤ u10.toInt := by rw [u10w]; exact (hv5.2.1 70 5).1
  have u10u : u10.toInt ≤ 2147483647 := by rw [u10w]; exact (hv5.2.1 70 5).2
  refine go_aload_n (pc := 6) rfl dX8_readSet_6 ?_
  refine go_invV (pc := 7) (sl := 0) (s_X8_isGood l (d + 2) hv5 ) mL_X8_172 iM_X8_isGood sM_X8_isGood (hv5.sh rfl) rfl rfl rfl (Nat.le_of_ble_eq_true rfl) (show d + 2 + 1 + 1 ≤ d + 4 by omega) (show 8 + (1 + 11) + 40 * (d + 2 + 1) ≤ 40 * (d + 4) by omega) (g_c0 hv5.ln) (Nat.le_of_ble_eq_true rfl) dX8_readSet_7 ?_
  intro r h11 hq _
  obtain ⟨v14, rfl, v14l, v14u, rfl, f12, f13⟩ := hq
  refine gf_if_eq (pc := 10) (tgt := 100) (ti_rfl v14) (by decide) dX8_readSet_10 (fun q15 => ?_) (fun q15 => ?_)
  ·
    refine go_aload_n (pc := 100) rfl dX8_readSet_100 ?_
    refine go_iload_n (pc := 101) rfl dX8_readSet_101 ?_
    refine go_iconst (pc := 102) (v := 0) (by decide) dX8_readSet_102 ?_
    have sM16 : (h5.2.1 70 6).toInt = S := (congrArg Int32.toInt oh5.side).trans hS.symm
    have g17 : (0 : Int) ≤ (h5.2.1 70 4).toInt := (hv5.2.1 70 4).1
    have g18 : (h5.2.1 70 4).toInt ≤ 500 := (hv5.2.1 70 4).2
    have g19 : (-2147483648 : Int) ≤ (h5.2.1 70 5).toInt := (hv5.2.1 70 5).1
    have g20 : (h5.2.1 70 5).toInt ≤ 2147483647 := (hv5.2.1 70 5).2
    have g21 : (h5.2.1 70 4).toInt = u9.toInt := by rw [← (show u9 = h5.2.1 70 4 from u9w)] <;> exact (ti_rfl u9)
    have g22 : (h5.2.1 70 5).toInt = u10.toInt := by rw [← (show u10 = h5.2.1 70 5 from u10w)] <;> exact (ti_rfl u10)
    refine go_invV (pc := 103) (sl := 0) (s_X8_operand l (d + 0) hv5 a2 (by rw [show (a2 : Int32).toInt = a2.toInt from (ti_rfl a2)]; omega) (by rw [show (a2 : Int32).toInt = a2.toInt from (ti_rfl a2)]; omega) 0 (by rw [show (0 : Int32).toInt = 0 from (ti_c (v := 0) (a := 0) (by decide))]; omega) (by rw [show (0 : Int32).toInt = 0 from (ti_c (v := 0) (a := 0) (by decide))]; omega) (by rw [sM16]; exact hi)) mL_X8_218 iM_X8_operand sM_X8_operand (hv5.sh rfl) rfl rfl rfl (Nat.le_of_ble_eq_true rfl) (show d + 0 + 3 + 1 ≤ d + 4 by omega) (show 8 + (7 + 11) + 40 * (d + 0 + 3) ≤ 40 * (d + 4) by omega) (g_c0 hv5.ln) (Nat.le_of_ble_eq_true rfl) dX8_readSet_103 ?_
    intro r h23 hq _
    obtain ⟨rfl, ⟨Q24, hv23, sq25⟩, f26, f27, f28, f29, f30, f31, f32, f33, f34⟩ := hq
    rw [sM16] at f29
    rw [sM16] at f30
    rw [sM16] at f31
    rw [sM16] at f33
    have oh23 : OH h.2.1 h23.2.1 S := oh5.trans f33
    have kp23 : KP h.2.1 h23.2.1 := kp5.trans f32
    have ck23 : CKF h.2.1 → CKF h23.2.1 := fun z => f34 (ck5 z)
    try rw [show (0 : Int32).toInt = 0 from (ti_c (v := 0) (a := 0) (by decide))] at f26
    try rw [show (0 : Int32).toInt = 0 from (ti_c (v := 0) (a := 0) (by decide))] at f27
    try rw [show (0 : Int32).toInt = 0 from (ti_c (v := 0) (a := 0) (by decide))] at f28
    try rw [show (0 : Int32).toInt = 0 from (ti_c (v := 0) (a := 0) (by decide))] at f29
    try rw [show (0 : Int32).toInt = 0 from (ti_c (v := 0) (a := 0) (by decide))] at f30
    try rw [show (0 : Int32).toInt = 0 from (ti_c (v := 0) (a := 0) (by decide))] at f31
    try rw [show (0 : Int32).toInt = 0 from (ti_c (v := 0) (a := 0) (by decide))] at f32
    try rw [show (0 : Int32).toInt = 0 from (ti_c (v := 0) (a := 0) (by decide))] at f33
    try rw [show (0 : Int32).toInt = 0 from (ti_c (v := 0) (a := 0) (by decide))] at f34
    obtain ⟨u35, u35w⟩ : ∃ v : Int32, v = h23.2.1 70 4 := ⟨_, rfl⟩
    have u35e : (h23.2.1 70 4).toInt = u35.toInt := by rw [u35w]
    have u35l : 0 ≤ u35.toInt := by rw [u35w]; exact (hv23.2.1 70 4).1
    have u35u : u35.toInt ≤ 500 := by rw [u35w]; exact (hv23.2.1 70 4).2
    obtain ⟨u36, u36w⟩ : ∃ v : Int32, v = h23.2.1 70 5 := ⟨_, rfl⟩
    have u36e : (h23.2.1 70 5).toInt = u36.toInt := by rw [u36w]
    have u36l : -2147483648 ≤ u36.toInt := by rw [u36w]; exact (hv23.2.1 70 5).1
    have u36u : u36.toInt ≤ 2147483647 := by rw [u36w]; exact (hv23.2.1 70 5).2
    refine go_aload_n (pc := 106) rfl dX8_readSet_106 ?_
    refine go_invV (pc := 107) (sl := 0) (s_X8_isGood l (d + 2) hv23 ) mL_X8_172 iM_X8_isGood sM_X8_isGood (hv23.sh rfl) rfl rfl rfl (Nat.le_of_ble_eq_true rfl) (show d + 2 + 1 + 1 ≤ d + 4 by omega) (show 8 + (1 + 11) + 40 * (d + 2 + 1) ≤ 40 * (d + 4) by omega) (g_c0 hv23.ln) (Nat.le_of_ble_eq_true rfl) dX8_readSet_107 ?_
    intro r h37 hq _
    obtain ⟨v40, rfl, v40l, v40u, rfl, f38, f39⟩ := hq
    refine gf_if_eq (pc := 110) (tgt := 149) (ti_rfl v40) (by decide) dX8_readSet_110 (fun q41 => ?_) (fun q41 => ?_)
    ·
      refine go_aload_n (pc := 149) rfl dX8_readSet_149 ?_
      refine go_bipush (pc := 150) (v := 59) (by decide) dX8_readSet_150 ?_
      have g42 : (0 : Int) ≤ (h23.2.1 70 4).toInt := (hv23.2.1 70 4).1
      have g43 : (h23.2.1 70 4).toInt ≤ 500 := (hv23.2.1 70 4).2
      have g44 : (-2147483648 : Int) ≤ (h23.2.1 70 5).toInt := (hv23.2.1 70 5).1
      have g45 : (h23.2.1 70 5).toInt ≤ 2147483647 := (hv23.2.1 70 5).2
      have g46 : (h23.2.1 70 4).toInt = u35.toInt := by rw [← (show u35 = h23.2.1 70 4 from u35w)] <;> exact (ti_rfl u35)
      have g47 : (h23.2.1 70 5).toInt = u36.toInt := by rw [← (show u36 = h23.2.1 70 5 from u36w)] <;> exact (ti_rfl u36)
      refine go_invV (pc := 152) (sl := 0) (s_X8_must l (d + 1) hv23 59 (by rw [show (59 : Int32).toInt = 59 from (ti_c (v := 59) (a := 59) (by decide))]; omega) (by rw [show (59 : Int32).toInt = 59 from (ti_c (v := 59) (a := 59) (by decide))]; omega)) mL_X8_198 iM_X8_must sM_X8_must (hv23.sh rfl) rfl rfl rfl (Nat.le_of_ble_eq_true rfl) (show d + 1 + 2 + 1 ≤ d + 4 by omega) (show 8 + (2 + 11) + 40 * (d + 1 + 2) ≤ 40 * (d + 4) by omega) (g_c0 hv23.ln) (Nat.le_of_ble_eq_true rfl) dX8_readSet_152 ?_
      intro r h48 hq _
      obtain ⟨rfl, hv48, f49, f50, f51⟩ := hq
      try rw [show (59 : Int32).toInt = 59 from (ti_c (v := 59) (a := 59) (by decide))] at f49
      try rw [show (59 : Int32).toInt = 59 from (ti_c (v := 59) (a := 59) (by decide))] at f50
      try rw [show (59 : Int32).toInt = 59 from (ti_c (v := 59) (a := 59) (by decide))] at f51
      have ve48 : VE h23.2.1 h48.2.1 := VE.of hv23 hv48
      have oh48 : OH h.2.1 h48.2.1 S := oh23.trans (OH.of hv23 hv48 S)
      have kp48 : KP h.2.1 h48.2.1 := kp23.trans (KP.ve ve48)
      have ck48 : CKF h.2.1 → CKF h48.2.1 := fun z => CKF.ve ve48 (ck23 z)
      have n73_48 : V h48.2.1 73 S = V h23.2.1 73 S := ve48.v (by omega) (by omega)
      have n74_48 : V h48.2.1 74 S = V h23.2.1 74 S := ve48.v (by omega) (by omega)
      have n75_48 : V h48.2.1 75 S = V h23.2.1 75 S := ve48.v (by omega) (by omega)
      obtain ⟨u52, u52w⟩ : ∃ v : Int32, v = h48.2.1 70 4 := ⟨_, rfl⟩
      have u52e : (h48.2.1 70 4).toInt = u52.toInt := by rw [u52w]
      have u52l : 0 ≤ u52.toInt := by rw [u52w]; exact (hv48.2.1 70 4).1
      have u52u : u52.toInt ≤ 500 := by rw [u52w]; exact (hv48.2.1 70 4).2
      obtain ⟨u53, u53w⟩ : ∃ v : Int32, v = h48.2.1 70 5 := ⟨_, rfl⟩
      have u53e : (h48.2.1 70 5).toInt = u53.toInt := by rw [u53w]
      have u53l : -2147483648 ≤ u53.toInt := by rw [u53w]; exact (hv48.2.1 70 5).1
      have u53u : u53.toInt ≤ 2147483647 := by rw [u53w]; exact (hv48.2.1 70 5).2
      have g54 : (0 : Int) ≤ (h48.2.1 70 4).toInt := (hv48.2.1 70 4).1
      have g55 : (h48.2.1 70 4).toInt ≤ 500 := (hv48.2.1 70 4).2
      have g56 : (-2147483648 : Int) ≤ (h48.2.1 70 5).toInt := (hv48.2.1 70 5).1
      have g57 : (h48.2.1 70 5).toInt ≤ 2147483647 := (hv48.2.1 70 5).2
      have g58 : (h48.2.1 70 4).toInt = u52.toInt := by rw [← (show u52 = h48.2.1 70 4 from u52w)] <;> exact (ti_rfl u52)
      have g59 : (h48.2.1 70 5).toInt = u53.toInt := by rw [← (show u53 = h48.2.1 70 5 from u53w)] <;> exact (ti_rfl u53)
      have pp60 : (h48.2.1 70 5).toInt = 0 → (h.2.1 70 5).toInt = 0 := (by omega)
      have pp61 : (h.2.1 70 4).toInt ≤ (h48.2.1 70 4).toInt := (by omega)
      have pp62 : V h48.2.1 73 S = V h.2.1 73 S := (by omega)
      have pp63 : V h48.2.1 74 S = V h.2.1 74 S := (by omega)
      have pp64 : V h48.2.1 75 S = V h.2.1 75 S := (by omega)
      have pp65 : (h48.2.1 70 5).toInt = 0 → ∀ d : Int, V h.2.1 77 a2.toInt = 0 → V h.2.1 82 a2.toInt = a3.toInt → RT h.2.1 h48.2.1 S a2.toInt d := (fun hg d k1 k2 => RT.op ((((OP.rfl _).trans (OP.ve ve5)).trans (f28 (by omega))).trans (OP.ve ve48)) (by omega) (by omega) (by omega))
      subst hS
      exact gi_vret (pc := 155) ⟨rfl, ⟨_, hv48, sq25⟩, pp60, pp61, pp62, pp63, pp64, pp65, kp48, oh48, ck48⟩ hv48 dX8_readSet_155
    ·
      refine go_aload_n (pc := 113) rfl dX8_readSet_113 ?_
      have g66 : (0 : Int) ≤ (h23.2.1 70 4).toInt := (hv23.2.1 70 4).1
      have g67 : (h23.2.1 70 4).toInt ≤ 500 := (hv23.2.1 70 4).2
      have g68 : (-2147483648 : Int) ≤ (h23.2.1 70 5).toInt := (hv23.2.1 70 5).1
      have g69 : (h23.2.1 70 5).toInt ≤ 2147483647 := (hv23.2.1 70 5).2
      have g70 : (h23.2.1 70 4).toInt = u35.toInt := by rw [← (show u35 = h23.2.1 70 4 from u35w)] <;> exact (ti_rfl u35)
      have g71 : (h23.2.1 70 5).toInt = u36.toInt := by rw [← (show u36 = h23.2.1 70 5 from u36w)] <;> exact (ti_rfl u36)
      refine go_invV (pc := 114) (sl := 0) (s_X8_here l (d + 2) hv23 ) mL_X8_176 iM_X8_here sM_X8_here (hv23.sh rfl) rfl rfl rfl (Nat.le_of_ble_eq_true rfl) (show d + 2 + 1 + 1 ≤ d + 4 by omega) (show 8 + (1 + 11) + 40 * (d + 2 + 1) ≤ 40 * (d + 4) by omega) (g_c0 hv23.ln) (Nat.le_of_ble_eq_true rfl) dX8_readSet_114 ?_
      intro r h72 hq _
      obtain ⟨v77, rfl, v77l, v77u, hv72, f73, f74, f75, f76⟩ := hq
      have ve72 : VE h23.2.1 h72.2.1 := VE.of hv23 hv72
      have oh72 : OH h.2.1 h72.2.1 S := oh23.trans (OH.of hv23 hv72 S)
      have kp72 : KP h.2.1 h72.2.1 := kp23.trans (KP.ve ve72)
      have ck72 : CKF h.2.1 → CKF h72.2.1 := fun z => CKF.ve ve72 (ck23 z)
      have n73_72 : V h72.2.1 73 S = V h23.2.1 73 S := ve72.v (by omega) (by omega)
      have n74_72 : V h72.2.1 74 S = V h23.2.1 74 S := ve72.v (by omega) (by omega)
      have n75_72 : V h72.2.1 75 S = V h23.2.1 75 S := ve72.v (by omega) (by omega)
      obtain ⟨u78, u78w⟩ : ∃ v : Int32, v = h72.2.1 70 4 := ⟨_, rfl⟩
      have u78e : (h72.2.1 70 4).toInt = u78.toInt := by rw [u78w]
      have u78l : 0 ≤ u78.toInt := by rw [u78w]; exact (hv72.2.1 70 4).1
      have u78u : u78.toInt ≤ 500 := by rw [u78w]; exact (hv72.2.1 70 4).2
      obtain ⟨u79, u79w⟩ : ∃ v : Int32, v = h72.2.1 70 5 := ⟨_, rfl⟩
      have u79e : (h72.2.1 70 5).toInt = u79.toInt := by rw [u79w]
      have u79l : -2147483648 ≤ u79.toInt := by rw [u79w]; exact (hv72.2.1 70 5).1
      have u79u : u79.toInt ≤ 2147483647 := by rw [u79w]; exact (hv72.2.1 70 5).2
      refine go_invS (pc := 117) (sl := 0) (s_X8_isSign l (d + 2) hv72 v77) mL_X8_220 iM_X8_isSign rfl rfl (Nat.le_of_ble_eq_true rfl) (show d + 2 + 1 + 1 ≤ d + 4 by omega) (show 8 + (1 + 11) + 40 * (d + 2 + 1) ≤ 40 * (d + 4) by omega) (g_c0 hv72.ln) (Nat.le_of_ble_eq_true rfl) dX8_readSet_117 ?_
      intro r h80 hq _
      obtain ⟨v82, rfl, v82l, v82u, rfl, f81⟩ := hq
      refine gf_if_eq (pc := 120) (tgt := 149) (ti_rfl v82) (by decide) dX8_readSet_120 (fun q83 => ?_) (fun q83 => ?_)
      ·
        refine go_aload_n (pc := 149) rfl dX8_readSet_149 ?_
        refine go_bipush (pc := 150) (v := 59) (by decide) dX8_readSet_150 ?_
        have g84 : (0 : Int) ≤ (h72.2.1 70 4).toInt := (hv72.2.1 70 4).1
        have g85 : (h72.2.1 70 4).toInt ≤ 500 := (hv72.2.1 70 4).2
        have g86 : (-2147483648 : Int) ≤ (h72.2.1 70 5).toInt := (hv72.2.1 70 5).1
        have g87 : (h72.2.1 70 5).toInt ≤ 2147483647 := (hv72.2.1 70 5).2
        have g88 : (h72.2.1 70 4).toInt = u78.toInt := by rw [← (show u78 = h72.2.1 70 4 from u78w)] <;> exact (ti_rfl u78)
        have g89 : (h72.2.1 70 5).toInt = u79.toInt := by rw [← (show u79 = h72.2.1 70 5 from u79w)] <;> exact (ti_rfl u79)
        refine go_invV (pc := 152) (sl := 0) (s_X8_must l (d + 1) hv72 59 (by rw [show (59 : Int32).toInt = 59 from (ti_c (v := 59) (a := 59) (by decide))]; omega) (by rw [show (59 : Int32).toInt = 59 from (ti_c (v := 59) (a := 59) (by decide))]; omega)) mL_X8_198 iM_X8_must sM_X8_must (hv72.sh rfl) rfl rfl rfl (Nat.le_of_ble_eq_true rfl) (show d + 1 + 2 + 1 ≤ d + 4 by omega) (show 8 + (2 + 11) + 40 * (d + 1 + 2) ≤ 40 * (d + 4) by omega) (g_c0 hv72.ln) (Nat.le_of_ble_eq_true rfl) dX8_readSet_152 ?_
        intro r h90 hq _
        obtain ⟨rfl, hv90, f91, f92, f93⟩ := hq
        try rw [show (59 : Int32).toInt = 59 from (ti_c (v := 59) (a := 59) (by decide))] at f91
        try rw [show (59 : Int32).toInt = 59 from (ti_c (v := 59) (a := 59) (by decide))] at f92
        try rw [show (59 : Int32).toInt = 59 from (ti_c (v := 59) (a := 59) (by decide))] at f93
        have ve90 : VE h72.2.1 h90.2.1 := VE.of hv72 hv90
        have oh90 : OH h.2.1 h90.2.1 S := oh72.trans (OH.of hv72 hv90 S)
        have kp90 : KP h.2.1 h90.2.1 := kp72.trans (KP.ve ve90)
        have ck90 : CKF h.2.1 → CKF h90.2.1 := fun z => CKF.ve ve90 (ck72 z)
        have n73_90 : V h90.2.1 73 S = V h72.2.1 73 S := ve90.v (by omega) (by omega)
        have n74_90 : V h90.2.1 74 S = V h72.2.1 74 S := ve90.v (by omega) (by omega)
        have n75_90 : V h90.2.1 75 S = V h72.2.1 75 S := ve90.v (by omega) (by omega)
        obtain ⟨u94, u94w⟩ : ∃ v : Int32, v = h90.2.1 70 4 := ⟨_, rfl⟩
        have u94e : (h90.2.1 70 4).toInt = u94.toInt := by rw [u94w]
        have u94l : 0 ≤ u94.toInt := by rw [u94w]; exact (hv90.2.1 70 4).1
        have u94u : u94.toInt ≤ 500 := by rw [u94w]; exact (hv90.2.1 70 4).2
        obtain ⟨u95, u95w⟩ : ∃ v : Int32, v = h90.2.1 70 5 := ⟨_, rfl⟩
        have u95e : (h90.2.1 70 5).toInt = u95.toInt := by rw [u95w]
        have u95l : -2147483648 ≤ u95.toInt := by rw [u95w]; exact (hv90.2.1 70 5).1
        have u95u : u95.toInt ≤ 2147483647 := by rw [u95w]; exact (hv90.2.1 70 5).2
        have g96 : (0 : Int) ≤ (h90.2.1 70 4).toInt := (hv90.2.1 70 4).1
        have g97 : (h90.2.1 70 4).toInt ≤ 500 := (hv90.2.1 70 4).2
        have g98 : (-2147483648 : Int) ≤ (h90.2.1 70 5).toInt := (hv90.2.1 70 5).1
        have g99 : (h90.2.1 70 5).toInt ≤ 2147483647 := (hv90.2.1 70 5).2
        have g100 : (h90.2.1 70 4).toInt = u94.toInt := by rw [← (show u94 = h90.2.1 70 4 from u94w)] <;> exact (ti_rfl u94)
        have g101 : (h90.2.1 70 5).toInt = u95.toInt := by rw [← (show u95 = h90.2.1 70 5 from u95w)] <;> exact (ti_rfl u95)
        have pp102 : (h90.2.1 70 5).toInt = 0 → (h.2.1 70 5).toInt = 0 := (by omega)
        have pp103 : (h.2.1 70 4).toInt ≤ (h90.2.1 70 4).toInt := (by omega)
        have pp104 : V h90.2.1 73 S = V h.2.1 73 S := (by omega)
        have pp105 : V h90.2.1 74 S = V h.2.1 74 S := (by omega)
        have pp106 : V h90.2.1 75 S = V h.2.1 75 S := (by omega)
        have pp107 : (h90.2.1 70 5).toInt = 0 → ∀ d : Int, V h.2.1 77 a2.toInt = 0 → V h.2.1 82 a2.toInt = a3.toInt → RT h.2.1 h90.2.1 S a2.toInt d := (fun hg d k1 k2 => RT.op (((((OP.rfl _).trans (OP.ve ve5)).trans (f28 (by omega))).trans (OP.ve ve72)).trans (OP.ve ve90)) (by omega) (by omega) (by omega))
        subst hS
        exact gi_vret (pc := 155) ⟨rfl, ⟨_, hv90, sq25⟩, pp102, pp103, pp104, pp105, pp106, pp107, kp90, oh90, ck90⟩ hv90 dX8_readSet_155
      ·
        refine go_aload_n (pc := 123) rfl dX8_readSet_123 ?_
        refine gi_getF (pc := 124) (q := 83) hv72 fL_X8_47 rfl (Nat.le_of_ble_eq_true rfl) rfl (hv72.rf (by decide)) dX8_readSet_124 ?_
        refine go_iload_n (pc := 127) rfl dX8_readSet_127 ?_
        refine go_aload_n (pc := 128) rfl dX8_readSet_128 ?_
        have k108 := (f76 (by omega)).1
        have k109 : (h72.2.1 70 3).toInt ≤ 500 := (hv72.2.1 70 3).2
        refine go_invV (pc := 129) (sl := 0) (s_X8_here_ns l (d + 2) hv72 (f76 (by omega))) mL_X8_176 iM_X8_here sM_X8_here (hv72.sh rfl) rfl rfl rfl (Nat.le_of_ble_eq_true rfl) (show d + 2 + 1 + 1 ≤ d + 4 by omega) (show 8 + (1 + 11) + 40 * (d + 2 + 1) ≤ 40 * (d + 4) by omega) (g_c0 hv72.ln) (Nat.le_of_ble_eq_true rfl) dX8_readSet_129 ?_
        intro r h110 hq _
        obtain ⟨v112, rfl, v112l, v112u, rfl, f111⟩ := hq
        refine gi_fst (pc := 132) (lo := -2147483648) (hi := 2147483647) (len := 260) hv72 (ti_rfl a2) (ti_rfl v112) rfl (by omega) (by omega) (fun _ => rfl) (ti_ge (ti_rfl v112)) (ti_le2 (ti_rfl v112)) (by omega) dX8_readSet_132 (fun h113 hv113 hv113e => ?_)
        refine go_aload_n (pc := 133) rfl dX8_readSet_133 ?_
        refine go_dup (pc := 134) rfl dX8_readSet_134 ?_
        refine gi_get (pc := 135) (lo := 0) (hi := 500) hv113 fL_X8_163 rfl (Nat.le_of_ble_eq_true rfl) rfl rfl dX8_readSet_135 (fun v114 v114l v114u v114w => ?_)
        have v114r : u78 = h113.2.1 70 4 := (show u78 = h113.2.1 70 4 from by rw [hv113e]; exact (g_iI rfl u78w.symm).symm)
        have v114q : TI v114 u78.toInt := by rw [v114w.trans v114r.symm]; exact (ti_rfl u78)
        refine go_iconst (pc := 138) (v := 1) (by decide) dX8_readSet_138 ?_
        refine gf_iadd (pc := 139) v114q (ti_c (v := 1) (a := 1) (by decide)) (by omega) (by omega) dX8_readSet_139 (fun v115 e116 => ?_)
        have E113 : h113.2.1 = (w1 h72.2.1 83 a2.toInt (v112 : Int32)) := by
          rw [hv113e]
          rfl
        have oh113 : OH h.2.1 h113.2.1 S := by rw [E113]; exact (oh72.trans (OH.w 130 rfl (by omega) (by omega) (by omega) (by omega)))
        have kp113 : KP h.2.1 h113.2.1 := by rw [E113]; exact (kp72.trans (KP.w (by omega)))
        have n73_113 : V h113.2.1 73 S = V h72.2.1 73 S := by rw [E113, V_ne (by omega)]
        have n74_113 : V h113.2.1 74 S = V h72.2.1 74 S := by rw [E113, V_ne (by omega)]
        have n75_113 : V h113.2.1 75 S = V h72.2.1 75 S := by rw [E113, V_ne (by omega)]
        have ck113 : CKF h.2.1 → CKF h113.2.1 := fun z => by rw [E113]; exact (CKF.w (by omega) (ck72 z))
        refine gi_put (pc := 140) (lo := 0) (hi := 500) hv113 e116 (fP_X8_163 _) rfl (Nat.le_of_ble_eq_true rfl) rfl rfl (by omega) (by omega) rfl rfl (by decide) (by decide) (by decide) (by decide) dX8_readSet_140 (fun h117 hv117 hv117e => ?_)
        have ve117 : VE h113.2.1 h117.2.1 := VE.of hv113 hv117
        have oh117 : OH h.2.1 h117.2.1 S := oh113.trans (OH.of hv113 hv117 S)
        have kp117 : KP h.2.1 h117.2.1 := kp113.trans (KP.ve ve117)
        have ck117 : CKF h.2.1 → CKF h117.2.1 := fun z => CKF.ve ve117 (ck113 z)
        have n73_117 : V h117.2.1 73 S = V h113.2.1 73 S := ve117.v (by omega) (by omega)
        have n74_117 : V h117.2.1 74 S = V h113.2.1 74 S := ve117.v (by omega) (by omega)
        have n75_117 : V h117.2.1 75 S = V h113.2.1 75 S := ve117.v (by omega) (by omega)
        refine go_aload_n (pc := 143) rfl dX8_readSet_143 ?_
        refine go_iload_n (pc := 144) rfl dX8_readSet_144 ?_
        refine go_iconst (pc := 145) (v := 1) (by decide) dX8_readSet_145 ?_
        have sM118 : (h117.2.1 70 6).toInt = S := (congrArg Int32.toInt oh117.side).trans hS.symm
        have g119 : (0 : Int) ≤ (h117.2.1 70 4).toInt := (hv117.2.1 70 4).1
        have g120 : (h117.2.1 70 4).toInt ≤ 500 := (hv117.2.1 70 4).2
        have g121 : (-2147483648 : Int) ≤ (h117.2.1 70 5).toInt := (hv117.2.1 70 5).1
        have g122 : (h117.2.1 70 5).toInt ≤ 2147483647 := (hv117.2.1 70 5).2
        have g123 : (h117.2.1 70 5).toInt = u79.toInt := by rw [← (show u79 = h117.2.1 70 5 from (show u79 = h117.2.1 70 5 from by rw [hv117e]; exact (g_iI rfl (show u79 = h113.2.1 70 5 from by rw [hv113e]; exact (g_iI rfl u79w.symm).symm).symm).symm))] <;> exact (ti_rfl u79)
        have g124 : (h117.2.1 70 4).toInt = (u78.toInt + 1) := by rw [← (show v115 = h117.2.1 70 4 from (show v115 = h117.2.1 70 4 from by rw [hv117e]; exact g_iS.symm))] <;> exact e116
        refine go_invV (pc := 146) (sl := 0) (s_X8_operand l (d + 0) hv117 a2 (by rw [show (a2 : Int32).toInt = a2.toInt from (ti_rfl a2)]; omega) (by rw [show (a2 : Int32).toInt = a2.toInt from (ti_rfl a2)]; omega) 1 (by rw [show (1 : Int32).toInt = 1 from (ti_c (v := 1) (a := 1) (by decide))]; omega) (by rw [show (1 : Int32).toInt = 1 from (ti_c (v := 1) (a := 1) (by decide))]; omega) (by rw [sM118]; exact hi)) mL_X8_218 iM_X8_operand sM_X8_operand (hv117.sh rfl) rfl rfl rfl (Nat.le_of_ble_eq_true rfl) (show d + 0 + 3 + 1 ≤ d + 4 by omega) (show 8 + (7 + 11) + 40 * (d + 0 + 3) ≤ 40 * (d + 4) by omega) (g_c0 hv117.ln) (Nat.le_of_ble_eq_true rfl) dX8_readSet_146 ?_
        intro r h125 hq _
        obtain ⟨rfl, ⟨Q126, hv125, sq127⟩, f128, f129, f130, f131, f132, f133, f134, f135, f136⟩ := hq
        rw [sM118] at f131
        rw [sM118] at f132
        rw [sM118] at f133
        rw [sM118] at f135
        have oh125 : OH h.2.1 h125.2.1 S := oh117.trans f135
        have kp125 : KP h.2.1 h125.2.1 := kp117.trans f134
        have ck125 : CKF h.2.1 → CKF h125.2.1 := fun z => f136 (ck117 z)
        try rw [show (1 : Int32).toInt = 1 from (ti_c (v := 1) (a := 1) (by decide))] at f128
        try rw [show (1 : Int32).toInt = 1 from (ti_c (v := 1) (a := 1) (by decide))] at f129
        try rw [show (1 : Int32).toInt = 1 from (ti_c (v := 1) (a := 1) (by decide))] at f130
        try rw [show (1 : Int32).toInt = 1 from (ti_c (v := 1) (a := 1) (by decide))] at f131
        try rw [show (1 : Int32).toInt = 1 from (ti_c (v := 1) (a := 1) (by decide))] at f132
        try rw [show (1 : Int32).toInt = 1 from (ti_c (v := 1) (a := 1) (by decide))] at f133
        try rw [show (1 : Int32).toInt = 1 from (ti_c (v := 1) (a := 1) (by decide))] at f134
        try rw [show (1 : Int32).toInt = 1 from (ti_c (v := 1) (a := 1) (by decide))] at f135
        try rw [show (1 : Int32).toInt = 1 from (ti_c (v := 1) (a := 1) (by decide))] at f136
        obtain ⟨u137, u137w⟩ : ∃ v : Int32, v = h125.2.1 70 4 := ⟨_, rfl⟩
        have u137e : (h125.2.1 70 4).toInt = u137.toInt := by rw [u137w]
        have u137l : 0 ≤ u137.toInt := by rw [u137w]; exact (hv125.2.1 70 4).1
        have u137u : u137.toInt ≤ 500 := by rw [u137w]; exact (hv125.2.1 70 4).2
        obtain ⟨u138, u138w⟩ : ∃ v : Int32, v = h125.2.1 70 5 := ⟨_, rfl⟩
        have u138e : (h125.2.1 70 5).toInt = u138.toInt := by rw [u138w]
        have u138l : -2147483648 ≤ u138.toInt := by rw [u138w]; exact (hv125.2.1 70 5).1
        have u138u : u138.toInt ≤ 2147483647 := by rw [u138w]; exact (hv125.2.1 70 5).2
        refine go_aload_n (pc := 149) rfl dX8_readSet_149 ?_
        refine go_bipush (pc := 150) (v := 59) (by decide) dX8_readSet_150 ?_
        have g139 : (0 : Int) ≤ (h125.2.1 70 4).toInt := (hv125.2.1 70 4).1
        have g140 : (h125.2.1 70 4).toInt ≤ 500 := (hv125.2.1 70 4).2
        have g141 : (-2147483648 : Int) ≤ (h125.2.1 70 5).toInt := (hv125.2.1 70 5).1
        have g142 : (h125.2.1 70 5).toInt ≤ 2147483647 := (hv125.2.1 70 5).2
        have g143 : (h125.2.1 70 4).toInt = u137.toInt := by rw [← (show u137 = h125.2.1 70 4 from u137w)] <;> exact (ti_rfl u137)
        have g144 : (h125.2.1 70 5).toInt = u138.toInt := by rw [← (show u138 = h125.2.1 70 5 from u138w)] <;> exact (ti_rfl u138)
        refine go_invV (pc := 152) (sl := 0) (s_X8_must l (d + 1) hv125 59 (by rw [show (59 : Int32).toInt = 59 from (ti_c (v := 59) (a := 59) (by decide))]; omega) (by rw [show (59 : Int32).toInt = 59 from (ti_c (v := 59) (a := 59) (by decide))]; omega)) mL_X8_198 iM_X8_must sM_X8_must (hv125.sh rfl) rfl rfl rfl (Nat.le_of_ble_eq_true rfl) (show d + 1 + 2 + 1 ≤ d + 4 by omega) (show 8 + (2 + 11) + 40 * (d + 1 + 2) ≤ 40 * (d + 4) by omega) (g_c0 hv125.ln) (Nat.le_of_ble_eq_true rfl) dX8_readSet_152 ?_
        intro r h145 hq _
        obtain ⟨rfl, hv145, f146, f147, f148⟩ := hq
        try rw [show (59 : Int32).toInt = 59 from (ti_c (v := 59) (a := 59) (by decide))] at f146
        try rw [show (59 : Int32).toInt = 59 from (ti_c (v := 59) (a := 59) (by decide))] at f147
        try rw [show (59 : Int32).toInt = 59 from (ti_c (v := 59) (a := 59) (by decide))] at f148
        have ve145 : VE h125.2.1 h145.2.1 := VE.of hv125 hv145
        have oh145 : OH h.2.1 h145.2.1 S := oh125.trans (OH.of hv125 hv145 S)
        have kp145 : KP h.2.1 h145.2.1 := kp125.trans (KP.ve ve145)
        have ck145 : CKF h.2.1 → CKF h145.2.1 := fun z => CKF.ve ve145 (ck125 z)
        have n73_145 : V h145.2.1 73 S = V h125.2.1 73 S := ve145.v (by omega) (by omega)
        have n74_145 : V h145.2.1 74 S = V h125.2.1 74 S := ve145.v (by omega) (by omega)
        have n75_145 : V h145.2.1 75 S = V h125.2.1 75 S := ve145.v (by omega) (by omega)
        obtain ⟨u149, u149w⟩ : ∃ v : Int32, v = h145.2.1 70 4 := ⟨_, rfl⟩
        have u149e : (h145.2.1 70 4).toInt = u149.toInt := by rw [u149w]
        have u149l : 0 ≤ u149.toInt := by rw [u149w]; exact (hv145.2.1 70 4).1
        have u149u : u149.toInt ≤ 500 := by rw [u149w]; exact (hv145.2.1 70 4).2
        obtain ⟨u150, u150w⟩ : ∃ v : Int32, v = h145.2.1 70 5 := ⟨_, rfl⟩
        have u150e : (h145.2.1 70 5).toInt = u150.toInt := by rw [u150w]
        have u150l : -2147483648 ≤ u150.toInt := by rw [u150w]; exact (hv145.2.1 70 5).1
        have u150u : u150.toInt ≤ 2147483647 := by rw [u150w]; exact (hv145.2.1 70 5).2
        have g151 : (0 : Int) ≤ (h145.2.1 70 4).toInt := (hv145.2.1 70 4).1
        have g152 : (h145.2.1 70 4).toInt ≤ 500 := (hv145.2.1 70 4).2
        have g153 : (-2147483648 : Int) ≤ (h145.2.1 70 5).toInt := (hv145.2.1 70 5).1
        have g154 : (h145.2.1 70 5).toInt ≤ 2147483647 := (hv145.2.1 70 5).2
        have g155 : (h145.2.1 70 4).toInt = u149.toInt := by rw [← (show u149 = h145.2.1 70 4 from u149w)] <;> exact (ti_rfl u149)
        have g156 : (h145.2.1 70 5).toInt = u150.toInt := by rw [← (show u150 = h145.2.1 70 5 from u150w)] <;> exact (ti_rfl u150)
        have pp157 : (h145.2.1 70 5).toInt = 0 → (h.2.1 70 5).toInt = 0 := (by omega)
        have pp158 : (h.2.1 70 4).toInt ≤ (h145.2.1 70 4).toInt := (by omega)
        have pp159 : V h145.2.1 73 S = V h.2.1 73 S := (by omega)
        have pp160 : V h145.2.1 74 S = V h.2.1 74 S := (by omega)
        have pp161 : V h145.2.1 75 S = V h.2.1 75 S := (by omega)
        have pp162 : (h145.2.1 70 5).toInt = 0 → ∀ d : Int, V h.2.1 77 a2.toInt = 0 → V h.2.1 82 a2.toInt = a3.toInt → RT h.2.1 h145.2.1 S a2.toInt d := (fun hg d k1 k2 => RT.op ((((((((OP.rfl _).trans (OP.ve ve5)).trans (f28 (by omega))).trans (OP.ve ve72)).trans (by rw [E113]; exact ((OP.rfl _).trans OP.w3))).trans (OP.ve ve117)).trans (f130 (by omega))).trans (OP.ve ve145)) (by omega) (by omega) (by omega))
        subst hS
        exact gi_vret (pc := 155) ⟨rfl, ⟨_, hv145, (MW.trans (MW.trans sq25 (MW.mz _ _)) sq127)⟩, pp157, pp158, pp159, pp160, pp161, pp162, kp145, oh145, ck145⟩ hv145 dX8_readSet_155
  ·
    refine go_iload_n (pc := 13) rfl dX8_readSet_13 ?_
    refine go_bipush (pc := 14) (v := 6) (by decide) dX8_readSet_14 ?_
    refine gf_icmp_ge (pc := 16) (tgt := 100) (ti_rfl a3) (ti_c (v := 6) (a := 6) (by decide)) (by decide) dX8_readSet_16 (fun q163 => ?_) (fun q163 => ?_)
    ·
      refine go_aload_n (pc := 100) rfl dX8_readSet_100 ?_
      refine go_iload_n (pc := 101) rfl dX8_readSet_101 ?_
      refine go_iconst (pc := 102) (v := 0) (by decide) dX8_readSet_102 ?_
      have sM164 : (h5.2.1 70 6).toInt = S := (congrArg Int32.toInt oh5.side).trans hS.symm
      have g165 : (0 : Int) ≤ (h5.2.1 70 4).toInt := (hv5.2.1 70 4).1
      have g166 : (h5.2.1 70 4).toInt ≤ 500 := (hv5.2.1 70 4).2
      have g167 : (-2147483648 : Int) ≤ (h5.2.1 70 5).toInt := (hv5.2.1 70 5).1
      have g168 : (h5.2.1 70 5).toInt ≤ 2147483647 := (hv5.2.1 70 5).2
      have g169 : (h5.2.1 70 4).toInt = u9.toInt := by rw [← (show u9 = h5.2.1 70 4 from u9w)] <;> exact (ti_rfl u9)
      have g170 : (h5.2.1 70 5).toInt = u10.toInt := by rw [← (show u10 = h5.2.1 70 5 from u10w)] <;> exact (ti_rfl u10)
      refine go_invV (pc := 103) (sl := 0) (s_X8_operand l (d + 0) hv5 a2 (by rw [show (a2 : Int32).toInt = a2.toInt from (ti_rfl a2)]; omega) (by rw [show (a2 : Int32).toInt = a2.toInt from (ti_rfl a2)]; omega) 0 (by rw [show (0 : Int32).toInt = 0 from (ti_c (v := 0) (a := 0) (by decide))]; omega) (by rw [show (0 : Int32).toInt = 0 from (ti_c (v := 0) (a := 0) (by decide))]; omega) (by rw [sM164]; exact hi)) mL_X8_218 iM_X8_operand sM_X8_operand (hv5.sh rfl) rfl rfl rfl (Nat.le_of_ble_eq_true rfl) (show d + 0 + 3 + 1 ≤ d + 4 by omega) (show 8 + (7 + 11) + 40 * (d + 0 + 3) ≤ 40 * (d + 4) by omega) (g_c0 hv5.ln) (Nat.le_of_ble_eq_true rfl) dX8_readSet_103 ?_
      intro r h171 hq _
      obtain ⟨rfl, ⟨Q172, hv171, sq173⟩, f174, f175, f176, f177, f178, f179, f180, f181, f182⟩ := hq
      rw [sM164] at f177
      rw [sM164] at f178
      rw [sM164] at f179
      rw [sM164] at f181
      have oh171 : OH h.2.1 h171.2.1 S := oh5.trans f181
      have kp171 : KP h.2.1 h171.2.1 := kp5.trans f180
      have ck171 : CKF h.2.1 → CKF h171.2.1 := fun z => f182 (ck5 z)
      try rw [show (0 : Int32).toInt = 0 from (ti_c (v := 0) (a := 0) (by decide))] at f174
      try rw [show (0 : Int32).toInt = 0 from (ti_c (v := 0) (a := 0) (by decide))] at f175
      try rw [show (0 : Int32).toInt = 0 from (ti_c (v := 0) (a := 0) (by decide))] at f176
      try rw [show (0 : Int32).toInt = 0 from (ti_c (v := 0) (a := 0) (by decide))] at f177
      try rw [show (0 : Int32).toInt = 0 from (ti_c (v := 0) (a := 0) (by decide))] at f178
      try rw [show (0 : Int32).toInt = 0 from (ti_c (v := 0) (a := 0) (by decide))] at f179
      try rw [show (0 : Int32).toInt = 0 from (ti_c (v := 0) (a := 0) (by decide))] at f180
      try rw [show (0 : Int32).toInt = 0 from (ti_c (v := 0) (a := 0) (by decide))] at f181
      try rw [show (0 : Int32).toInt = 0 from (ti_c (v := 0) (a := 0) (by decide))] at f182
      obtain ⟨u183, u183w⟩ : ∃ v : Int32, v = h171.2.1 70 4 := ⟨_, rfl⟩
      have u183e : (h171.2.1 70 4).toInt = u183.toInt := by rw [u183w]
      have u183l : 0 ≤ u183.toInt := by rw [u183w]; exact (hv171.2.1 70 4).1
      have u183u : u183.toInt ≤ 500 := by rw [u183w]; exact (hv171.2.1 70 4).2
      obtain ⟨u184, u184w⟩ : ∃ v : Int32, v = h171.2.1 70 5 := ⟨_, rfl⟩
      have u184e : (h171.2.1 70 5).toInt = u184.toInt := by rw [u184w]
      have u184l : -2147483648 ≤ u184.toInt := by rw [u184w]; exact (hv171.2.1 70 5).1
      have u184u : u184.toInt ≤ 2147483647 := by rw [u184w]; exact (hv171.2.1 70 5).2
      refine go_aload_n (pc := 106) rfl dX8_readSet_106 ?_
      refine go_invV (pc := 107) (sl := 0) (s_X8_isGood l (d + 2) hv171 ) mL_X8_172 iM_X8_isGood sM_X8_isGood (hv171.sh rfl) rfl rfl rfl (Nat.le_of_ble_eq_true rfl) (show d + 2 + 1 + 1 ≤ d + 4 by omega) (show 8 + (1 + 11) + 40 * (d + 2 + 1) ≤ 40 * (d + 4) by omega) (g_c0 hv171.ln) (Nat.le_of_ble_eq_true rfl) dX8_readSet_107 ?_
      intro r h185 hq _
      obtain ⟨v188, rfl, v188l, v188u, rfl, f186, f187⟩ := hq
      refine gf_if_eq (pc := 110) (tgt := 149) (ti_rfl v188) (by decide) dX8_readSet_110 (fun q189 => ?_) (fun q189 => ?_)
      ·
        refine go_aload_n (pc := 149) rfl dX8_readSet_149 ?_
        refine go_bipush (pc := 150) (v := 59) (by decide) dX8_readSet_150 ?_
        have g190 : (0 : Int) ≤ (h171.2.1 70 4).toInt := (hv171.2.1 70 4).1
        have g191 : (h171.2.1 70 4).toInt ≤ 500 := (hv171.2.1 70 4).2
        have g192 : (-2147483648 : Int) ≤ (h171.2.1 70 5).toInt := (hv171.2.1 70 5).1
        have g193 : (h171.2.1 70 5).toInt ≤ 2147483647 := (hv171.2.1 70 5).2
        have g194 : (h171.2.1 70 4).toInt = u183.toInt := by rw [← (show u183 = h171.2.1 70 4 from u183w)] <;> exact (ti_rfl u183)
        have g195 : (h171.2.1 70 5).toInt = u184.toInt := by rw [← (show u184 = h171.2.1 70 5 from u184w)] <;> exact (ti_rfl u184)
        refine go_invV (pc := 152) (sl := 0) (s_X8_must l (d + 1) hv171 59 (by rw [show (59 : Int32).toInt = 59 from (ti_c (v := 59) (a := 59) (by decide))]; omega) (by rw [show (59 : Int32).toInt = 59 from (ti_c (v := 59) (a := 59) (by decide))]; omega)) mL_X8_198 iM_X8_must sM_X8_must (hv171.sh rfl) rfl rfl rfl (Nat.le_of_ble_eq_true rfl) (show d + 1 + 2 + 1 ≤ d + 4 by omega) (show 8 + (2 + 11) + 40 * (d + 1 + 2) ≤ 40 * (d + 4) by omega) (g_c0 hv171.ln) (Nat.le_of_ble_eq_true rfl) dX8_readSet_152 ?_
        intro r h196 hq _
        obtain ⟨rfl, hv196, f197, f198, f199⟩ := hq
        try rw [show (59 : Int32).toInt = 59 from (ti_c (v := 59) (a := 59) (by decide))] at f197
        try rw [show (59 : Int32).toInt = 59 from (ti_c (v := 59) (a := 59) (by decide))] at f198
        try rw [show (59 : Int32).toInt = 59 from (ti_c (v := 59) (a := 59) (by decide))] at f199
        have ve196 : VE h171.2.1 h196.2.1 := VE.of hv171 hv196
        have oh196 : OH h.2.1 h196.2.1 S := oh171.trans (OH.of hv171 hv196 S)
        have kp196 : KP h.2.1 h196.2.1 := kp171.trans (KP.ve ve196)
        have ck196 : CKF h.2.1 → CKF h196.2.1 := fun z => CKF.ve ve196 (ck171 z)
        have n73_196 : V h196.2.1 73 S = V h171.2.1 73 S := ve196.v (by omega) (by omega)
        have n74_196 : V h196.2.1 74 S = V h171.2.1 74 S := ve196.v (by omega) (by omega)
        have n75_196 : V h196.2.1 75 S = V h171.2.1 75 S := ve196.v (by omega) (by omega)
        obtain ⟨u200, u200w⟩ : ∃ v : Int32, v = h196.2.1 70 4 := ⟨_, rfl⟩
        have u200e : (h196.2.1 70 4).toInt = u200.toInt := by rw [u200w]
        have u200l : 0 ≤ u200.toInt := by rw [u200w]; exact (hv196.2.1 70 4).1
        have u200u : u200.toInt ≤ 500 := by rw [u200w]; exact (hv196.2.1 70 4).2
        obtain ⟨u201, u201w⟩ : ∃ v : Int32, v = h196.2.1 70 5 := ⟨_, rfl⟩
        have u201e : (h196.2.1 70 5).toInt = u201.toInt := by rw [u201w]
        have u201l : -2147483648 ≤ u201.toInt := by rw [u201w]; exact (hv196.2.1 70 5).1
        have u201u : u201.toInt ≤ 2147483647 := by rw [u201w]; exact (hv196.2.1 70 5).2
        have g202 : (0 : Int) ≤ (h196.2.1 70 4).toInt := (hv196.2.1 70 4).1
        have g203 : (h196.2.1 70 4).toInt ≤ 500 := (hv196.2.1 70 4).2
        have g204 : (-2147483648 : Int) ≤ (h196.2.1 70 5).toInt := (hv196.2.1 70 5).1
        have g205 : (h196.2.1 70 5).toInt ≤ 2147483647 := (hv196.2.1 70 5).2
        have g206 : (h196.2.1 70 4).toInt = u200.toInt := by rw [← (show u200 = h196.2.1 70 4 from u200w)] <;> exact (ti_rfl u200)
        have g207 : (h196.2.1 70 5).toInt = u201.toInt := by rw [← (show u201 = h196.2.1 70 5 from u201w)] <;> exact (ti_rfl u201)
        have pp208 : (h196.2.1 70 5).toInt = 0 → (h.2.1 70 5).toInt = 0 := (by omega)
        have pp209 : (h.2.1 70 4).toInt ≤ (h196.2.1 70 4).toInt := (by omega)
        have pp210 : V h196.2.1 73 S = V h.2.1 73 S := (by omega)
        have pp211 : V h196.2.1 74 S = V h.2.1 74 S := (by omega)
        have pp212 : V h196.2.1 75 S = V h.2.1 75 S := (by omega)
        have pp213 : (h196.2.1 70 5).toInt = 0 → ∀ d : Int, V h.2.1 77 a2.toInt = 0 → V h.2.1 82 a2.toInt = a3.toInt → RT h.2.1 h196.2.1 S a2.toInt d := (fun hg d k1 k2 => RT.op ((((OP.rfl _).trans (OP.ve ve5)).trans (f176 (by omega))).trans (OP.ve ve196)) (by omega) (by omega) (by omega))
        subst hS
        exact gi_vret (pc := 155) ⟨rfl, ⟨_, hv196, sq173⟩, pp208, pp209, pp210, pp211, pp212, pp213, kp196, oh196, ck196⟩ hv196 dX8_readSet_155
      ·
        refine go_aload_n (pc := 113) rfl dX8_readSet_113 ?_
        have g214 : (0 : Int) ≤ (h171.2.1 70 4).toInt := (hv171.2.1 70 4).1
        have g215 : (h171.2.1 70 4).toInt ≤ 500 := (hv171.2.1 70 4).2
        have g216 : (-2147483648 : Int) ≤ (h171.2.1 70 5).toInt := (hv171.2.1 70 5).1
        have g217 : (h171.2.1 70 5).toInt ≤ 2147483647 := (hv171.2.1 70 5).2
        have g218 : (h171.2.1 70 4).toInt = u183.toInt := by rw [← (show u183 = h171.2.1 70 4 from u183w)] <;> exact (ti_rfl u183)
        have g219 : (h171.2.1 70 5).toInt = u184.toInt := by rw [← (show u184 = h171.2.1 70 5 from u184w)] <;> exact (ti_rfl u184)
        refine go_invV (pc := 114) (sl := 0) (s_X8_here l (d + 2) hv171 ) mL_X8_176 iM_X8_here sM_X8_here (hv171.sh rfl) rfl rfl rfl (Nat.le_of_ble_eq_true rfl) (show d + 2 + 1 + 1 ≤ d + 4 by omega) (show 8 + (1 + 11) + 40 * (d + 2 + 1) ≤ 40 * (d + 4) by omega) (g_c0 hv171.ln) (Nat.le_of_ble_eq_true rfl) dX8_readSet_114 ?_
        intro r h220 hq _
        obtain ⟨v225, rfl, v225l, v225u, hv220, f221, f222, f223, f224⟩ := hq
        have ve220 : VE h171.2.1 h220.2.1 := VE.of hv171 hv220
        have oh220 : OH h.2.1 h220.2.1 S := oh171.trans (OH.of hv171 hv220 S)
        have kp220 : KP h.2.1 h220.2.1 := kp171.trans (KP.ve ve220)
        have ck220 : CKF h.2.1 → CKF h220.2.1 := fun z => CKF.ve ve220 (ck171 z)
        have n73_220 : V h220.2.1 73 S = V h171.2.1 73 S := ve220.v (by omega) (by omega)
        have n74_220 : V h220.2.1 74 S = V h171.2.1 74 S := ve220.v (by omega) (by omega)
        have n75_220 : V h220.2.1 75 S = V h171.2.1 75 S := ve220.v (by omega) (by omega)
        obtain ⟨u226, u226w⟩ : ∃ v : Int32, v = h220.2.1 70 4 := ⟨_, rfl⟩
        have u226e : (h220.2.1 70 4).toInt = u226.toInt := by rw [u226w]
        have u226l : 0 ≤ u226.toInt := by rw [u226w]; exact (hv220.2.1 70 4).1
        have u226u : u226.toInt ≤ 500 := by rw [u226w]; exact (hv220.2.1 70 4).2
        obtain ⟨u227, u227w⟩ : ∃ v : Int32, v = h220.2.1 70 5 := ⟨_, rfl⟩
        have u227e : (h220.2.1 70 5).toInt = u227.toInt := by rw [u227w]
        have u227l : -2147483648 ≤ u227.toInt := by rw [u227w]; exact (hv220.2.1 70 5).1
        have u227u : u227.toInt ≤ 2147483647 := by rw [u227w]; exact (hv220.2.1 70 5).2
        refine go_invS (pc := 117) (sl := 0) (s_X8_isSign l (d + 2) hv220 v225) mL_X8_220 iM_X8_isSign rfl rfl (Nat.le_of_ble_eq_true rfl) (show d + 2 + 1 + 1 ≤ d + 4 by omega) (show 8 + (1 + 11) + 40 * (d + 2 + 1) ≤ 40 * (d + 4) by omega) (g_c0 hv220.ln) (Nat.le_of_ble_eq_true rfl) dX8_readSet_117 ?_
        intro r h228 hq _
        obtain ⟨v230, rfl, v230l, v230u, rfl, f229⟩ := hq
        refine gf_if_eq (pc := 120) (tgt := 149) (ti_rfl v230) (by decide) dX8_readSet_120 (fun q231 => ?_) (fun q231 => ?_)
        ·
          refine go_aload_n (pc := 149) rfl dX8_readSet_149 ?_
          refine go_bipush (pc := 150) (v := 59) (by decide) dX8_readSet_150 ?_
          have g232 : (0 : Int) ≤ (h220.2.1 70 4).toInt := (hv220.2.1 70 4).1
          have g233 : (h220.2.1 70 4).toInt ≤ 500 := (hv220.2.1 70 4).2
          have g234 : (-2147483648 : Int) ≤ (h220.2.1 70 5).toInt := (hv220.2.1 70 5).1
          have g235 : (h220.2.1 70 5).toInt ≤ 2147483647 := (hv220.2.1 70 5).2
          have g236 : (h220.2.1 70 4).toInt = u226.toInt := by rw [← (show u226 = h220.2.1 70 4 from u226w)] <;> exact (ti_rfl u226)
          have g237 : (h220.2.1 70 5).toInt = u227.toInt := by rw [← (show u227 = h220.2.1 70 5 from u227w)] <;> exact (ti_rfl u227)
          refine go_invV (pc := 152) (sl := 0) (s_X8_must l (d + 1) hv220 59 (by rw [show (59 : Int32).toInt = 59 from (ti_c (v := 59) (a := 59) (by decide))]; omega) (by rw [show (59 : Int32).toInt = 59 from (ti_c (v := 59) (a := 59) (by decide))]; omega)) mL_X8_198 iM_X8_must sM_X8_must (hv220.sh rfl) rfl rfl rfl (Nat.le_of_ble_eq_true rfl) (show d + 1 + 2 + 1 ≤ d + 4 by omega) (show 8 + (2 + 11) + 40 * (d + 1 + 2) ≤ 40 * (d + 4) by omega) (g_c0 hv220.ln) (Nat.le_of_ble_eq_true rfl) dX8_readSet_152 ?_
          intro r h238 hq _
          obtain ⟨rfl, hv238, f239, f240, f241⟩ := hq
          try rw [show (59 : Int32).toInt = 59 from (ti_c (v := 59) (a := 59) (by decide))] at f239
          try rw [show (59 : Int32).toInt = 59 from (ti_c (v := 59) (a := 59) (by decide))] at f240
          try rw [show (59 : Int32).toInt = 59 from (ti_c (v := 59) (a := 59) (by decide))] at f241
          have ve238 : VE h220.2.1 h238.2.1 := VE.of hv220 hv238
          have oh238 : OH h.2.1 h238.2.1 S := oh220.trans (OH.of hv220 hv238 S)
          have kp238 : KP h.2.1 h238.2.1 := kp220.trans (KP.ve ve238)
          have ck238 : CKF h.2.1 → CKF h238.2.1 := fun z => CKF.ve ve238 (ck220 z)
          have n73_238 : V h238.2.1 73 S = V h220.2.1 73 S := ve238.v (by omega) (by omega)
          have n74_238 : V h238.2.1 74 S = V h220.2.1 74 S := ve238.v (by omega) (by omega)
          have n75_238 : V h238.2.1 75 S = V h220.2.1 75 S := ve238.v (by omega) (by omega)
          obtain ⟨u242, u242w⟩ : ∃ v : Int32, v = h238.2.1 70 4 := ⟨_, rfl⟩
          have u242e : (h238.2.1 70 4).toInt = u242.toInt := by rw [u242w]
          have u242l : 0 ≤ u242.toInt := by rw [u242w]; exact (hv238.2.1 70 4).1
          have u242u : u242.toInt ≤ 500 := by rw [u242w]; exact (hv238.2.1 70 4).2
          obtain ⟨u243, u243w⟩ : ∃ v : Int32, v = h238.2.1 70 5 := ⟨_, rfl⟩
          have u243e : (h238.2.1 70 5).toInt = u243.toInt := by rw [u243w]
          have u243l : -2147483648 ≤ u243.toInt := by rw [u243w]; exact (hv238.2.1 70 5).1
          have u243u : u243.toInt ≤ 2147483647 := by rw [u243w]; exact (hv238.2.1 70 5).2
          have g244 : (0 : Int) ≤ (h238.2.1 70 4).toInt := (hv238.2.1 70 4).1
          have g245 : (h238.2.1 70 4).toInt ≤ 500 := (hv238.2.1 70 4).2
          have g246 : (-2147483648 : Int) ≤ (h238.2.1 70 5).toInt := (hv238.2.1 70 5).1
          have g247 : (h238.2.1 70 5).toInt ≤ 2147483647 := (hv238.2.1 70 5).2
          have g248 : (h238.2.1 70 4).toInt = u242.toInt := by rw [← (show u242 = h238.2.1 70 4 from u242w)] <;> exact (ti_rfl u242)
          have g249 : (h238.2.1 70 5).toInt = u243.toInt := by rw [← (show u243 = h238.2.1 70 5 from u243w)] <;> exact (ti_rfl u243)
          have pp250 : (h238.2.1 70 5).toInt = 0 → (h.2.1 70 5).toInt = 0 := (by omega)
          have pp251 : (h.2.1 70 4).toInt ≤ (h238.2.1 70 4).toInt := (by omega)
          have pp252 : V h238.2.1 73 S = V h.2.1 73 S := (by omega)
          have pp253 : V h238.2.1 74 S = V h.2.1 74 S := (by omega)
          have pp254 : V h238.2.1 75 S = V h.2.1 75 S := (by omega)
          have pp255 : (h238.2.1 70 5).toInt = 0 → ∀ d : Int, V h.2.1 77 a2.toInt = 0 → V h.2.1 82 a2.toInt = a3.toInt → RT h.2.1 h238.2.1 S a2.toInt d := (fun hg d k1 k2 => RT.op (((((OP.rfl _).trans (OP.ve ve5)).trans (f176 (by omega))).trans (OP.ve ve220)).trans (OP.ve ve238)) (by omega) (by omega) (by omega))
          subst hS
          exact gi_vret (pc := 155) ⟨rfl, ⟨_, hv238, sq173⟩, pp250, pp251, pp252, pp253, pp254, pp255, kp238, oh238, ck238⟩ hv238 dX8_readSet_155
        ·
          refine go_aload_n (pc := 123) rfl dX8_readSet_123 ?_
          refine gi_getF (pc := 124) (q := 83) hv220 fL_X8_47 rfl (Nat.le_of_ble_eq_true rfl) rfl (hv220.rf (by decide)) dX8_readSet_124 ?_
          refine go_iload_n (pc := 127) rfl dX8_readSet_127 ?_
          refine go_aload_n (pc := 128) rfl dX8_readSet_128 ?_
          have k256 := (f224 (by omega)).1
          have k257 : (h220.2.1 70 3).toInt ≤ 500 := (hv220.2.1 70 3).2
          refine go_invV (pc := 129) (sl := 0) (s_X8_here_ns l (d + 2) hv220 (f224 (by omega))) mL_X8_176 iM_X8_here sM_X8_here (hv220.sh rfl) rfl rfl rfl (Nat.le_of_ble_eq_true rfl) (show d + 2 + 1 + 1 ≤ d + 4 by omega) (show 8 + (1 + 11) + 40 * (d + 2 + 1) ≤ 40 * (d + 4) by omega) (g_c0 hv220.ln) (Nat.le_of_ble_eq_true rfl) dX8_readSet_129 ?_
          intro r h258 hq _
          obtain ⟨v260, rfl, v260l, v260u, rfl, f259⟩ := hq
          refine gi_fst (pc := 132) (lo := -2147483648) (hi := 2147483647) (len := 260) hv220 (ti_rfl a2) (ti_rfl v260) rfl (by omega) (by omega) (fun _ => rfl) (ti_ge (ti_rfl v260)) (ti_le2 (ti_rfl v260)) (by omega) dX8_readSet_132 (fun h261 hv261 hv261e => ?_)
          refine go_aload_n (pc := 133) rfl dX8_readSet_133 ?_
          refine go_dup (pc := 134) rfl dX8_readSet_134 ?_
          refine gi_get (pc := 135) (lo := 0) (hi := 500) hv261 fL_X8_163 rfl (Nat.le_of_ble_eq_true rfl) rfl rfl dX8_readSet_135 (fun v262 v262l v262u v262w => ?_)
          have v262r : u226 = h261.2.1 70 4 := (show u226 = h261.2.1 70 4 from by rw [hv261e]; exact (g_iI rfl u226w.symm).symm)
          have v262q : TI v262 u226.toInt := by rw [v262w.trans v262r.symm]; exact (ti_rfl u226)
          refine go_iconst (pc := 138) (v := 1) (by decide) dX8_readSet_138 ?_
          refine gf_iadd (pc := 139) v262q (ti_c (v := 1) (a := 1) (by decide)) (by omega) (by omega) dX8_readSet_139 (fun v263 e264 => ?_)
          have E261 : h261.2.1 = (w1 h220.2.1 83 a2.toInt (v260 : Int32)) := by
            rw [hv261e]
            rfl
          have oh261 : OH h.2.1 h261.2.1 S := by rw [E261]; exact (oh220.trans (OH.w 130 rfl (by omega) (by omega) (by omega) (by omega)))
          have kp261 : KP h.2.1 h261.2.1 := by rw [E261]; exact (kp220.trans (KP.w (by omega)))
          have n73_261 : V h261.2.1 73 S = V h220.2.1 73 S := by rw [E261, V_ne (by omega)]
          have n74_261 : V h261.2.1 74 S = V h220.2.1 74 S := by rw [E261, V_ne (by omega)]
          have n75_261 : V h261.2.1 75 S = V h220.2.1 75 S := by rw [E261, V_ne (by omega)]
          have ck261 : CKF h.2.1 → CKF h261.2.1 := fun z => by rw [E261]; exact (CKF.w (by omega) (ck220 z))
          refine gi_put (pc := 140) (lo := 0) (hi := 500) hv261 e264 (fP_X8_163 _) rfl (Nat.le_of_ble_eq_true rfl) rfl rfl (by omega) (by omega) rfl rfl (by decide) (by decide) (by decide) (by decide) dX8_readSet_140 (fun h265 hv265 hv265e => ?_)
          have ve265 : VE h261.2.1 h265.2.1 := VE.of hv261 hv265
          have oh265 : OH h.2.1 h265.2.1 S := oh261.trans (OH.of hv261 hv265 S)
          have kp265 : KP h.2.1 h265.2.1 := kp261.trans (KP.ve ve265)
          have ck265 : CKF h.2.1 → CKF h265.2.1 := fun z => CKF.ve ve265 (ck261 z)
          have n73_265 : V h265.2.1 73 S = V h261.2.1 73 S := ve265.v (by omega) (by omega)
          have n74_265 : V h265.2.1 74 S = V h261.2.1 74 S := ve265.v (by omega) (by omega)
          have n75_265 : V h265.2.1 75 S = V h261.2.1 75 S := ve265.v (by omega) (by omega)
          refine go_aload_n (pc := 143) rfl dX8_readSet_143 ?_
          refine go_iload_n (pc := 144) rfl dX8_readSet_144 ?_
          refine go_iconst (pc := 145) (v := 1) (by decide) dX8_readSet_145 ?_
          have sM266 : (h265.2.1 70 6).toInt = S := (congrArg Int32.toInt oh265.side).trans hS.symm
          have g267 : (0 : Int) ≤ (h265.2.1 70 4).toInt := (hv265.2.1 70 4).1
          have g268 : (h265.2.1 70 4).toInt ≤ 500 := (hv265.2.1 70 4).2
          have g269 : (-2147483648 : Int) ≤ (h265.2.1 70 5).toInt := (hv265.2.1 70 5).1
          have g270 : (h265.2.1 70 5).toInt ≤ 2147483647 := (hv265.2.1 70 5).2
          have g271 : (h265.2.1 70 5).toInt = u227.toInt := by rw [← (show u227 = h265.2.1 70 5 from (show u227 = h265.2.1 70 5 from by rw [hv265e]; exact (g_iI rfl (show u227 = h261.2.1 70 5 from by rw [hv261e]; exact (g_iI rfl u227w.symm).symm).symm).symm))] <;> exact (ti_rfl u227)
          have g272 : (h265.2.1 70 4).toInt = (u226.toInt + 1) := by rw [← (show v263 = h265.2.1 70 4 from (show v263 = h265.2.1 70 4 from by rw [hv265e]; exact g_iS.symm))] <;> exact e264
          refine go_invV (pc := 146) (sl := 0) (s_X8_operand l (d + 0) hv265 a2 (by rw [show (a2 : Int32).toInt = a2.toInt from (ti_rfl a2)]; omega) (by rw [show (a2 : Int32).toInt = a2.toInt from (ti_rfl a2)]; omega) 1 (by rw [show (1 : Int32).toInt = 1 from (ti_c (v := 1) (a := 1) (by decide))]; omega) (by rw [show (1 : Int32).toInt = 1 from (ti_c (v := 1) (a := 1) (by decide))]; omega) (by rw [sM266]; exact hi)) mL_X8_218 iM_X8_operand sM_X8_operand (hv265.sh rfl) rfl rfl rfl (Nat.le_of_ble_eq_true rfl) (show d + 0 + 3 + 1 ≤ d + 4 by omega) (show 8 + (7 + 11) + 40 * (d + 0 + 3) ≤ 40 * (d + 4) by omega) (g_c0 hv265.ln) (Nat.le_of_ble_eq_true rfl) dX8_readSet_146 ?_
          intro r h273 hq _
          obtain ⟨rfl, ⟨Q274, hv273, sq275⟩, f276, f277, f278, f279, f280, f281, f282, f283, f284⟩ := hq
          rw [sM266] at f279
          rw [sM266] at f280
          rw [sM266] at f281
          rw [sM266] at f283
          have oh273 : OH h.2.1 h273.2.1 S := oh265.trans f283
          have kp273 : KP h.2.1 h273.2.1 := kp265.trans f282
          have ck273 : CKF h.2.1 → CKF h273.2.1 := fun z => f284 (ck265 z)
          try rw [show (1 : Int32).toInt = 1 from (ti_c (v := 1) (a := 1) (by decide))] at f276
          try rw [show (1 : Int32).toInt = 1 from (ti_c (v := 1) (a := 1) (by decide))] at f277
          try rw [show (1 : Int32).toInt = 1 from (ti_c (v := 1) (a := 1) (by decide))] at f278
          try rw [show (1 : Int32).toInt = 1 from (ti_c (v := 1) (a := 1) (by decide))] at f279
          try rw [show (1 : Int32).toInt = 1 from (ti_c (v := 1) (a := 1) (by decide))] at f280
          try rw [show (1 : Int32).toInt = 1 from (ti_c (v := 1) (a := 1) (by decide))] at f281
          try rw [show (1 : Int32).toInt = 1 from (ti_c (v := 1) (a := 1) (by decide))] at f282
          try rw [show (1 : Int32).toInt = 1 from (ti_c (v := 1) (a := 1) (by decide))] at f283
          try rw [show (1 : Int32).toInt = 1 from (ti_c (v := 1) (a := 1) (by decide))] at f284
          obtain ⟨u285, u285w⟩ : ∃ v : Int32, v = h273.2.1 70 4 := ⟨_, rfl⟩
          have u285e : (h273.2.1 70 4).toInt = u285.toInt := by rw [u285w]
          have u285l : 0 ≤ u285.toInt := by rw [u285w]; exact (hv273.2.1 70 4).1
          have u285u : u285.toInt ≤ 500 := by rw [u285w]; exact (hv273.2.1 70 4).2
          obtain ⟨u286, u286w⟩ : ∃ v : Int32, v = h273.2.1 70 5 := ⟨_, rfl⟩
          have u286e : (h273.2.1 70 5).toInt = u286.toInt := by rw [u286w]
          have u286l : -2147483648 ≤ u286.toInt := by rw [u286w]; exact (hv273.2.1 70 5).1
          have u286u : u286.toInt ≤ 2147483647 := by rw [u286w]; exact (hv273.2.1 70 5).2
          refine go_aload_n (pc := 149) rfl dX8_readSet_149 ?_
          refine go_bipush (pc := 150) (v := 59) (by decide) dX8_readSet_150 ?_
          have g287 : (0 : Int) ≤ (h273.2.1 70 4).toInt := (hv273.2.1 70 4).1
          have g288 : (h273.2.1 70 4).toInt ≤ 500 := (hv273.2.1 70 4).2
          have g289 : (-2147483648 : Int) ≤ (h273.2.1 70 5).toInt := (hv273.2.1 70 5).1
          have g290 : (h273.2.1 70 5).toInt ≤ 2147483647 := (hv273.2.1 70 5).2
          have g291 : (h273.2.1 70 4).toInt = u285.toInt := by rw [← (show u285 = h273.2.1 70 4 from u285w)] <;> exact (ti_rfl u285)
          have g292 : (h273.2.1 70 5).toInt = u286.toInt := by rw [← (show u286 = h273.2.1 70 5 from u286w)] <;> exact (ti_rfl u286)
          refine go_invV (pc := 152) (sl := 0) (s_X8_must l (d + 1) hv273 59 (by rw [show (59 : Int32).toInt = 59 from (ti_c (v := 59) (a := 59) (by decide))]; omega) (by rw [show (59 : Int32).toInt = 59 from (ti_c (v := 59) (a := 59) (by decide))]; omega)) mL_X8_198 iM_X8_must sM_X8_must (hv273.sh rfl) rfl rfl rfl (Nat.le_of_ble_eq_true rfl) (show d + 1 + 2 + 1 ≤ d + 4 by omega) (show 8 + (2 + 11) + 40 * (d + 1 + 2) ≤ 40 * (d + 4) by omega) (g_c0 hv273.ln) (Nat.le_of_ble_eq_true rfl) dX8_readSet_152 ?_
          intro r h293 hq _
          obtain ⟨rfl, hv293, f294, f295, f296⟩ := hq
          try rw [show (59 : Int32).toInt = 59 from (ti_c (v := 59) (a := 59) (by decide))] at f294
          try rw [show (59 : Int32).toInt = 59 from (ti_c (v := 59) (a := 59) (by decide))] at f295
          try rw [show (59 : Int32).toInt = 59 from (ti_c (v := 59) (a := 59) (by decide))] at f296
          have ve293 : VE h273.2.1 h293.2.1 := VE.of hv273 hv293
          have oh293 : OH h.2.1 h293.2.1 S := oh273.trans (OH.of hv273 hv293 S)
          have kp293 : KP h.2.1 h293.2.1 := kp273.trans (KP.ve ve293)
          have ck293 : CKF h.2.1 → CKF h293.2.1 := fun z => CKF.ve ve293 (ck273 z)
          have n73_293 : V h293.2.1 73 S = V h273.2.1 73 S := ve293.v (by omega) (by omega)
          have n74_293 : V h293.2.1 74 S = V h273.2.1 74 S := ve293.v (by omega) (by omega)
          have n75_293 : V h293.2.1 75 S = V h273.2.1 75 S := ve293.v (by omega) (by omega)
          obtain ⟨u297, u297w⟩ : ∃ v : Int32, v = h293.2.1 70 4 := ⟨_, rfl⟩
          have u297e : (h293.2.1 70 4).toInt = u297.toInt := by rw [u297w]
          have u297l : 0 ≤ u297.toInt := by rw [u297w]; exact (hv293.2.1 70 4).1
          have u297u : u297.toInt ≤ 500 := by rw [u297w]; exact (hv293.2.1 70 4).2
          obtain ⟨u298, u298w⟩ : ∃ v : Int32, v = h293.2.1 70 5 := ⟨_, rfl⟩
          have u298e : (h293.2.1 70 5).toInt = u298.toInt := by rw [u298w]
          have u298l : -2147483648 ≤ u298.toInt := by rw [u298w]; exact (hv293.2.1 70 5).1
          have u298u : u298.toInt ≤ 2147483647 := by rw [u298w]; exact (hv293.2.1 70 5).2
          have g299 : (0 : Int) ≤ (h293.2.1 70 4).toInt := (hv293.2.1 70 4).1
          have g300 : (h293.2.1 70 4).toInt ≤ 500 := (hv293.2.1 70 4).2
          have g301 : (-2147483648 : Int) ≤ (h293.2.1 70 5).toInt := (hv293.2.1 70 5).1
          have g302 : (h293.2.1 70 5).toInt ≤ 2147483647 := (hv293.2.1 70 5).2
          have g303 : (h293.2.1 70 4).toInt = u297.toInt := by rw [← (show u297 = h293.2.1 70 4 from u297w)] <;> exact (ti_rfl u297)
          have g304 : (h293.2.1 70 5).toInt = u298.toInt := by rw [← (show u298 = h293.2.1 70 5 from u298w)] <;> exact (ti_rfl u298)
          have pp305 : (h293.2.1 70 5).toInt = 0 → (h.2.1 70 5).toInt = 0 := (by omega)
          have pp306 : (h.2.1 70 4).toInt ≤ (h293.2.1 70 4).toInt := (by omega)
          have pp307 : V h293.2.1 73 S = V h.2.1 73 S := (by omega)
          have pp308 : V h293.2.1 74 S = V h.2.1 74 S := (by omega)
          have pp309 : V h293.2.1 75 S = V h.2.1 75 S := (by omega)
          have pp310 : (h293.2.1 70 5).toInt = 0 → ∀ d : Int, V h.2.1 77 a2.toInt = 0 → V h.2.1 82 a2.toInt = a3.toInt → RT h.2.1 h293.2.1 S a2.toInt d := (fun hg d k1 k2 => RT.op ((((((((OP.rfl _).trans (OP.ve ve5)).trans (f176 (by omega))).trans (OP.ve ve220)).trans (by rw [E261]; exact ((OP.rfl _).trans OP.w3))).trans (OP.ve ve265)).trans (f278 (by omega))).trans (OP.ve ve293)) (by omega) (by omega) (by omega))
          subst hS
          exact gi_vret (pc := 155) ⟨rfl, ⟨_, hv293, (MW.trans (MW.trans sq173 (MW.mz _ _)) sq275)⟩, pp305, pp306, pp307, pp308, pp309, pp310, kp293, oh293, ck293⟩ hv293 dX8_readSet_155
    ·
      refine go_aload_n (pc := 19) rfl dX8_readSet_19 ?_
      have g311 : (0 : Int) ≤ (h5.2.1 70 4).toInt := (hv5.2.1 70 4).1
      have g312 : (h5.2.1 70 4).toInt ≤ 500 := (hv5.2.1 70 4).2
      have g313 : (-2147483648 : Int) ≤ (h5.2.1 70 5).toInt := (hv5.2.1 70 5).1
      have g314 : (h5.2.1 70 5).toInt ≤ 2147483647 := (hv5.2.1 70 5).2
      have g315 : (h5.2.1 70 4).toInt = u9.toInt := by rw [← (show u9 = h5.2.1 70 4 from u9w)] <;> exact (ti_rfl u9)
      have g316 : (h5.2.1 70 5).toInt = u10.toInt := by rw [← (show u10 = h5.2.1 70 5 from u10w)] <;> exact (ti_rfl u10)
      refine go_invV (pc := 20) (sl := 0) (s_X8_here l (d + 2) hv5 ) mL_X8_176 iM_X8_here sM_X8_here (hv5.sh rfl) rfl rfl rfl (Nat.le_of_ble_eq_true rfl) (show d + 2 + 1 + 1 ≤ d + 4 by omega) (show 8 + (1 + 11) + 40 * (d + 2 + 1) ≤ 40 * (d + 4) by omega) (g_c0 hv5.ln) (Nat.le_of_ble_eq_true rfl) dX8_readSet_20 ?_
      intro r h317 hq _
      obtain ⟨v322, rfl, v322l, v322u, hv317, f318, f319, f320, f321⟩ := hq
      have ve317 : VE h5.2.1 h317.2.1 := VE.of hv5 hv317
      have oh317 : OH h.2.1 h317.2.1 S := oh5.trans (OH.of hv5 hv317 S)
      have kp317 : KP h.2.1 h317.2.1 := kp5.trans (KP.ve ve317)
      have ck317 : CKF h.2.1 → CKF h317.2.1 := fun z => CKF.ve ve317 (ck5 z)
      have n73_317 : V h317.2.1 73 S = V h5.2.1 73 S := ve317.v (by omega) (by omega)
      have n74_317 : V h317.2.1 74 S = V h5.2.1 74 S := ve317.v (by omega) (by omega)
      have n75_317 : V h317.2.1 75 S = V h5.2.1 75 S := ve317.v (by omega) (by omega)
      obtain ⟨u323, u323w⟩ : ∃ v : Int32, v = h317.2.1 70 4 := ⟨_, rfl⟩
      have u323e : (h317.2.1 70 4).toInt = u323.toInt := by rw [u323w]
      have u323l : 0 ≤ u323.toInt := by rw [u323w]; exact (hv317.2.1 70 4).1
      have u323u : u323.toInt ≤ 500 := by rw [u323w]; exact (hv317.2.1 70 4).2
      obtain ⟨u324, u324w⟩ : ∃ v : Int32, v = h317.2.1 70 5 := ⟨_, rfl⟩
      have u324e : (h317.2.1 70 5).toInt = u324.toInt := by rw [u324w]
      have u324l : -2147483648 ≤ u324.toInt := by rw [u324w]; exact (hv317.2.1 70 5).1
      have u324u : u324.toInt ≤ 2147483647 := by rw [u324w]; exact (hv317.2.1 70 5).2
      refine go_bipush (pc := 23) (v := 65) (by decide) dX8_readSet_23 ?_
      refine go_bipush (pc := 25) (v := 69) (by decide) dX8_readSet_25 ?_
      refine go_invS (pc := 27) (sl := 0) (s_X8_isIn l (d + 2) hv317 v322 65 69) mL_X8_159 iM_X8_isIn rfl rfl (Nat.le_of_ble_eq_true rfl) (show d + 2 + 1 + 1 ≤ d + 4 by omega) (show 8 + (3 + 11) + 40 * (d + 2 + 1) ≤ 40 * (d + 4) by omega) (g_c0 hv317.ln) (Nat.le_of_ble_eq_true rfl) dX8_readSet_27 ?_
      intro r h325 hq _
      obtain ⟨v328, rfl, v328l, v328u, rfl, f326, f327⟩ := hq
      try rw [show (65 : Int32).toInt = 65 from (ti_c (v := 65) (a := 65) (by decide))] at f326
      try rw [show (69 : Int32).toInt = 69 from (ti_c (v := 69) (a := 69) (by decide))] at f326
      try rw [show (65 : Int32).toInt = 65 from (ti_c (v := 65) (a := 65) (by decide))] at f327
      try rw [show (69 : Int32).toInt = 69 from (ti_c (v := 69) (a := 69) (by decide))] at f327
      refine gf_if_eq (pc := 30) (tgt := 100) (ti_rfl v328) (by decide) dX8_readSet_30 (fun q329 => ?_) (fun q329 => ?_)
      ·
        refine go_aload_n (pc := 100) rfl dX8_readSet_100 ?_
        refine go_iload_n (pc := 101) rfl dX8_readSet_101 ?_
        refine go_iconst (pc := 102) (v := 0) (by decide) dX8_readSet_102 ?_
        have sM330 : (h317.2.1 70 6).toInt = S := (congrArg Int32.toInt oh317.side).trans hS.symm
        have g331 : (0 : Int) ≤ (h317.2.1 70 4).toInt := (hv317.2.1 70 4).1
        have g332 : (h317.2.1 70 4).toInt ≤ 500 := (hv317.2.1 70 4).2
        have g333 : (-2147483648 : Int) ≤ (h317.2.1 70 5).toInt := (hv317.2.1 70 5).1
        have g334 : (h317.2.1 70 5).toInt ≤ 2147483647 := (hv317.2.1 70 5).2
        have g335 : (h317.2.1 70 4).toInt = u323.toInt := by rw [← (show u323 = h317.2.1 70 4 from u323w)] <;> exact (ti_rfl u323)
        have g336 : (h317.2.1 70 5).toInt = u324.toInt := by rw [← (show u324 = h317.2.1 70 5 from u324w)] <;> exact (ti_rfl u324)
        refine go_invV (pc := 103) (sl := 0) (s_X8_operand l (d + 0) hv317 a2 (by rw [show (a2 : Int32).toInt = a2.toInt from (ti_rfl a2)]; omega) (by rw [show (a2 : Int32).toInt = a2.toInt from (ti_rfl a2)]; omega) 0 (by rw [show (0 : Int32).toInt = 0 from (ti_c (v := 0) (a := 0) (by decide))]; omega) (by rw [show (0 : Int32).toInt = 0 from (ti_c (v := 0) (a := 0) (by decide))]; omega) (by rw [sM330]; exact hi)) mL_X8_218 iM_X8_operand sM_X8_operand (hv317.sh rfl) rfl rfl rfl (Nat.le_of_ble_eq_true rfl) (show d + 0 + 3 + 1 ≤ d + 4 by omega) (show 8 + (7 + 11) + 40 * (d + 0 + 3) ≤ 40 * (d + 4) by omega) (g_c0 hv317.ln) (Nat.le_of_ble_eq_true rfl) dX8_readSet_103 ?_
        intro r h337 hq _
        obtain ⟨rfl, ⟨Q338, hv337, sq339⟩, f340, f341, f342, f343, f344, f345, f346, f347, f348⟩ := hq
        rw [sM330] at f343
        rw [sM330] at f344
        rw [sM330] at f345
        rw [sM330] at f347
        have oh337 : OH h.2.1 h337.2.1 S := oh317.trans f347
        have kp337 : KP h.2.1 h337.2.1 := kp317.trans f346
        have ck337 : CKF h.2.1 → CKF h337.2.1 := fun z => f348 (ck317 z)
        try rw [show (0 : Int32).toInt = 0 from (ti_c (v := 0) (a := 0) (by decide))] at f340
        try rw [show (0 : Int32).toInt = 0 from (ti_c (v := 0) (a := 0) (by decide))] at f341
        try rw [show (0 : Int32).toInt = 0 from (ti_c (v := 0) (a := 0) (by decide))] at f342
        try rw [show (0 : Int32).toInt = 0 from (ti_c (v := 0) (a := 0) (by decide))] at f343
        try rw [show (0 : Int32).toInt = 0 from (ti_c (v := 0) (a := 0) (by decide))] at f344
        try rw [show (0 : Int32).toInt = 0 from (ti_c (v := 0) (a := 0) (by decide))] at f345
        try rw [show (0 : Int32).toInt = 0 from (ti_c (v := 0) (a := 0) (by decide))] at f346
        try rw [show (0 : Int32).toInt = 0 from (ti_c (v := 0) (a := 0) (by decide))] at f347
        try rw [show (0 : Int32).toInt = 0 from (ti_c (v := 0) (a := 0) (by decide))] at f348
        obtain ⟨u349, u349w⟩ : ∃ v : Int32, v = h337.2.1 70 4 := ⟨_, rfl⟩
        have u349e : (h337.2.1 70 4).toInt = u349.toInt := by rw [u349w]
        have u349l : 0 ≤ u349.toInt := by rw [u349w]; exact (hv337.2.1 70 4).1
        have u349u : u349.toInt ≤ 500 := by rw [u349w]; exact (hv337.2.1 70 4).2
        obtain ⟨u350, u350w⟩ : ∃ v : Int32, v = h337.2.1 70 5 := ⟨_, rfl⟩
        have u350e : (h337.2.1 70 5).toInt = u350.toInt := by rw [u350w]
        have u350l : -2147483648 ≤ u350.toInt := by rw [u350w]; exact (hv337.2.1 70 5).1
        have u350u : u350.toInt ≤ 2147483647 := by rw [u350w]; exact (hv337.2.1 70 5).2
        refine go_aload_n (pc := 106) rfl dX8_readSet_106 ?_
        refine go_invV (pc := 107) (sl := 0) (s_X8_isGood l (d + 2) hv337 ) mL_X8_172 iM_X8_isGood sM_X8_isGood (hv337.sh rfl) rfl rfl rfl (Nat.le_of_ble_eq_true rfl) (show d + 2 + 1 + 1 ≤ d + 4 by omega) (show 8 + (1 + 11) + 40 * (d + 2 + 1) ≤ 40 * (d + 4) by omega) (g_c0 hv337.ln) (Nat.le_of_ble_eq_true rfl) dX8_readSet_107 ?_
        intro r h351 hq _
        obtain ⟨v354, rfl, v354l, v354u, rfl, f352, f353⟩ := hq
        refine gf_if_eq (pc := 110) (tgt := 149) (ti_rfl v354) (by decide) dX8_readSet_110 (fun q355 => ?_) (fun q355 => ?_)
        ·
          refine go_aload_n (pc := 149) rfl dX8_readSet_149 ?_
          refine go_bipush (pc := 150) (v := 59) (by decide) dX8_readSet_150 ?_
          have g356 : (0 : Int) ≤ (h337.2.1 70 4).toInt := (hv337.2.1 70 4).1
          have g357 : (h337.2.1 70 4).toInt ≤ 500 := (hv337.2.1 70 4).2
          have g358 : (-2147483648 : Int) ≤ (h337.2.1 70 5).toInt := (hv337.2.1 70 5).1
          have g359 : (h337.2.1 70 5).toInt ≤ 2147483647 := (hv337.2.1 70 5).2
          have g360 : (h337.2.1 70 4).toInt = u349.toInt := by rw [← (show u349 = h337.2.1 70 4 from u349w)] <;> exact (ti_rfl u349)
          have g361 : (h337.2.1 70 5).toInt = u350.toInt := by rw [← (show u350 = h337.2.1 70 5 from u350w)] <;> exact (ti_rfl u350)
          refine go_invV (pc := 152) (sl := 0) (s_X8_must l (d + 1) hv337 59 (by rw [show (59 : Int32).toInt = 59 from (ti_c (v := 59) (a := 59) (by decide))]; omega) (by rw [show (59 : Int32).toInt = 59 from (ti_c (v := 59) (a := 59) (by decide))]; omega)) mL_X8_198 iM_X8_must sM_X8_must (hv337.sh rfl) rfl rfl rfl (Nat.le_of_ble_eq_true rfl) (show d + 1 + 2 + 1 ≤ d + 4 by omega) (show 8 + (2 + 11) + 40 * (d + 1 + 2) ≤ 40 * (d + 4) by omega) (g_c0 hv337.ln) (Nat.le_of_ble_eq_true rfl) dX8_readSet_152 ?_
          intro r h362 hq _
          obtain ⟨rfl, hv362, f363, f364, f365⟩ := hq
          try rw [show (59 : Int32).toInt = 59 from (ti_c (v := 59) (a := 59) (by decide))] at f363
          try rw [show (59 : Int32).toInt = 59 from (ti_c (v := 59) (a := 59) (by decide))] at f364
          try rw [show (59 : Int32).toInt = 59 from (ti_c (v := 59) (a := 59) (by decide))] at f365
          have ve362 : VE h337.2.1 h362.2.1 := VE.of hv337 hv362
          have oh362 : OH h.2.1 h362.2.1 S := oh337.trans (OH.of hv337 hv362 S)
          have kp362 : KP h.2.1 h362.2.1 := kp337.trans (KP.ve ve362)
          have ck362 : CKF h.2.1 → CKF h362.2.1 := fun z => CKF.ve ve362 (ck337 z)
          have n73_362 : V h362.2.1 73 S = V h337.2.1 73 S := ve362.v (by omega) (by omega)
          have n74_362 : V h362.2.1 74 S = V h337.2.1 74 S := ve362.v (by omega) (by omega)
          have n75_362 : V h362.2.1 75 S = V h337.2.1 75 S := ve362.v (by omega) (by omega)
          obtain ⟨u366, u366w⟩ : ∃ v : Int32, v = h362.2.1 70 4 := ⟨_, rfl⟩
          have u366e : (h362.2.1 70 4).toInt = u366.toInt := by rw [u366w]
          have u366l : 0 ≤ u366.toInt := by rw [u366w]; exact (hv362.2.1 70 4).1
          have u366u : u366.toInt ≤ 500 := by rw [u366w]; exact (hv362.2.1 70 4).2
          obtain ⟨u367, u367w⟩ : ∃ v : Int32, v = h362.2.1 70 5 := ⟨_, rfl⟩
          have u367e : (h362.2.1 70 5).toInt = u367.toInt := by rw [u367w]
          have u367l : -2147483648 ≤ u367.toInt := by rw [u367w]; exact (hv362.2.1 70 5).1
          have u367u : u367.toInt ≤ 2147483647 := by rw [u367w]; exact (hv362.2.1 70 5).2
          have g368 : (0 : Int) ≤ (h362.2.1 70 4).toInt := (hv362.2.1 70 4).1
          have g369 : (h362.2.1 70 4).toInt ≤ 500 := (hv362.2.1 70 4).2
          have g370 : (-2147483648 : Int) ≤ (h362.2.1 70 5).toInt := (hv362.2.1 70 5).1
          have g371 : (h362.2.1 70 5).toInt ≤ 2147483647 := (hv362.2.1 70 5).2
          have g372 : (h362.2.1 70 4).toInt = u366.toInt := by rw [← (show u366 = h362.2.1 70 4 from u366w)] <;> exact (ti_rfl u366)
          have g373 : (h362.2.1 70 5).toInt = u367.toInt := by rw [← (show u367 = h362.2.1 70 5 from u367w)] <;> exact (ti_rfl u367)
          have pp374 : (h362.2.1 70 5).toInt = 0 → (h.2.1 70 5).toInt = 0 := (by omega)
          have pp375 : (h.2.1 70 4).toInt ≤ (h362.2.1 70 4).toInt := (by omega)
          have pp376 : V h362.2.1 73 S = V h.2.1 73 S := (by omega)
          have pp377 : V h362.2.1 74 S = V h.2.1 74 S := (by omega)
          have pp378 : V h362.2.1 75 S = V h.2.1 75 S := (by omega)
          have pp379 : (h362.2.1 70 5).toInt = 0 → ∀ d : Int, V h.2.1 77 a2.toInt = 0 → V h.2.1 82 a2.toInt = a3.toInt → RT h.2.1 h362.2.1 S a2.toInt d := (fun hg d k1 k2 => RT.op (((((OP.rfl _).trans (OP.ve ve5)).trans (OP.ve ve317)).trans (f342 (by omega))).trans (OP.ve ve362)) (by omega) (by omega) (by omega))
          subst hS
          exact gi_vret (pc := 155) ⟨rfl, ⟨_, hv362, sq339⟩, pp374, pp375, pp376, pp377, pp378, pp379, kp362, oh362, ck362⟩ hv362 dX8_readSet_155
        ·
          refine go_aload_n (pc := 113) rfl dX8_readSet_113 ?_
          have g380 : (0 : Int) ≤ (h337.2.1 70 4).toInt := (hv337.2.1 70 4).1
          have g381 : (h337.2.1 70 4).toInt ≤ 500 := (hv337.2.1 70 4).2
          have g382 : (-2147483648 : Int) ≤ (h337.2.1 70 5).toInt := (hv337.2.1 70 5).1
          have g383 : (h337.2.1 70 5).toInt ≤ 2147483647 := (hv337.2.1 70 5).2
          have g384 : (h337.2.1 70 4).toInt = u349.toInt := by rw [← (show u349 = h337.2.1 70 4 from u349w)] <;> exact (ti_rfl u349)
          have g385 : (h337.2.1 70 5).toInt = u350.toInt := by rw [← (show u350 = h337.2.1 70 5 from u350w)] <;> exact (ti_rfl u350)
          refine go_invV (pc := 114) (sl := 0) (s_X8_here l (d + 2) hv337 ) mL_X8_176 iM_X8_here sM_X8_here (hv337.sh rfl) rfl rfl rfl (Nat.le_of_ble_eq_true rfl) (show d + 2 + 1 + 1 ≤ d + 4 by omega) (show 8 + (1 + 11) + 40 * (d + 2 + 1) ≤ 40 * (d + 4) by omega) (g_c0 hv337.ln) (Nat.le_of_ble_eq_true rfl) dX8_readSet_114 ?_
          intro r h386 hq _
          obtain ⟨v391, rfl, v391l, v391u, hv386, f387, f388, f389, f390⟩ := hq
          have ve386 : VE h337.2.1 h386.2.1 := VE.of hv337 hv386
          have oh386 : OH h.2.1 h386.2.1 S := oh337.trans (OH.of hv337 hv386 S)
          have kp386 : KP h.2.1 h386.2.1 := kp337.trans (KP.ve ve386)
          have ck386 : CKF h.2.1 → CKF h386.2.1 := fun z => CKF.ve ve386 (ck337 z)
          have n73_386 : V h386.2.1 73 S = V h337.2.1 73 S := ve386.v (by omega) (by omega)
          have n74_386 : V h386.2.1 74 S = V h337.2.1 74 S := ve386.v (by omega) (by omega)
          have n75_386 : V h386.2.1 75 S = V h337.2.1 75 S := ve386.v (by omega) (by omega)
          obtain ⟨u392, u392w⟩ : ∃ v : Int32, v = h386.2.1 70 4 := ⟨_, rfl⟩
          have u392e : (h386.2.1 70 4).toInt = u392.toInt := by rw [u392w]
          have u392l : 0 ≤ u392.toInt := by rw [u392w]; exact (hv386.2.1 70 4).1
          have u392u : u392.toInt ≤ 500 := by rw [u392w]; exact (hv386.2.1 70 4).2
          obtain ⟨u393, u393w⟩ : ∃ v : Int32, v = h386.2.1 70 5 := ⟨_, rfl⟩
          have u393e : (h386.2.1 70 5).toInt = u393.toInt := by rw [u393w]
          have u393l : -2147483648 ≤ u393.toInt := by rw [u393w]; exact (hv386.2.1 70 5).1
          have u393u : u393.toInt ≤ 2147483647 := by rw [u393w]; exact (hv386.2.1 70 5).2
          refine go_invS (pc := 117) (sl := 0) (s_X8_isSign l (d + 2) hv386 v391) mL_X8_220 iM_X8_isSign rfl rfl (Nat.le_of_ble_eq_true rfl) (show d + 2 + 1 + 1 ≤ d + 4 by omega) (show 8 + (1 + 11) + 40 * (d + 2 + 1) ≤ 40 * (d + 4) by omega) (g_c0 hv386.ln) (Nat.le_of_ble_eq_true rfl) dX8_readSet_117 ?_
          intro r h394 hq _
          obtain ⟨v396, rfl, v396l, v396u, rfl, f395⟩ := hq
          refine gf_if_eq (pc := 120) (tgt := 149) (ti_rfl v396) (by decide) dX8_readSet_120 (fun q397 => ?_) (fun q397 => ?_)
          ·
            refine go_aload_n (pc := 149) rfl dX8_readSet_149 ?_
            refine go_bipush (pc := 150) (v := 59) (by decide) dX8_readSet_150 ?_
            have g398 : (0 : Int) ≤ (h386.2.1 70 4).toInt := (hv386.2.1 70 4).1
            have g399 : (h386.2.1 70 4).toInt ≤ 500 := (hv386.2.1 70 4).2
            have g400 : (-2147483648 : Int) ≤ (h386.2.1 70 5).toInt := (hv386.2.1 70 5).1
            have g401 : (h386.2.1 70 5).toInt ≤ 2147483647 := (hv386.2.1 70 5).2
            have g402 : (h386.2.1 70 4).toInt = u392.toInt := by rw [← (show u392 = h386.2.1 70 4 from u392w)] <;> exact (ti_rfl u392)
            have g403 : (h386.2.1 70 5).toInt = u393.toInt := by rw [← (show u393 = h386.2.1 70 5 from u393w)] <;> exact (ti_rfl u393)
            refine go_invV (pc := 152) (sl := 0) (s_X8_must l (d + 1) hv386 59 (by rw [show (59 : Int32).toInt = 59 from (ti_c (v := 59) (a := 59) (by decide))]; omega) (by rw [show (59 : Int32).toInt = 59 from (ti_c (v := 59) (a := 59) (by decide))]; omega)) mL_X8_198 iM_X8_must sM_X8_must (hv386.sh rfl) rfl rfl rfl (Nat.le_of_ble_eq_true rfl) (show d + 1 + 2 + 1 ≤ d + 4 by omega) (show 8 + (2 + 11) + 40 * (d + 1 + 2) ≤ 40 * (d + 4) by omega) (g_c0 hv386.ln) (Nat.le_of_ble_eq_true rfl) dX8_readSet_152 ?_
            intro r h404 hq _
            obtain ⟨rfl, hv404, f405, f406, f407⟩ := hq
            try rw [show (59 : Int32).toInt = 59 from (ti_c (v := 59) (a := 59) (by decide))] at f405
            try rw [show (59 : Int32).toInt = 59 from (ti_c (v := 59) (a := 59) (by decide))] at f406
            try rw [show (59 : Int32).toInt = 59 from (ti_c (v := 59) (a := 59) (by decide))] at f407
            have ve404 : VE h386.2.1 h404.2.1 := VE.of hv386 hv404
            have oh404 : OH h.2.1 h404.2.1 S := oh386.trans (OH.of hv386 hv404 S)
            have kp404 : KP h.2.1 h404.2.1 := kp386.trans (KP.ve ve404)
            have ck404 : CKF h.2.1 → CKF h404.2.1 := fun z => CKF.ve ve404 (ck386 z)
            have n73_404 : V h404.2.1 73 S = V h386.2.1 73 S := ve404.v (by omega) (by omega)
            have n74_404 : V h404.2.1 74 S = V h386.2.1 74 S := ve404.v (by omega) (by omega)
            have n75_404 : V h404.2.1 75 S = V h386.2.1 75 S := ve404.v (by omega) (by omega)
            obtain ⟨u408, u408w⟩ : ∃ v : Int32, v = h404.2.1 70 4 := ⟨_, rfl⟩
            have u408e : (h404.2.1 70 4).toInt = u408.toInt := by rw [u408w]
            have u408l : 0 ≤ u408.toInt := by rw [u408w]; exact (hv404.2.1 70 4).1
            have u408u : u408.toInt ≤ 500 := by rw [u408w]; exact (hv404.2.1 70 4).2
            obtain ⟨u409, u409w⟩ : ∃ v : Int32, v = h404.2.1 70 5 := ⟨_, rfl⟩
            have u409e : (h404.2.1 70 5).toInt = u409.toInt := by rw [u409w]
            have u409l : -2147483648 ≤ u409.toInt := by rw [u409w]; exact (hv404.2.1 70 5).1
            have u409u : u409.toInt ≤ 2147483647 := by rw [u409w]; exact (hv404.2.1 70 5).2
            have g410 : (0 : Int) ≤ (h404.2.1 70 4).toInt := (hv404.2.1 70 4).1
            have g411 : (h404.2.1 70 4).toInt ≤ 500 := (hv404.2.1 70 4).2
            have g412 : (-2147483648 : Int) ≤ (h404.2.1 70 5).toInt := (hv404.2.1 70 5).1
            have g413 : (h404.2.1 70 5).toInt ≤ 2147483647 := (hv404.2.1 70 5).2
            have g414 : (h404.2.1 70 4).toInt = u408.toInt := by rw [← (show u408 = h404.2.1 70 4 from u408w)] <;> exact (ti_rfl u408)
            have g415 : (h404.2.1 70 5).toInt = u409.toInt := by rw [← (show u409 = h404.2.1 70 5 from u409w)] <;> exact (ti_rfl u409)
            have pp416 : (h404.2.1 70 5).toInt = 0 → (h.2.1 70 5).toInt = 0 := (by omega)
            have pp417 : (h.2.1 70 4).toInt ≤ (h404.2.1 70 4).toInt := (by omega)
            have pp418 : V h404.2.1 73 S = V h.2.1 73 S := (by omega)
            have pp419 : V h404.2.1 74 S = V h.2.1 74 S := (by omega)
            have pp420 : V h404.2.1 75 S = V h.2.1 75 S := (by omega)
            have pp421 : (h404.2.1 70 5).toInt = 0 → ∀ d : Int, V h.2.1 77 a2.toInt = 0 → V h.2.1 82 a2.toInt = a3.toInt → RT h.2.1 h404.2.1 S a2.toInt d := (fun hg d k1 k2 => RT.op ((((((OP.rfl _).trans (OP.ve ve5)).trans (OP.ve ve317)).trans (f342 (by omega))).trans (OP.ve ve386)).trans (OP.ve ve404)) (by omega) (by omega) (by omega))
            subst hS
            exact gi_vret (pc := 155) ⟨rfl, ⟨_, hv404, sq339⟩, pp416, pp417, pp418, pp419, pp420, pp421, kp404, oh404, ck404⟩ hv404 dX8_readSet_155
          ·
            refine go_aload_n (pc := 123) rfl dX8_readSet_123 ?_
            refine gi_getF (pc := 124) (q := 83) hv386 fL_X8_47 rfl (Nat.le_of_ble_eq_true rfl) rfl (hv386.rf (by decide)) dX8_readSet_124 ?_
            refine go_iload_n (pc := 127) rfl dX8_readSet_127 ?_
            refine go_aload_n (pc := 128) rfl dX8_readSet_128 ?_
            have k422 := (f390 (by omega)).1
            have k423 : (h386.2.1 70 3).toInt ≤ 500 := (hv386.2.1 70 3).2
            refine go_invV (pc := 129) (sl := 0) (s_X8_here_ns l (d + 2) hv386 (f390 (by omega))) mL_X8_176 iM_X8_here sM_X8_here (hv386.sh rfl) rfl rfl rfl (Nat.le_of_ble_eq_true rfl) (show d + 2 + 1 + 1 ≤ d + 4 by omega) (show 8 + (1 + 11) + 40 * (d + 2 + 1) ≤ 40 * (d + 4) by omega) (g_c0 hv386.ln) (Nat.le_of_ble_eq_true rfl) dX8_readSet_129 ?_
            intro r h424 hq _
            obtain ⟨v426, rfl, v426l, v426u, rfl, f425⟩ := hq
            refine gi_fst (pc := 132) (lo := -2147483648) (hi := 2147483647) (len := 260) hv386 (ti_rfl a2) (ti_rfl v426) rfl (by omega) (by omega) (fun _ => rfl) (ti_ge (ti_rfl v426)) (ti_le2 (ti_rfl v426)) (by omega) dX8_readSet_132 (fun h427 hv427 hv427e => ?_)
            refine go_aload_n (pc := 133) rfl dX8_readSet_133 ?_
            refine go_dup (pc := 134) rfl dX8_readSet_134 ?_
            refine gi_get (pc := 135) (lo := 0) (hi := 500) hv427 fL_X8_163 rfl (Nat.le_of_ble_eq_true rfl) rfl rfl dX8_readSet_135 (fun v428 v428l v428u v428w => ?_)
            have v428r : u392 = h427.2.1 70 4 := (show u392 = h427.2.1 70 4 from by rw [hv427e]; exact (g_iI rfl u392w.symm).symm)
            have v428q : TI v428 u392.toInt := by rw [v428w.trans v428r.symm]; exact (ti_rfl u392)
            refine go_iconst (pc := 138) (v := 1) (by decide) dX8_readSet_138 ?_
            refine gf_iadd (pc := 139) v428q (ti_c (v := 1) (a := 1) (by decide)) (by omega) (by omega) dX8_readSet_139 (fun v429 e430 => ?_)
            have E427 : h427.2.1 = (w1 h386.2.1 83 a2.toInt (v426 : Int32)) := by
              rw [hv427e]
              rfl
            have oh427 : OH h.2.1 h427.2.1 S := by rw [E427]; exact (oh386.trans (OH.w 130 rfl (by omega) (by omega) (by omega) (by omega)))
            have kp427 : KP h.2.1 h427.2.1 := by rw [E427]; exact (kp386.trans (KP.w (by omega)))
            have n73_427 : V h427.2.1 73 S = V h386.2.1 73 S := by rw [E427, V_ne (by omega)]
            have n74_427 : V h427.2.1 74 S = V h386.2.1 74 S := by rw [E427, V_ne (by omega)]
            have n75_427 : V h427.2.1 75 S = V h386.2.1 75 S := by rw [E427, V_ne (by omega)]
            have ck427 : CKF h.2.1 → CKF h427.2.1 := fun z => by rw [E427]; exact (CKF.w (by omega) (ck386 z))
            refine gi_put (pc := 140) (lo := 0) (hi := 500) hv427 e430 (fP_X8_163 _) rfl (Nat.le_of_ble_eq_true rfl) rfl rfl (by omega) (by omega) rfl rfl (by decide) (by decide) (by decide) (by decide) dX8_readSet_140 (fun h431 hv431 hv431e => ?_)
            have ve431 : VE h427.2.1 h431.2.1 := VE.of hv427 hv431
            have oh431 : OH h.2.1 h431.2.1 S := oh427.trans (OH.of hv427 hv431 S)
            have kp431 : KP h.2.1 h431.2.1 := kp427.trans (KP.ve ve431)
            have ck431 : CKF h.2.1 → CKF h431.2.1 := fun z => CKF.ve ve431 (ck427 z)
            have n73_431 : V h431.2.1 73 S = V h427.2.1 73 S := ve431.v (by omega) (by omega)
            have n74_431 : V h431.2.1 74 S = V h427.2.1 74 S := ve431.v (by omega) (by omega)
            have n75_431 : V h431.2.1 75 S = V h427.2.1 75 S := ve431.v (by omega) (by omega)
            refine go_aload_n (pc := 143) rfl dX8_readSet_143 ?_
            refine go_iload_n (pc := 144) rfl dX8_readSet_144 ?_
            refine go_iconst (pc := 145) (v := 1) (by decide) dX8_readSet_145 ?_
            have sM432 : (h431.2.1 70 6).toInt = S := (congrArg Int32.toInt oh431.side).trans hS.symm
            have g433 : (0 : Int) ≤ (h431.2.1 70 4).toInt := (hv431.2.1 70 4).1
            have g434 : (h431.2.1 70 4).toInt ≤ 500 := (hv431.2.1 70 4).2
            have g435 : (-2147483648 : Int) ≤ (h431.2.1 70 5).toInt := (hv431.2.1 70 5).1
            have g436 : (h431.2.1 70 5).toInt ≤ 2147483647 := (hv431.2.1 70 5).2
            have g437 : (h431.2.1 70 5).toInt = u393.toInt := by rw [← (show u393 = h431.2.1 70 5 from (show u393 = h431.2.1 70 5 from by rw [hv431e]; exact (g_iI rfl (show u393 = h427.2.1 70 5 from by rw [hv427e]; exact (g_iI rfl u393w.symm).symm).symm).symm))] <;> exact (ti_rfl u393)
            have g438 : (h431.2.1 70 4).toInt = (u392.toInt + 1) := by rw [← (show v429 = h431.2.1 70 4 from (show v429 = h431.2.1 70 4 from by rw [hv431e]; exact g_iS.symm))] <;> exact e430
            refine go_invV (pc := 146) (sl := 0) (s_X8_operand l (d + 0) hv431 a2 (by rw [show (a2 : Int32).toInt = a2.toInt from (ti_rfl a2)]; omega) (by rw [show (a2 : Int32).toInt = a2.toInt from (ti_rfl a2)]; omega) 1 (by rw [show (1 : Int32).toInt = 1 from (ti_c (v := 1) (a := 1) (by decide))]; omega) (by rw [show (1 : Int32).toInt = 1 from (ti_c (v := 1) (a := 1) (by decide))]; omega) (by rw [sM432]; exact hi)) mL_X8_218 iM_X8_operand sM_X8_operand (hv431.sh rfl) rfl rfl rfl (Nat.le_of_ble_eq_true rfl) (show d + 0 + 3 + 1 ≤ d + 4 by omega) (show 8 + (7 + 11) + 40 * (d + 0 + 3) ≤ 40 * (d + 4) by omega) (g_c0 hv431.ln) (Nat.le_of_ble_eq_true rfl) dX8_readSet_146 ?_
            intro r h439 hq _
            obtain ⟨rfl, ⟨Q440, hv439, sq441⟩, f442, f443, f444, f445, f446, f447, f448, f449, f450⟩ := hq
            rw [sM432] at f445
            rw [sM432] at f446
            rw [sM432] at f447
            rw [sM432] at f449
            have oh439 : OH h.2.1 h439.2.1 S := oh431.trans f449
            have kp439 : KP h.2.1 h439.2.1 := kp431.trans f448
            have ck439 : CKF h.2.1 → CKF h439.2.1 := fun z => f450 (ck431 z)
            try rw [show (1 : Int32).toInt = 1 from (ti_c (v := 1) (a := 1) (by decide))] at f442
            try rw [show (1 : Int32).toInt = 1 from (ti_c (v := 1) (a := 1) (by decide))] at f443
            try rw [show (1 : Int32).toInt = 1 from (ti_c (v := 1) (a := 1) (by decide))] at f444
            try rw [show (1 : Int32).toInt = 1 from (ti_c (v := 1) (a := 1) (by decide))] at f445
            try rw [show (1 : Int32).toInt = 1 from (ti_c (v := 1) (a := 1) (by decide))] at f446
            try rw [show (1 : Int32).toInt = 1 from (ti_c (v := 1) (a := 1) (by decide))] at f447
            try rw [show (1 : Int32).toInt = 1 from (ti_c (v := 1) (a := 1) (by decide))] at f448
            try rw [show (1 : Int32).toInt = 1 from (ti_c (v := 1) (a := 1) (by decide))] at f449
            try rw [show (1 : Int32).toInt = 1 from (ti_c (v := 1) (a := 1) (by decide))] at f450
            obtain ⟨u451, u451w⟩ : ∃ v : Int32, v = h439.2.1 70 4 := ⟨_, rfl⟩
            have u451e : (h439.2.1 70 4).toInt = u451.toInt := by rw [u451w]
            have u451l : 0 ≤ u451.toInt := by rw [u451w]; exact (hv439.2.1 70 4).1
            have u451u : u451.toInt ≤ 500 := by rw [u451w]; exact (hv439.2.1 70 4).2
            obtain ⟨u452, u452w⟩ : ∃ v : Int32, v = h439.2.1 70 5 := ⟨_, rfl⟩
            have u452e : (h439.2.1 70 5).toInt = u452.toInt := by rw [u452w]
            have u452l : -2147483648 ≤ u452.toInt := by rw [u452w]; exact (hv439.2.1 70 5).1
            have u452u : u452.toInt ≤ 2147483647 := by rw [u452w]; exact (hv439.2.1 70 5).2
            refine go_aload_n (pc := 149) rfl dX8_readSet_149 ?_
            refine go_bipush (pc := 150) (v := 59) (by decide) dX8_readSet_150 ?_
            have g453 : (0 : Int) ≤ (h439.2.1 70 4).toInt := (hv439.2.1 70 4).1
            have g454 : (h439.2.1 70 4).toInt ≤ 500 := (hv439.2.1 70 4).2
            have g455 : (-2147483648 : Int) ≤ (h439.2.1 70 5).toInt := (hv439.2.1 70 5).1
            have g456 : (h439.2.1 70 5).toInt ≤ 2147483647 := (hv439.2.1 70 5).2
            have g457 : (h439.2.1 70 4).toInt = u451.toInt := by rw [← (show u451 = h439.2.1 70 4 from u451w)] <;> exact (ti_rfl u451)
            have g458 : (h439.2.1 70 5).toInt = u452.toInt := by rw [← (show u452 = h439.2.1 70 5 from u452w)] <;> exact (ti_rfl u452)
            refine go_invV (pc := 152) (sl := 0) (s_X8_must l (d + 1) hv439 59 (by rw [show (59 : Int32).toInt = 59 from (ti_c (v := 59) (a := 59) (by decide))]; omega) (by rw [show (59 : Int32).toInt = 59 from (ti_c (v := 59) (a := 59) (by decide))]; omega)) mL_X8_198 iM_X8_must sM_X8_must (hv439.sh rfl) rfl rfl rfl (Nat.le_of_ble_eq_true rfl) (show d + 1 + 2 + 1 ≤ d + 4 by omega) (show 8 + (2 + 11) + 40 * (d + 1 + 2) ≤ 40 * (d + 4) by omega) (g_c0 hv439.ln) (Nat.le_of_ble_eq_true rfl) dX8_readSet_152 ?_
            intro r h459 hq _
            obtain ⟨rfl, hv459, f460, f461, f462⟩ := hq
            try rw [show (59 : Int32).toInt = 59 from (ti_c (v := 59) (a := 59) (by decide))] at f460
            try rw [show (59 : Int32).toInt = 59 from (ti_c (v := 59) (a := 59) (by decide))] at f461
            try rw [show (59 : Int32).toInt = 59 from (ti_c (v := 59) (a := 59) (by decide))] at f462
            have ve459 : VE h439.2.1 h459.2.1 := VE.of hv439 hv459
            have oh459 : OH h.2.1 h459.2.1 S := oh439.trans (OH.of hv439 hv459 S)
            have kp459 : KP h.2.1 h459.2.1 := kp439.trans (KP.ve ve459)
            have ck459 : CKF h.2.1 → CKF h459.2.1 := fun z => CKF.ve ve459 (ck439 z)
            have n73_459 : V h459.2.1 73 S = V h439.2.1 73 S := ve459.v (by omega) (by omega)
            have n74_459 : V h459.2.1 74 S = V h439.2.1 74 S := ve459.v (by omega) (by omega)
            have n75_459 : V h459.2.1 75 S = V h439.2.1 75 S := ve459.v (by omega) (by omega)
            obtain ⟨u463, u463w⟩ : ∃ v : Int32, v = h459.2.1 70 4 := ⟨_, rfl⟩
            have u463e : (h459.2.1 70 4).toInt = u463.toInt := by rw [u463w]
            have u463l : 0 ≤ u463.toInt := by rw [u463w]; exact (hv459.2.1 70 4).1
            have u463u : u463.toInt ≤ 500 := by rw [u463w]; exact (hv459.2.1 70 4).2
            obtain ⟨u464, u464w⟩ : ∃ v : Int32, v = h459.2.1 70 5 := ⟨_, rfl⟩
            have u464e : (h459.2.1 70 5).toInt = u464.toInt := by rw [u464w]
            have u464l : -2147483648 ≤ u464.toInt := by rw [u464w]; exact (hv459.2.1 70 5).1
            have u464u : u464.toInt ≤ 2147483647 := by rw [u464w]; exact (hv459.2.1 70 5).2
            have g465 : (0 : Int) ≤ (h459.2.1 70 4).toInt := (hv459.2.1 70 4).1
            have g466 : (h459.2.1 70 4).toInt ≤ 500 := (hv459.2.1 70 4).2
            have g467 : (-2147483648 : Int) ≤ (h459.2.1 70 5).toInt := (hv459.2.1 70 5).1
            have g468 : (h459.2.1 70 5).toInt ≤ 2147483647 := (hv459.2.1 70 5).2
            have g469 : (h459.2.1 70 4).toInt = u463.toInt := by rw [← (show u463 = h459.2.1 70 4 from u463w)] <;> exact (ti_rfl u463)
            have g470 : (h459.2.1 70 5).toInt = u464.toInt := by rw [← (show u464 = h459.2.1 70 5 from u464w)] <;> exact (ti_rfl u464)
            have pp471 : (h459.2.1 70 5).toInt = 0 → (h.2.1 70 5).toInt = 0 := (by omega)
            have pp472 : (h.2.1 70 4).toInt ≤ (h459.2.1 70 4).toInt := (by omega)
            have pp473 : V h459.2.1 73 S = V h.2.1 73 S := (by omega)
            have pp474 : V h459.2.1 74 S = V h.2.1 74 S := (by omega)
            have pp475 : V h459.2.1 75 S = V h.2.1 75 S := (by omega)
            have pp476 : (h459.2.1 70 5).toInt = 0 → ∀ d : Int, V h.2.1 77 a2.toInt = 0 → V h.2.1 82 a2.toInt = a3.toInt → RT h.2.1 h459.2.1 S a2.toInt d := (fun hg d k1 k2 => RT.op (((((((((OP.rfl _).trans (OP.ve ve5)).trans (OP.ve ve317)).trans (f342 (by omega))).trans (OP.ve ve386)).trans (by rw [E427]; exact ((OP.rfl _).trans OP.w3))).trans (OP.ve ve431)).trans (f444 (by omega))).trans (OP.ve ve459)) (by omega) (by omega) (by omega))
            subst hS
            exact gi_vret (pc := 155) ⟨rfl, ⟨_, hv459, (MW.trans (MW.trans sq339 (MW.mz _ _)) sq441)⟩, pp471, pp472, pp473, pp474, pp475, pp476, kp459, oh459, ck459⟩ hv459 dX8_readSet_155
      ·
        refine go_aload_n (pc := 33) rfl dX8_readSet_33 ?_
        refine gi_getF (pc := 34) (q := 77) hv317 fL_X8_29 rfl (Nat.le_of_ble_eq_true rfl) rfl (hv317.rf (by decide)) dX8_readSet_34 ?_
        refine go_iload_n (pc := 37) rfl dX8_readSet_37 ?_
        refine go_iconst (pc := 38) (v := 1) (by decide) dX8_readSet_38 ?_
        refine gi_fst (pc := 39) (lo := 0) (hi := 6) (len := 260) hv317 (ti_rfl a2) (ti_c (v := 1) (a := 1) (by decide)) rfl (by omega) (by omega) (fun _ => rfl) (by omega) (by omega) (by omega) dX8_readSet_39 (fun h477 hv477 hv477e => ?_)
        refine go_aload_n (pc := 40) rfl dX8_readSet_40 ?_
        refine gi_getF (pc := 41) (q := 84) hv477 fL_X8_50 rfl (Nat.le_of_ble_eq_true rfl) rfl (hv477.rf (by decide)) dX8_readSet_41 ?_
        refine go_iload_n (pc := 44) rfl dX8_readSet_44 ?_
        refine go_aload_n (pc := 45) rfl dX8_readSet_45 ?_
        refine go_invV (pc := 46) (sl := 0) (s_X8_here_ns l (d + 2) hv477 (NS.w hv477e (by omega) (f321 (by omega)))) mL_X8_176 iM_X8_here sM_X8_here (hv477.sh rfl) rfl rfl rfl (Nat.le_of_ble_eq_true rfl) (show d + 2 + 1 + 1 ≤ d + 4 by omega) (show 8 + (1 + 11) + 40 * (d + 2 + 1) ≤ 40 * (d + 4) by omega) (g_c0 hv477.ln) (Nat.le_of_ble_eq_true rfl) dX8_readSet_46 ?_
        intro r h478 hq _
        obtain ⟨v480, rfl, v480l, v480u, rfl, f479⟩ := hq
        have k481 : v480.toInt = v322.toInt := congrArg Int32.toInt f479
        have k482 : 65 ≤ v480.toInt ∧ v480.toInt ≤ 69 := by omega
        refine go_bipush (pc := 49) (v := 65) (by decide) dX8_readSet_49 ?_
        refine gf_isub (pc := 51) (ti_rfl v480) (ti_c (v := 65) (a := 65) (by decide)) (by omega) (by omega) dX8_readSet_51 (fun v483 e484 => ?_)
        refine gi_fst (pc := 52) (lo := -2) (hi := 4) (len := 260) hv477 (ti_rfl a2) e484 rfl (by omega) (by omega) (fun _ => rfl) (by omega) (by omega) (by omega) dX8_readSet_52 (fun h485 hv485 hv485e => ?_)
        refine go_aload_n (pc := 53) rfl dX8_readSet_53 ?_
        refine go_dup (pc := 54) rfl dX8_readSet_54 ?_
        refine gi_get (pc := 55) (lo := 0) (hi := 500) hv485 fL_X8_163 rfl (Nat.le_of_ble_eq_true rfl) rfl rfl dX8_readSet_55 (fun v486 v486l v486u v486w => ?_)
        have v486r : u323 = h485.2.1 70 4 := (show u323 = h485.2.1 70 4 from by rw [hv485e]; exact (g_iI rfl (show u323 = h477.2.1 70 4 from by rw [hv477e]; exact (g_iI rfl u323w.symm).symm).symm).symm)
        have v486q : TI v486 u323.toInt := by rw [v486w.trans v486r.symm]; exact (ti_rfl u323)
        refine go_iconst (pc := 58) (v := 1) (by decide) dX8_readSet_58 ?_
        refine gf_iadd (pc := 59) v486q (ti_c (v := 1) (a := 1) (by decide)) (by omega) (by omega) dX8_readSet_59 (fun v487 e488 => ?_)
        have E485 : h485.2.1 = (w1 (w1 h317.2.1 77 a2.toInt (1 : Int32)) 84 a2.toInt (v483 : Int32)) := by
          rw [hv485e, hv477e]
          rfl
        have oh485 : OH h.2.1 h485.2.1 S := by rw [E485]; exact ((oh317.trans (OH.w 130 rfl (by omega) (by omega) (by omega) (by omega))).trans (OH.w 130 rfl (by omega) (by omega) (by omega) (by omega)))
        have kp485 : KP h.2.1 h485.2.1 := by rw [E485]; exact ((kp317.trans (KP.w (by omega))).trans (KP.w (by omega)))
        have n73_485 : V h485.2.1 73 S = V h317.2.1 73 S := by rw [E485, V_ne (by omega), V_ne (by omega)]
        have n74_485 : V h485.2.1 74 S = V h317.2.1 74 S := by rw [E485, V_ne (by omega), V_ne (by omega)]
        have n75_485 : V h485.2.1 75 S = V h317.2.1 75 S := by rw [E485, V_ne (by omega), V_ne (by omega)]
        have ck485 : CKF h.2.1 → CKF h485.2.1 := fun z => by rw [E485]; exact CKF.call (x := (1 : Int32)) (VE.rfl _) (by rw [show (v483 : Int32).toInt = (v480.toInt - 65) from e484]; omega) (ck317 z)
        refine gi_put (pc := 60) (lo := 0) (hi := 500) hv485 e488 (fP_X8_163 _) rfl (Nat.le_of_ble_eq_true rfl) rfl rfl (by omega) (by omega) rfl rfl (by decide) (by decide) (by decide) (by decide) dX8_readSet_60 (fun h489 hv489 hv489e => ?_)
        have ve489 : VE h485.2.1 h489.2.1 := VE.of hv485 hv489
        have oh489 : OH h.2.1 h489.2.1 S := oh485.trans (OH.of hv485 hv489 S)
        have kp489 : KP h.2.1 h489.2.1 := kp485.trans (KP.ve ve489)
        have ck489 : CKF h.2.1 → CKF h489.2.1 := fun z => CKF.ve ve489 (ck485 z)
        have n73_489 : V h489.2.1 73 S = V h485.2.1 73 S := ve489.v (by omega) (by omega)
        have n74_489 : V h489.2.1 74 S = V h485.2.1 74 S := ve489.v (by omega) (by omega)
        have n75_489 : V h489.2.1 75 S = V h485.2.1 75 S := ve489.v (by omega) (by omega)
        refine go_aload_n (pc := 63) rfl dX8_readSet_63 ?_
        refine go_bipush (pc := 64) (v := 40) (by decide) dX8_readSet_64 ?_
        have g490 : (0 : Int) ≤ (h489.2.1 70 4).toInt := (hv489.2.1 70 4).1
        have g491 : (h489.2.1 70 4).toInt ≤ 500 := (hv489.2.1 70 4).2
        have g492 : (-2147483648 : Int) ≤ (h489.2.1 70 5).toInt := (hv489.2.1 70 5).1
        have g493 : (h489.2.1 70 5).toInt ≤ 2147483647 := (hv489.2.1 70 5).2
        have g494 : (h489.2.1 70 5).toInt = u324.toInt := by rw [← (show u324 = h489.2.1 70 5 from (show u324 = h489.2.1 70 5 from by rw [hv489e]; exact (g_iI rfl (show u324 = h485.2.1 70 5 from by rw [hv485e]; exact (g_iI rfl (show u324 = h477.2.1 70 5 from by rw [hv477e]; exact (g_iI rfl u324w.symm).symm).symm).symm).symm).symm))] <;> exact (ti_rfl u324)
        have g495 : (h489.2.1 70 4).toInt = (u323.toInt + 1) := by rw [← (show v487 = h489.2.1 70 4 from (show v487 = h489.2.1 70 4 from by rw [hv489e]; exact g_iS.symm))] <;> exact e488
        refine go_invV (pc := 66) (sl := 0) (s_X8_must l (d + 1) hv489 40 (by rw [show (40 : Int32).toInt = 40 from (ti_c (v := 40) (a := 40) (by decide))]; omega) (by rw [show (40 : Int32).toInt = 40 from (ti_c (v := 40) (a := 40) (by decide))]; omega)) mL_X8_198 iM_X8_must sM_X8_must (hv489.sh rfl) rfl rfl rfl (Nat.le_of_ble_eq_true rfl) (show d + 1 + 2 + 1 ≤ d + 4 by omega) (show 8 + (2 + 11) + 40 * (d + 1 + 2) ≤ 40 * (d + 4) by omega) (g_c0 hv489.ln) (Nat.le_of_ble_eq_true rfl) dX8_readSet_66 ?_
        intro r h496 hq _
        obtain ⟨rfl, hv496, f497, f498, f499⟩ := hq
        try rw [show (40 : Int32).toInt = 40 from (ti_c (v := 40) (a := 40) (by decide))] at f497
        try rw [show (40 : Int32).toInt = 40 from (ti_c (v := 40) (a := 40) (by decide))] at f498
        try rw [show (40 : Int32).toInt = 40 from (ti_c (v := 40) (a := 40) (by decide))] at f499
        have ve496 : VE h489.2.1 h496.2.1 := VE.of hv489 hv496
        have oh496 : OH h.2.1 h496.2.1 S := oh489.trans (OH.of hv489 hv496 S)
        have kp496 : KP h.2.1 h496.2.1 := kp489.trans (KP.ve ve496)
        have ck496 : CKF h.2.1 → CKF h496.2.1 := fun z => CKF.ve ve496 (ck489 z)
        have n73_496 : V h496.2.1 73 S = V h489.2.1 73 S := ve496.v (by omega) (by omega)
        have n74_496 : V h496.2.1 74 S = V h489.2.1 74 S := ve496.v (by omega) (by omega)
        have n75_496 : V h496.2.1 75 S = V h489.2.1 75 S := ve496.v (by omega) (by omega)
        obtain ⟨u500, u500w⟩ : ∃ v : Int32, v = h496.2.1 70 4 := ⟨_, rfl⟩
        have u500e : (h496.2.1 70 4).toInt = u500.toInt := by rw [u500w]
        have u500l : 0 ≤ u500.toInt := by rw [u500w]; exact (hv496.2.1 70 4).1
        have u500u : u500.toInt ≤ 500 := by rw [u500w]; exact (hv496.2.1 70 4).2
        obtain ⟨u501, u501w⟩ : ∃ v : Int32, v = h496.2.1 70 5 := ⟨_, rfl⟩
        have u501e : (h496.2.1 70 5).toInt = u501.toInt := by rw [u501w]
        have u501l : -2147483648 ≤ u501.toInt := by rw [u501w]; exact (hv496.2.1 70 5).1
        have u501u : u501.toInt ≤ 2147483647 := by rw [u501w]; exact (hv496.2.1 70 5).2
        refine go_aload_n (pc := 69) rfl dX8_readSet_69 ?_
        refine go_iload_n (pc := 70) rfl dX8_readSet_70 ?_
        refine go_iconst (pc := 71) (v := 0) (by decide) dX8_readSet_71 ?_
        have sM502 : (h496.2.1 70 6).toInt = S := (congrArg Int32.toInt oh496.side).trans hS.symm
        have g503 : (0 : Int) ≤ (h496.2.1 70 4).toInt := (hv496.2.1 70 4).1
        have g504 : (h496.2.1 70 4).toInt ≤ 500 := (hv496.2.1 70 4).2
        have g505 : (-2147483648 : Int) ≤ (h496.2.1 70 5).toInt := (hv496.2.1 70 5).1
        have g506 : (h496.2.1 70 5).toInt ≤ 2147483647 := (hv496.2.1 70 5).2
        have g507 : (h496.2.1 70 4).toInt = u500.toInt := by rw [← (show u500 = h496.2.1 70 4 from u500w)] <;> exact (ti_rfl u500)
        have g508 : (h496.2.1 70 5).toInt = u501.toInt := by rw [← (show u501 = h496.2.1 70 5 from u501w)] <;> exact (ti_rfl u501)
        refine go_invV (pc := 72) (sl := 0) (s_X8_operand l (d + 0) hv496 a2 (by rw [show (a2 : Int32).toInt = a2.toInt from (ti_rfl a2)]; omega) (by rw [show (a2 : Int32).toInt = a2.toInt from (ti_rfl a2)]; omega) 0 (by rw [show (0 : Int32).toInt = 0 from (ti_c (v := 0) (a := 0) (by decide))]; omega) (by rw [show (0 : Int32).toInt = 0 from (ti_c (v := 0) (a := 0) (by decide))]; omega) (by rw [sM502]; exact hi)) mL_X8_218 iM_X8_operand sM_X8_operand (hv496.sh rfl) rfl rfl rfl (Nat.le_of_ble_eq_true rfl) (show d + 0 + 3 + 1 ≤ d + 4 by omega) (show 8 + (7 + 11) + 40 * (d + 0 + 3) ≤ 40 * (d + 4) by omega) (g_c0 hv496.ln) (Nat.le_of_ble_eq_true rfl) dX8_readSet_72 ?_
        intro r h509 hq _
        obtain ⟨rfl, ⟨Q510, hv509, sq511⟩, f512, f513, f514, f515, f516, f517, f518, f519, f520⟩ := hq
        rw [sM502] at f515
        rw [sM502] at f516
        rw [sM502] at f517
        rw [sM502] at f519
        have oh509 : OH h.2.1 h509.2.1 S := oh496.trans f519
        have kp509 : KP h.2.1 h509.2.1 := kp496.trans f518
        have ck509 : CKF h.2.1 → CKF h509.2.1 := fun z => f520 (ck496 z)
        try rw [show (0 : Int32).toInt = 0 from (ti_c (v := 0) (a := 0) (by decide))] at f512
        try rw [show (0 : Int32).toInt = 0 from (ti_c (v := 0) (a := 0) (by decide))] at f513
        try rw [show (0 : Int32).toInt = 0 from (ti_c (v := 0) (a := 0) (by decide))] at f514
        try rw [show (0 : Int32).toInt = 0 from (ti_c (v := 0) (a := 0) (by decide))] at f515
        try rw [show (0 : Int32).toInt = 0 from (ti_c (v := 0) (a := 0) (by decide))] at f516
        try rw [show (0 : Int32).toInt = 0 from (ti_c (v := 0) (a := 0) (by decide))] at f517
        try rw [show (0 : Int32).toInt = 0 from (ti_c (v := 0) (a := 0) (by decide))] at f518
        try rw [show (0 : Int32).toInt = 0 from (ti_c (v := 0) (a := 0) (by decide))] at f519
        try rw [show (0 : Int32).toInt = 0 from (ti_c (v := 0) (a := 0) (by decide))] at f520
        obtain ⟨u521, u521w⟩ : ∃ v : Int32, v = h509.2.1 70 4 := ⟨_, rfl⟩
        have u521e : (h509.2.1 70 4).toInt = u521.toInt := by rw [u521w]
        have u521l : 0 ≤ u521.toInt := by rw [u521w]; exact (hv509.2.1 70 4).1
        have u521u : u521.toInt ≤ 500 := by rw [u521w]; exact (hv509.2.1 70 4).2
        obtain ⟨u522, u522w⟩ : ∃ v : Int32, v = h509.2.1 70 5 := ⟨_, rfl⟩
        have u522e : (h509.2.1 70 5).toInt = u522.toInt := by rw [u522w]
        have u522l : -2147483648 ≤ u522.toInt := by rw [u522w]; exact (hv509.2.1 70 5).1
        have u522u : u522.toInt ≤ 2147483647 := by rw [u522w]; exact (hv509.2.1 70 5).2
        refine go_aload_n (pc := 75) rfl dX8_readSet_75 ?_
        refine go_bipush (pc := 76) (v := 44) (by decide) dX8_readSet_76 ?_
        have g523 : (0 : Int) ≤ (h509.2.1 70 4).toInt := (hv509.2.1 70 4).1
        have g524 : (h509.2.1 70 4).toInt ≤ 500 := (hv509.2.1 70 4).2
        have g525 : (-2147483648 : Int) ≤ (h509.2.1 70 5).toInt := (hv509.2.1 70 5).1
        have g526 : (h509.2.1 70 5).toInt ≤ 2147483647 := (hv509.2.1 70 5).2
        have g527 : (h509.2.1 70 4).toInt = u521.toInt := by rw [← (show u521 = h509.2.1 70 4 from u521w)] <;> exact (ti_rfl u521)
        have g528 : (h509.2.1 70 5).toInt = u522.toInt := by rw [← (show u522 = h509.2.1 70 5 from u522w)] <;> exact (ti_rfl u522)
        refine go_invV (pc := 78) (sl := 0) (s_X8_must l (d + 1) hv509 44 (by rw [show (44 : Int32).toInt = 44 from (ti_c (v := 44) (a := 44) (by decide))]; omega) (by rw [show (44 : Int32).toInt = 44 from (ti_c (v := 44) (a := 44) (by decide))]; omega)) mL_X8_198 iM_X8_must sM_X8_must (hv509.sh rfl) rfl rfl rfl (Nat.le_of_ble_eq_true rfl) (show d + 1 + 2 + 1 ≤ d + 4 by omega) (show 8 + (2 + 11) + 40 * (d + 1 + 2) ≤ 40 * (d + 4) by omega) (g_c0 hv509.ln) (Nat.le_of_ble_eq_true rfl) dX8_readSet_78 ?_
        intro r h529 hq _
        obtain ⟨rfl, hv529, f530, f531, f532⟩ := hq
        try rw [show (44 : Int32).toInt = 44 from (ti_c (v := 44) (a := 44) (by decide))] at f530
        try rw [show (44 : Int32).toInt = 44 from (ti_c (v := 44) (a := 44) (by decide))] at f531
        try rw [show (44 : Int32).toInt = 44 from (ti_c (v := 44) (a := 44) (by decide))] at f532
        have ve529 : VE h509.2.1 h529.2.1 := VE.of hv509 hv529
        have oh529 : OH h.2.1 h529.2.1 S := oh509.trans (OH.of hv509 hv529 S)
        have kp529 : KP h.2.1 h529.2.1 := kp509.trans (KP.ve ve529)
        have ck529 : CKF h.2.1 → CKF h529.2.1 := fun z => CKF.ve ve529 (ck509 z)
        have n73_529 : V h529.2.1 73 S = V h509.2.1 73 S := ve529.v (by omega) (by omega)
        have n74_529 : V h529.2.1 74 S = V h509.2.1 74 S := ve529.v (by omega) (by omega)
        have n75_529 : V h529.2.1 75 S = V h509.2.1 75 S := ve529.v (by omega) (by omega)
        obtain ⟨u533, u533w⟩ : ∃ v : Int32, v = h529.2.1 70 4 := ⟨_, rfl⟩
        have u533e : (h529.2.1 70 4).toInt = u533.toInt := by rw [u533w]
        have u533l : 0 ≤ u533.toInt := by rw [u533w]; exact (hv529.2.1 70 4).1
        have u533u : u533.toInt ≤ 500 := by rw [u533w]; exact (hv529.2.1 70 4).2
        obtain ⟨u534, u534w⟩ : ∃ v : Int32, v = h529.2.1 70 5 := ⟨_, rfl⟩
        have u534e : (h529.2.1 70 5).toInt = u534.toInt := by rw [u534w]
        have u534l : -2147483648 ≤ u534.toInt := by rw [u534w]; exact (hv529.2.1 70 5).1
        have u534u : u534.toInt ≤ 2147483647 := by rw [u534w]; exact (hv529.2.1 70 5).2
        refine go_aload_n (pc := 81) rfl dX8_readSet_81 ?_
        refine go_iload_n (pc := 82) rfl dX8_readSet_82 ?_
        refine go_iconst (pc := 83) (v := 1) (by decide) dX8_readSet_83 ?_
        have sM535 : (h529.2.1 70 6).toInt = S := (congrArg Int32.toInt oh529.side).trans hS.symm
        have g536 : (0 : Int) ≤ (h529.2.1 70 4).toInt := (hv529.2.1 70 4).1
        have g537 : (h529.2.1 70 4).toInt ≤ 500 := (hv529.2.1 70 4).2
        have g538 : (-2147483648 : Int) ≤ (h529.2.1 70 5).toInt := (hv529.2.1 70 5).1
        have g539 : (h529.2.1 70 5).toInt ≤ 2147483647 := (hv529.2.1 70 5).2
        have g540 : (h529.2.1 70 4).toInt = u533.toInt := by rw [← (show u533 = h529.2.1 70 4 from u533w)] <;> exact (ti_rfl u533)
        have g541 : (h529.2.1 70 5).toInt = u534.toInt := by rw [← (show u534 = h529.2.1 70 5 from u534w)] <;> exact (ti_rfl u534)
        refine go_invV (pc := 84) (sl := 0) (s_X8_operand l (d + 0) hv529 a2 (by rw [show (a2 : Int32).toInt = a2.toInt from (ti_rfl a2)]; omega) (by rw [show (a2 : Int32).toInt = a2.toInt from (ti_rfl a2)]; omega) 1 (by rw [show (1 : Int32).toInt = 1 from (ti_c (v := 1) (a := 1) (by decide))]; omega) (by rw [show (1 : Int32).toInt = 1 from (ti_c (v := 1) (a := 1) (by decide))]; omega) (by rw [sM535]; exact hi)) mL_X8_218 iM_X8_operand sM_X8_operand (hv529.sh rfl) rfl rfl rfl (Nat.le_of_ble_eq_true rfl) (show d + 0 + 3 + 1 ≤ d + 4 by omega) (show 8 + (7 + 11) + 40 * (d + 0 + 3) ≤ 40 * (d + 4) by omega) (g_c0 hv529.ln) (Nat.le_of_ble_eq_true rfl) dX8_readSet_84 ?_
        intro r h542 hq _
        obtain ⟨rfl, ⟨Q543, hv542, sq544⟩, f545, f546, f547, f548, f549, f550, f551, f552, f553⟩ := hq
        rw [sM535] at f548
        rw [sM535] at f549
        rw [sM535] at f550
        rw [sM535] at f552
        have oh542 : OH h.2.1 h542.2.1 S := oh529.trans f552
        have kp542 : KP h.2.1 h542.2.1 := kp529.trans f551
        have ck542 : CKF h.2.1 → CKF h542.2.1 := fun z => f553 (ck529 z)
        try rw [show (1 : Int32).toInt = 1 from (ti_c (v := 1) (a := 1) (by decide))] at f545
        try rw [show (1 : Int32).toInt = 1 from (ti_c (v := 1) (a := 1) (by decide))] at f546
        try rw [show (1 : Int32).toInt = 1 from (ti_c (v := 1) (a := 1) (by decide))] at f547
        try rw [show (1 : Int32).toInt = 1 from (ti_c (v := 1) (a := 1) (by decide))] at f548
        try rw [show (1 : Int32).toInt = 1 from (ti_c (v := 1) (a := 1) (by decide))] at f549
        try rw [show (1 : Int32).toInt = 1 from (ti_c (v := 1) (a := 1) (by decide))] at f550
        try rw [show (1 : Int32).toInt = 1 from (ti_c (v := 1) (a := 1) (by decide))] at f551
        try rw [show (1 : Int32).toInt = 1 from (ti_c (v := 1) (a := 1) (by decide))] at f552
        try rw [show (1 : Int32).toInt = 1 from (ti_c (v := 1) (a := 1) (by decide))] at f553
        obtain ⟨u554, u554w⟩ : ∃ v : Int32, v = h542.2.1 70 4 := ⟨_, rfl⟩
        have u554e : (h542.2.1 70 4).toInt = u554.toInt := by rw [u554w]
        have u554l : 0 ≤ u554.toInt := by rw [u554w]; exact (hv542.2.1 70 4).1
        have u554u : u554.toInt ≤ 500 := by rw [u554w]; exact (hv542.2.1 70 4).2
        obtain ⟨u555, u555w⟩ : ∃ v : Int32, v = h542.2.1 70 5 := ⟨_, rfl⟩
        have u555e : (h542.2.1 70 5).toInt = u555.toInt := by rw [u555w]
        have u555l : -2147483648 ≤ u555.toInt := by rw [u555w]; exact (hv542.2.1 70 5).1
        have u555u : u555.toInt ≤ 2147483647 := by rw [u555w]; exact (hv542.2.1 70 5).2
        refine go_aload_n (pc := 87) rfl dX8_readSet_87 ?_
        refine go_bipush (pc := 88) (v := 41) (by decide) dX8_readSet_88 ?_
        have g556 : (0 : Int) ≤ (h542.2.1 70 4).toInt := (hv542.2.1 70 4).1
        have g557 : (h542.2.1 70 4).toInt ≤ 500 := (hv542.2.1 70 4).2
        have g558 : (-2147483648 : Int) ≤ (h542.2.1 70 5).toInt := (hv542.2.1 70 5).1
        have g559 : (h542.2.1 70 5).toInt ≤ 2147483647 := (hv542.2.1 70 5).2
        have g560 : (h542.2.1 70 4).toInt = u554.toInt := by rw [← (show u554 = h542.2.1 70 4 from u554w)] <;> exact (ti_rfl u554)
        have g561 : (h542.2.1 70 5).toInt = u555.toInt := by rw [← (show u555 = h542.2.1 70 5 from u555w)] <;> exact (ti_rfl u555)
        refine go_invV (pc := 90) (sl := 0) (s_X8_must l (d + 1) hv542 41 (by rw [show (41 : Int32).toInt = 41 from (ti_c (v := 41) (a := 41) (by decide))]; omega) (by rw [show (41 : Int32).toInt = 41 from (ti_c (v := 41) (a := 41) (by decide))]; omega)) mL_X8_198 iM_X8_must sM_X8_must (hv542.sh rfl) rfl rfl rfl (Nat.le_of_ble_eq_true rfl) (show d + 1 + 2 + 1 ≤ d + 4 by omega) (show 8 + (2 + 11) + 40 * (d + 1 + 2) ≤ 40 * (d + 4) by omega) (g_c0 hv542.ln) (Nat.le_of_ble_eq_true rfl) dX8_readSet_90 ?_
        intro r h562 hq _
        obtain ⟨rfl, hv562, f563, f564, f565⟩ := hq
        try rw [show (41 : Int32).toInt = 41 from (ti_c (v := 41) (a := 41) (by decide))] at f563
        try rw [show (41 : Int32).toInt = 41 from (ti_c (v := 41) (a := 41) (by decide))] at f564
        try rw [show (41 : Int32).toInt = 41 from (ti_c (v := 41) (a := 41) (by decide))] at f565
        have ve562 : VE h542.2.1 h562.2.1 := VE.of hv542 hv562
        have oh562 : OH h.2.1 h562.2.1 S := oh542.trans (OH.of hv542 hv562 S)
        have kp562 : KP h.2.1 h562.2.1 := kp542.trans (KP.ve ve562)
        have ck562 : CKF h.2.1 → CKF h562.2.1 := fun z => CKF.ve ve562 (ck542 z)
        have n73_562 : V h562.2.1 73 S = V h542.2.1 73 S := ve562.v (by omega) (by omega)
        have n74_562 : V h562.2.1 74 S = V h542.2.1 74 S := ve562.v (by omega) (by omega)
        have n75_562 : V h562.2.1 75 S = V h542.2.1 75 S := ve562.v (by omega) (by omega)
        obtain ⟨u566, u566w⟩ : ∃ v : Int32, v = h562.2.1 70 4 := ⟨_, rfl⟩
        have u566e : (h562.2.1 70 4).toInt = u566.toInt := by rw [u566w]
        have u566l : 0 ≤ u566.toInt := by rw [u566w]; exact (hv562.2.1 70 4).1
        have u566u : u566.toInt ≤ 500 := by rw [u566w]; exact (hv562.2.1 70 4).2
        obtain ⟨u567, u567w⟩ : ∃ v : Int32, v = h562.2.1 70 5 := ⟨_, rfl⟩
        have u567e : (h562.2.1 70 5).toInt = u567.toInt := by rw [u567w]
        have u567l : -2147483648 ≤ u567.toInt := by rw [u567w]; exact (hv562.2.1 70 5).1
        have u567u : u567.toInt ≤ 2147483647 := by rw [u567w]; exact (hv562.2.1 70 5).2
        refine go_aload_n (pc := 93) rfl dX8_readSet_93 ?_
        refine go_bipush (pc := 94) (v := 59) (by decide) dX8_readSet_94 ?_
        have g568 : (0 : Int) ≤ (h562.2.1 70 4).toInt := (hv562.2.1 70 4).1
        have g569 : (h562.2.1 70 4).toInt ≤ 500 := (hv562.2.1 70 4).2
        have g570 : (-2147483648 : Int) ≤ (h562.2.1 70 5).toInt := (hv562.2.1 70 5).1
        have g571 : (h562.2.1 70 5).toInt ≤ 2147483647 := (hv562.2.1 70 5).2
        have g572 : (h562.2.1 70 4).toInt = u566.toInt := by rw [← (show u566 = h562.2.1 70 4 from u566w)] <;> exact (ti_rfl u566)
        have g573 : (h562.2.1 70 5).toInt = u567.toInt := by rw [← (show u567 = h562.2.1 70 5 from u567w)] <;> exact (ti_rfl u567)
        refine go_invV (pc := 96) (sl := 0) (s_X8_must l (d + 1) hv562 59 (by rw [show (59 : Int32).toInt = 59 from (ti_c (v := 59) (a := 59) (by decide))]; omega) (by rw [show (59 : Int32).toInt = 59 from (ti_c (v := 59) (a := 59) (by decide))]; omega)) mL_X8_198 iM_X8_must sM_X8_must (hv562.sh rfl) rfl rfl rfl (Nat.le_of_ble_eq_true rfl) (show d + 1 + 2 + 1 ≤ d + 4 by omega) (show 8 + (2 + 11) + 40 * (d + 1 + 2) ≤ 40 * (d + 4) by omega) (g_c0 hv562.ln) (Nat.le_of_ble_eq_true rfl) dX8_readSet_96 ?_
        intro r h574 hq _
        obtain ⟨rfl, hv574, f575, f576, f577⟩ := hq
        try rw [show (59 : Int32).toInt = 59 from (ti_c (v := 59) (a := 59) (by decide))] at f575
        try rw [show (59 : Int32).toInt = 59 from (ti_c (v := 59) (a := 59) (by decide))] at f576
        try rw [show (59 : Int32).toInt = 59 from (ti_c (v := 59) (a := 59) (by decide))] at f577
        have ve574 : VE h562.2.1 h574.2.1 := VE.of hv562 hv574
        have oh574 : OH h.2.1 h574.2.1 S := oh562.trans (OH.of hv562 hv574 S)
        have kp574 : KP h.2.1 h574.2.1 := kp562.trans (KP.ve ve574)
        have ck574 : CKF h.2.1 → CKF h574.2.1 := fun z => CKF.ve ve574 (ck562 z)
        have n73_574 : V h574.2.1 73 S = V h562.2.1 73 S := ve574.v (by omega) (by omega)
        have n74_574 : V h574.2.1 74 S = V h562.2.1 74 S := ve574.v (by omega) (by omega)
        have n75_574 : V h574.2.1 75 S = V h562.2.1 75 S := ve574.v (by omega) (by omega)
        obtain ⟨u578, u578w⟩ : ∃ v : Int32, v = h574.2.1 70 4 := ⟨_, rfl⟩
        have u578e : (h574.2.1 70 4).toInt = u578.toInt := by rw [u578w]
        have u578l : 0 ≤ u578.toInt := by rw [u578w]; exact (hv574.2.1 70 4).1
        have u578u : u578.toInt ≤ 500 := by rw [u578w]; exact (hv574.2.1 70 4).2
        obtain ⟨u579, u579w⟩ : ∃ v : Int32, v = h574.2.1 70 5 := ⟨_, rfl⟩
        have u579e : (h574.2.1 70 5).toInt = u579.toInt := by rw [u579w]
        have u579l : -2147483648 ≤ u579.toInt := by rw [u579w]; exact (hv574.2.1 70 5).1
        have u579u : u579.toInt ≤ 2147483647 := by rw [u579w]; exact (hv574.2.1 70 5).2
        have g580 : (0 : Int) ≤ (h574.2.1 70 4).toInt := (hv574.2.1 70 4).1
        have g581 : (h574.2.1 70 4).toInt ≤ 500 := (hv574.2.1 70 4).2
        have g582 : (-2147483648 : Int) ≤ (h574.2.1 70 5).toInt := (hv574.2.1 70 5).1
        have g583 : (h574.2.1 70 5).toInt ≤ 2147483647 := (hv574.2.1 70 5).2
        have g584 : (h574.2.1 70 4).toInt = u578.toInt := by rw [← (show u578 = h574.2.1 70 4 from u578w)] <;> exact (ti_rfl u578)
        have g585 : (h574.2.1 70 5).toInt = u579.toInt := by rw [← (show u579 = h574.2.1 70 5 from u579w)] <;> exact (ti_rfl u579)
        have pp586 : (h574.2.1 70 5).toInt = 0 → (h.2.1 70 5).toInt = 0 := (by omega)
        have pp587 : (h.2.1 70 4).toInt ≤ (h574.2.1 70 4).toInt := (by omega)
        have pp588 : V h574.2.1 73 S = V h.2.1 73 S := (by omega)
        have pp589 : V h574.2.1 74 S = V h.2.1 74 S := (by omega)
        have pp590 : V h574.2.1 75 S = V h.2.1 75 S := (by omega)
        have pp591 : (h574.2.1 70 5).toInt = 0 → ∀ d : Int, V h.2.1 77 a2.toInt = 0 → V h.2.1 82 a2.toInt = a3.toInt → RT h.2.1 h574.2.1 S a2.toInt d := (fun hg d k1 k2 => RT.call (x := (1 : Int32)) (y := (v483 : Int32)) S0 (((OP.rfl _).trans (OP.ve ve5)).trans (OP.ve ve317)) (by rw [← E485]; exact ((((((((OP.rfl _).trans (OP.ve ve489)).trans (OP.ve ve496)).trans (f514 (by omega))).trans (OP.ve ve529)).trans (f547 (by omega))).trans (OP.ve ve562)).trans (OP.ve ve574))) k1 (by decide) (by omega))
        subst hS
        exact gi_vret (pc := 99) ⟨rfl, ⟨_, hv574, (MW.trans (MW.trans (MW.trans (MW.mz _ _) (MW.mz _ _)) sq511) sq544)⟩, pp586, pp587, pp588, pp589, pp590, pp591, kp574, oh574, ck574⟩ hv574 dX8_readSet_99
