theorem dX8_readBlock_0 : decode cX8_readBlock 0 = .ok (.aload_n 0, 1) := by decide +kernel
theorem dX8_readBlock_1 : decode cX8_readBlock 1 = .ok (.iload_n 1, 1) := by decide +kernel
theorem dX8_readBlock_2 : decode cX8_readBlock 2 = .ok (.iload_n 3, 1) := by decide +kernel
theorem dX8_readBlock_3 : decode cX8_readBlock 3 = .ok (.invokevirtual 190, 3) := by decide +kernel
theorem dX8_readBlock_6 : decode cX8_readBlock 6 = .ok (.istore 4, 2) := by decide +kernel
theorem dX8_readBlock_8 : decode cX8_readBlock 8 = .ok (.aload_n 0, 1) := by decide +kernel
theorem dX8_readBlock_9 : decode cX8_readBlock 9 = .ok (.invokevirtual 172, 3) := by decide +kernel
theorem dX8_readBlock_12 : decode cX8_readBlock 12 = .ok (.ifCond .eq 23, 3) := by decide +kernel
theorem dX8_readBlock_15 : decode cX8_readBlock 15 = .ok (.aload_n 0, 1) := by decide +kernel
theorem dX8_readBlock_16 : decode cX8_readBlock 16 = .ok (.invokevirtual 176, 3) := by decide +kernel
theorem dX8_readBlock_19 : decode cX8_readBlock 19 = .ok (.bipush 125, 2) := by decide +kernel
theorem dX8_readBlock_21 : decode cX8_readBlock 21 = .ok (.if_icmp .eq 14, 3) := by decide +kernel
theorem dX8_readBlock_24 : decode cX8_readBlock 24 = .ok (.aload_n 0, 1) := by decide +kernel
theorem dX8_readBlock_25 : decode cX8_readBlock 25 = .ok (.iload 4, 2) := by decide +kernel
theorem dX8_readBlock_27 : decode cX8_readBlock 27 = .ok (.iload_n 2, 1) := by decide +kernel
theorem dX8_readBlock_28 : decode cX8_readBlock 28 = .ok (.iload_n 3, 1) := by decide +kernel
theorem dX8_readBlock_29 : decode cX8_readBlock 29 = .ok (.invokevirtual 194, 3) := by decide +kernel
theorem dX8_readBlock_32 : decode cX8_readBlock 32 = .ok (.goto (-24), 3) := by decide +kernel
theorem dX8_readBlock_35 : decode cX8_readBlock 35 = .ok (.aload_n 0, 1) := by decide +kernel
theorem dX8_readBlock_36 : decode cX8_readBlock 36 = .ok (.bipush 125, 2) := by decide +kernel
theorem dX8_readBlock_38 : decode cX8_readBlock 38 = .ok (.invokevirtual 198, 3) := by decide +kernel
theorem dX8_readBlock_41 : decode cX8_readBlock 41 = .ok (.iload 4, 2) := by decide +kernel
theorem dX8_readBlock_43 : decode cX8_readBlock 43 = .ok (.ireturn, 1) := by decide +kernel
theorem dX8_readTest_0 : decode cX8_readTest 0 = .ok (.aload_n 0, 1) := by decide +kernel
theorem dX8_readTest_1 : decode cX8_readTest 1 = .ok (.iload_n 1, 1) := by decide +kernel
theorem dX8_readTest_2 : decode cX8_readTest 2 = .ok (.iconst 0, 1) := by decide +kernel
theorem dX8_readTest_3 : decode cX8_readTest 3 = .ok (.invokevirtual 218, 3) := by decide +kernel
theorem dX8_readTest_6 : decode cX8_readTest 6 = .ok (.aload_n 0, 1) := by decide +kernel
theorem dX8_readTest_7 : decode cX8_readTest 7 = .ok (.bipush 60, 2) := by decide +kernel
theorem dX8_readTest_9 : decode cX8_readTest 9 = .ok (.invokevirtual 198, 3) := by decide +kernel
theorem dX8_readTest_12 : decode cX8_readTest 12 = .ok (.aload_n 0, 1) := by decide +kernel
theorem dX8_readTest_13 : decode cX8_readTest 13 = .ok (.iload_n 1, 1) := by decide +kernel
theorem dX8_readTest_14 : decode cX8_readTest 14 = .ok (.iconst 1, 1) := by decide +kernel
theorem dX8_readTest_15 : decode cX8_readTest 15 = .ok (.invokevirtual 218, 3) := by decide +kernel
theorem dX8_readTest_18 : decode cX8_readTest 18 = .ok (.aload_n 0, 1) := by decide +kernel
theorem dX8_readTest_19 : decode cX8_readTest 19 = .ok (.invokevirtual 172, 3) := by decide +kernel
theorem dX8_readTest_22 : decode cX8_readTest 22 = .ok (.ifCond .ne 4, 3) := by decide +kernel
theorem dX8_readTest_25 : decode cX8_readTest 25 = .ok (.return_, 1) := by decide +kernel
theorem dX8_readTest_26 : decode cX8_readTest 26 = .ok (.aload_n 0, 1) := by decide +kernel
theorem dX8_readTest_27 : decode cX8_readTest 27 = .ok (.getfield 53, 3) := by decide +kernel
theorem dX8_readTest_30 : decode cX8_readTest 30 = .ok (.iload_n 1, 1) := by decide +kernel
theorem dX8_readTest_31 : decode cX8_readTest 31 = .ok (.aload_n 0, 1) := by decide +kernel
theorem dX8_readTest_32 : decode cX8_readTest 32 = .ok (.iload_n 1, 1) := by decide +kernel
theorem dX8_readTest_33 : decode cX8_readTest 33 = .ok (.iload_n 2, 1) := by decide +kernel
theorem dX8_readTest_34 : decode cX8_readTest 34 = .ok (.iload_n 3, 1) := by decide +kernel
theorem dX8_readTest_35 : decode cX8_readTest 35 = .ok (.iconst 1, 1) := by decide +kernel
theorem dX8_readTest_36 : decode cX8_readTest 36 = .ok (.iadd, 1) := by decide +kernel
theorem dX8_readTest_37 : decode cX8_readTest 37 = .ok (.invokevirtual 224, 3) := by decide +kernel
theorem dX8_readTest_40 : decode cX8_readTest 40 = .ok (.iastore, 1) := by decide +kernel
theorem dX8_readTest_41 : decode cX8_readTest 41 = .ok (.aload_n 0, 1) := by decide +kernel
theorem dX8_readTest_42 : decode cX8_readTest 42 = .ok (.invokevirtual 172, 3) := by decide +kernel
theorem dX8_readTest_45 : decode cX8_readTest 45 = .ok (.ifCond .eq 22, 3) := by decide +kernel
theorem dX8_readTest_48 : decode cX8_readTest 48 = .ok (.aload_n 0, 1) := by decide +kernel
theorem dX8_readTest_49 : decode cX8_readTest 49 = .ok (.getfield 29, 3) := by decide +kernel
theorem dX8_readTest_52 : decode cX8_readTest 52 = .ok (.iload_n 1, 1) := by decide +kernel
theorem dX8_readTest_53 : decode cX8_readTest 53 = .ok (.iaload, 1) := by decide +kernel
theorem dX8_readTest_54 : decode cX8_readTest 54 = .ok (.iconst 3, 1) := by decide +kernel
theorem dX8_readTest_55 : decode cX8_readTest 55 = .ok (.if_icmp .eq 12, 3) := by decide +kernel
theorem dX8_readTest_58 : decode cX8_readTest 58 = .ok (.aload_n 0, 1) := by decide +kernel
theorem dX8_readTest_59 : decode cX8_readTest 59 = .ok (.invokevirtual 176, 3) := by decide +kernel
theorem dX8_readTest_62 : decode cX8_readTest 62 = .ok (.bipush 58, 2) := by decide +kernel
theorem dX8_readTest_64 : decode cX8_readTest 64 = .ok (.if_icmp .eq 4, 3) := by decide +kernel
theorem dX8_readTest_67 : decode cX8_readTest 67 = .ok (.return_, 1) := by decide +kernel
theorem dX8_readTest_68 : decode cX8_readTest 68 = .ok (.aload_n 0, 1) := by decide +kernel
theorem dX8_readTest_69 : decode cX8_readTest 69 = .ok (.dup, 1) := by decide +kernel
theorem dX8_readTest_70 : decode cX8_readTest 70 = .ok (.getfield 163, 3) := by decide +kernel
theorem dX8_readTest_73 : decode cX8_readTest 73 = .ok (.iconst 1, 1) := by decide +kernel
theorem dX8_readTest_74 : decode cX8_readTest 74 = .ok (.iadd, 1) := by decide +kernel
theorem dX8_readTest_75 : decode cX8_readTest 75 = .ok (.putfield 163, 3) := by decide +kernel
theorem dX8_readTest_78 : decode cX8_readTest 78 = .ok (.aload_n 0, 1) := by decide +kernel
theorem dX8_readTest_79 : decode cX8_readTest 79 = .ok (.getfield 56, 3) := by decide +kernel
theorem dX8_readTest_82 : decode cX8_readTest 82 = .ok (.iload_n 1, 1) := by decide +kernel
theorem dX8_readTest_83 : decode cX8_readTest 83 = .ok (.aload_n 0, 1) := by decide +kernel
theorem dX8_readTest_84 : decode cX8_readTest 84 = .ok (.iload_n 1, 1) := by decide +kernel
theorem dX8_readTest_85 : decode cX8_readTest 85 = .ok (.iload_n 2, 1) := by decide +kernel
theorem dX8_readTest_86 : decode cX8_readTest 86 = .ok (.iload_n 3, 1) := by decide +kernel
theorem dX8_readTest_87 : decode cX8_readTest 87 = .ok (.iconst 1, 1) := by decide +kernel
theorem dX8_readTest_88 : decode cX8_readTest 88 = .ok (.iadd, 1) := by decide +kernel
theorem dX8_readTest_89 : decode cX8_readTest 89 = .ok (.invokevirtual 224, 3) := by decide +kernel
theorem dX8_readTest_92 : decode cX8_readTest 92 = .ok (.iastore, 1) := by decide +kernel
theorem dX8_readTest_93 : decode cX8_readTest 93 = .ok (.return_, 1) := by decide +kernel
theorem dX8_readTry_0 : decode cX8_readTry 0 = .ok (.aload_n 0, 1) := by decide +kernel
theorem dX8_readTry_1 : decode cX8_readTry 1 = .ok (.getfield 53, 3) := by decide +kernel
theorem dX8_readTry_4 : decode cX8_readTry 4 = .ok (.iload_n 1, 1) := by decide +kernel
theorem dX8_readTry_5 : decode cX8_readTry 5 = .ok (.aload_n 0, 1) := by decide +kernel
theorem dX8_readTry_6 : decode cX8_readTry 6 = .ok (.iload_n 1, 1) := by decide +kernel
theorem dX8_readTry_7 : decode cX8_readTry 7 = .ok (.iload_n 2, 1) := by decide +kernel
theorem dX8_readTry_8 : decode cX8_readTry 8 = .ok (.iload_n 3, 1) := by decide +kernel
theorem dX8_readTry_9 : decode cX8_readTry 9 = .ok (.iconst 1, 1) := by decide +kernel
theorem dX8_readTry_10 : decode cX8_readTry 10 = .ok (.iadd, 1) := by decide +kernel
theorem dX8_readTry_11 : decode cX8_readTry 11 = .ok (.invokevirtual 224, 3) := by decide +kernel
theorem dX8_readTry_14 : decode cX8_readTry 14 = .ok (.iastore, 1) := by decide +kernel
theorem dX8_readTry_15 : decode cX8_readTry 15 = .ok (.aload_n 0, 1) := by decide +kernel
theorem dX8_readTry_16 : decode cX8_readTry 16 = .ok (.invokevirtual 172, 3) := by decide +kernel
theorem dX8_readTry_19 : decode cX8_readTry 19 = .ok (.ifCond .ne 4, 3) := by decide +kernel
theorem dX8_readTry_22 : decode cX8_readTry 22 = .ok (.return_, 1) := by decide +kernel
theorem dX8_readTry_23 : decode cX8_readTry 23 = .ok (.aload_n 0, 1) := by decide +kernel
theorem dX8_readTry_24 : decode cX8_readTry 24 = .ok (.getfield 44, 3) := by decide +kernel
theorem dX8_readTry_27 : decode cX8_readTry 27 = .ok (.iload_n 1, 1) := by decide +kernel
theorem dX8_readTry_28 : decode cX8_readTry 28 = .ok (.aload_n 0, 1) := by decide +kernel
theorem dX8_readTry_29 : decode cX8_readTry 29 = .ok (.iconst 0, 1) := by decide +kernel
theorem dX8_readTry_30 : decode cX8_readTry 30 = .ok (.invokevirtual 183, 3) := by decide +kernel
theorem dX8_readTry_33 : decode cX8_readTry 33 = .ok (.iastore, 1) := by decide +kernel
theorem dX8_readTry_34 : decode cX8_readTry 34 = .ok (.aload_n 0, 1) := by decide +kernel
theorem dX8_readTry_35 : decode cX8_readTry 35 = .ok (.getfield 44, 3) := by decide +kernel
theorem dX8_readTry_38 : decode cX8_readTry 38 = .ok (.iload_n 1, 1) := by decide +kernel
theorem dX8_readTry_39 : decode cX8_readTry 39 = .ok (.iaload, 1) := by decide +kernel
theorem dX8_readTry_40 : decode cX8_readTry 40 = .ok (.iconst (-1), 1) := by decide +kernel
theorem dX8_readTry_41 : decode cX8_readTry 41 = .ok (.if_icmp .ne 9, 3) := by decide +kernel
theorem dX8_readTry_44 : decode cX8_readTry 44 = .ok (.aload_n 0, 1) := by decide +kernel
theorem dX8_readTry_45 : decode cX8_readTry 45 = .ok (.iconst 1, 1) := by decide +kernel
theorem dX8_readTry_46 : decode cX8_readTry 46 = .ok (.invokevirtual 180, 3) := by decide +kernel
theorem dX8_readTry_49 : decode cX8_readTry 49 = .ok (.return_, 1) := by decide +kernel
theorem dX8_readTry_50 : decode cX8_readTry 50 = .ok (.aload_n 0, 1) := by decide +kernel
theorem dX8_readTry_51 : decode cX8_readTry 51 = .ok (.dup, 1) := by decide +kernel
theorem dX8_readTry_52 : decode cX8_readTry 52 = .ok (.getfield 163, 3) := by decide +kernel
theorem dX8_readTry_55 : decode cX8_readTry 55 = .ok (.iconst 1, 1) := by decide +kernel
theorem dX8_readTry_56 : decode cX8_readTry 56 = .ok (.iadd, 1) := by decide +kernel
theorem dX8_readTry_57 : decode cX8_readTry 57 = .ok (.putfield 163, 3) := by decide +kernel
theorem dX8_readTry_60 : decode cX8_readTry 60 = .ok (.aload_n 0, 1) := by decide +kernel
theorem dX8_readTry_61 : decode cX8_readTry 61 = .ok (.getfield 56, 3) := by decide +kernel
theorem dX8_readTry_64 : decode cX8_readTry 64 = .ok (.iload_n 1, 1) := by decide +kernel
theorem dX8_readTry_65 : decode cX8_readTry 65 = .ok (.aload_n 0, 1) := by decide +kernel
theorem dX8_readTry_66 : decode cX8_readTry 66 = .ok (.iload_n 1, 1) := by decide +kernel
theorem dX8_readTry_67 : decode cX8_readTry 67 = .ok (.iload_n 2, 1) := by decide +kernel
theorem dX8_readTry_68 : decode cX8_readTry 68 = .ok (.iload_n 3, 1) := by decide +kernel
theorem dX8_readTry_69 : decode cX8_readTry 69 = .ok (.iconst 1, 1) := by decide +kernel
theorem dX8_readTry_70 : decode cX8_readTry 70 = .ok (.iadd, 1) := by decide +kernel
theorem dX8_readTry_71 : decode cX8_readTry 71 = .ok (.invokevirtual 224, 3) := by decide +kernel
theorem dX8_readTry_74 : decode cX8_readTry 74 = .ok (.iastore, 1) := by decide +kernel
theorem dX8_readTry_75 : decode cX8_readTry 75 = .ok (.return_, 1) := by decide +kernel
set_option maxHeartbeats 4000000 in
set_option maxRecDepth 100000 in
theorem s_X8_readBlock_b (l : Launch) (d : Nat) {t : Nat} (ihI : ∀ {P : PP} {h : HP} (_ : Iv P h) (a2 : Int32) (a2l : 0 ≤ a2.toInt) (a2u : a2.toInt ≤ 559) (a3 : Int32) (a3l : 0 ≤ a3.toInt) (a3u : a3.toInt ≤ 4) (a4 : Int32) (a4l : 0 ≤ a4.toInt) (a4u : a4.toInt ≤ 6) (h0 : (h.2.1 70 5).toInt = 0) (hp : 6 * (V h.2.1 73 (h.2.1 70 6).toInt - V h.2.1 75 (h.2.1 70 6).toInt) ≤ (h.2.1 70 4).toInt + 5 * a4.toInt ∧ 2 * V h.2.1 74 (h.2.1 70 6).toInt ≤ (h.2.1 70 4).toInt + a4.toInt + 1) (ht : TR h.2.1 (h.2.1 70 6).toInt ∧ BB h.2.1 (h.2.1 70 6).toInt a2.toInt ∧ OO h.2.1 (h.2.1 70 6).toInt (V h.2.1 92 a2.toInt) a4.toInt) (hd : 7 ≤ a4.toInt + (t : Int)), Mt l yX8_readItem cX8_readItem 7 none (d + 2) [.ref 70, .int a2, .int a3, .int a4] h 0 0 (fun r h' => r = none ∧ (∃ Q : PP, Iv Q h' ∧ MW P Q) ∧ ((h'.2.1 70 5).toInt = 0 → (h.2.1 70 5).toInt = 0) ∧ ((h.2.1 70 4).toInt ≤ (h'.2.1 70 4).toInt) ∧ ((h'.2.1 70 5).toInt = 0 → (h.2.1 70 4).toInt + 1 ≤ (h'.2.1 70 4).toInt ∧ 6 * (V h'.2.1 73 (h.2.1 70 6).toInt - V h'.2.1 75 (h.2.1 70 6).toInt) - (h'.2.1 70 4).toInt ≤ 6 * (V h.2.1 73 (h.2.1 70 6).toInt - V h.2.1 75 (h.2.1 70 6).toInt) - (h.2.1 70 4).toInt ∧ 2 * V h'.2.1 74 (h.2.1 70 6).toInt - (h'.2.1 70 4).toInt ≤ 2 * V h.2.1 74 (h.2.1 70 6).toInt - (h.2.1 70 4).toInt) ∧ ((h'.2.1 70 5).toInt = 0 → RI h.2.1 h'.2.1 (h.2.1 70 6).toInt a2.toInt a4.toInt) ∧ (KP h.2.1 h'.2.1) ∧ (OH h.2.1 h'.2.1 (h.2.1 70 6).toInt) ∧ (CKF h.2.1 → CKF h'.2.1))) {P : PP} {h : HP} (hv : Iv P h) (a2 : Int32) (a2l : -1 ≤ a2.toInt) (a2u : a2.toInt ≤ 259) (a3 : Int32) (a3l : 0 ≤ a3.toInt) (a3u : a3.toInt ≤ 4) (a4 : Int32) (a4l : 0 ≤ a4.toInt) (a4u : a4.toInt ≤ 7) (hp : (h.2.1 70 5).toInt = 0 → 6 * (V h.2.1 73 (h.2.1 70 6).toInt - V h.2.1 75 (h.2.1 70 6).toInt) ≤ (h.2.1 70 4).toInt + 5 * a4.toInt ∧ 2 * V h.2.1 74 (h.2.1 70 6).toInt ≤ (h.2.1 70 4).toInt + a4.toInt) (ht : (h.2.1 70 5).toInt = 0 → TR h.2.1 (h.2.1 70 6).toInt ∧ OO h.2.1 (h.2.1 70 6).toInt a2.toInt a4.toInt) (hd : 7 ≤ a4.toInt + (t : Int)) : Mt l yX8_readBlock cX8_readBlock 5 (some .int) (d + 3) [.ref 70, .int a2, .int a3, .int a4] h 0 0 (fun r h' => ∃ v : Int32, r = some (.int v) ∧ 0 ≤ v.toInt ∧ v.toInt ≤ 559 ∧ (∃ Q : PP, Iv Q h' ∧ MW P Q) ∧ ((h'.2.1 70 5).toInt = 0 → (h.2.1 70 5).toInt = 0) ∧ ((h.2.1 70 4).toInt ≤ (h'.2.1 70 4).toInt) ∧ ((h'.2.1 70 5).toInt = 0 → (h.2.1 70 4).toInt + 2 ≤ (h'.2.1 70 4).toInt ∧ 6 * (V h'.2.1 73 (h.2.1 70 6).toInt - V h'.2.1 75 (h.2.1 70 6).toInt) - (h'.2.1 70 4).toInt ≤ 6 * (V h.2.1 73 (h.2.1 70 6).toInt - V h.2.1 75 (h.2.1 70 6).toInt) - (h.2.1 70 4).toInt - 2 ∧ 2 * V h'.2.1 74 (h.2.1 70 6).toInt - (h'.2.1 70 4).toInt ≤ 2 * V h.2.1 74 (h.2.1 70 6).toInt - (h.2.1 70 4).toInt) ∧ ((h'.2.1 70 5).toInt = 0 → RB h.2.1 h'.2.1 (h.2.1 70 6).toInt a2.toInt a4.toInt v.toInt) ∧ (KP h.2.1 h'.2.1) ∧ (OH h.2.1 h'.2.1 (h.2.1 70 6).toInt) ∧ (CKF h.2.1 → CKF h'.2.1)) := by
  refine Mt_iv hv (by decide) (Nat.le_of_ble_eq_true rfl) ?_
  show Go l RX8 cX8_readBlock 5 (g_rm (d + 3) 0 0) "readBlock" (some .int) 117 0 0 (fun _ _ => True) (fun r h' => ∃ v : Int32, r = some (.int v) ∧ 0 ≤ v.toInt ∧ v.toInt ≤ 559 ∧ (∃ Q : PP, Iv Q h' ∧ MW P Q) ∧ ((h'.2.1 70 5).toInt = 0 → (h.2.1 70 5).toInt = 0) ∧ ((h.2.1 70 4).toInt ≤ (h'.2.1 70 4).toInt) ∧ ((h'.2.1 70 5).toInt = 0 → (h.2.1 70 4).toInt + 2 ≤ (h'.2.1 70 4).toInt ∧ 6 * (V h'.2.1 73 (h.2.1 70 6).toInt - V h'.2.1 75 (h.2.1 70 6).toInt) - (h'.2.1 70 4).toInt ≤ 6 * (V h.2.1 73 (h.2.1 70 6).toInt - V h.2.1 75 (h.2.1 70 6).toInt) - (h.2.1 70 4).toInt - 2 ∧ 2 * V h'.2.1 74 (h.2.1 70 6).toInt - (h'.2.1 70 4).toInt ≤ 2 * V h.2.1 74 (h.2.1 70 6).toInt - (h.2.1 70 4).toInt) ∧ ((h'.2.1 70 5).toInt = 0 → RB h.2.1 h'.2.1 (h.2.1 70 6).toInt a2.toInt a4.toInt v.toInt) ∧ (KP h.2.1 h'.2.1) ∧ (OH h.2.1 h'.2.1 (h.2.1 70 6).toInt) ∧ (CKF h.2.1 → CKF h'.2.1)) 0 0 [(0, .ref 70), (1, .int a2), (2, .int a3), (3, .int a4)] [] h
  obtain ⟨S, hS⟩ : ∃ S : Int, S = (h.2.1 70 6).toInt := ⟨_, rfl⟩
  have S0 : 0 ≤ S := by rw [hS]; exact (hv.2.1 70 6).1
  have S1 : S ≤ 1 := by rw [hS]; exact (hv.2.1 70 6).2
  have oh : OH h.2.1 h.2.1 S := OH.rfl _ _
  have ck : CKF h.2.1 → CKF h.2.1 := id
  have kp : KP h.2.1 h.2.1 := KP.rfl _
  rw [← hS] at hp
  rw [← hS] at ht
  have key : ∀ n : Nat, (∀ (l2 : Int32) (l3 : Int32) (l4 : Int32) (Qx : PP) (hx : HP), Iv Qx hx → MW P Qx → 0 ≤ l2.toInt → l2.toInt ≤ 4 → 0 ≤ l3.toInt → l3.toInt ≤ 7 → 0 ≤ l4.toInt → l4.toInt ≤ 559 → ((h.2.1 70 4).toInt ≤ (hx.2.1 70 4).toInt) → ((hx.2.1 70 5).toInt = 0 → LI h.2.1 hx.2.1 S a2.toInt a4.toInt l4.toInt) → ((hx.2.1 70 5).toInt = 0 → (h.2.1 70 5).toInt = 0) → (l2.toInt = a3.toInt) → (l3.toInt = a4.toInt) → ((hx.2.1 70 5).toInt = 0 → (h.2.1 70 4).toInt + 1 ≤ (hx.2.1 70 4).toInt ∧ 6 * (V hx.2.1 73 S - V hx.2.1 75 S) - (hx.2.1 70 4).toInt ≤ 6 * (V h.2.1 73 S - V h.2.1 75 S) - (h.2.1 70 4).toInt - 1 ∧ 2 * V hx.2.1 74 S - (hx.2.1 70 4).toInt ≤ 2 * V h.2.1 74 S - (h.2.1 70 4).toInt + 1 ∧ a4.toInt ≤ 6) → (0 ≤ gd (hx.2.1 70 5).toInt) → OH h.2.1 hx.2.1 S → (CKF h.2.1 → CKF hx.2.1) → KP h.2.1 hx.2.1 → (0 : Int) ≤ (hx.2.1 70 4).toInt → (hx.2.1 70 4).toInt ≤ 500 → (-2147483648 : Int) ≤ (hx.2.1 70 5).toInt → (hx.2.1 70 5).toInt ≤ 2147483647 → (3 * (2 * (500 - (hx.2.1 70 4).toInt) + gd (hx.2.1 70 5).toInt) + 2 : Int) < n → Go l RX8 cX8_readBlock 5 (g_rm (d + 3) 0 0) "readBlock" (some .int) 117 0 0 (fun _ _ => True) (fun r h' => ∃ v : Int32, r = some (.int v) ∧ 0 ≤ v.toInt ∧ v.toInt ≤ 559 ∧ (∃ Q : PP, Iv Q h' ∧ MW P Q) ∧ ((h'.2.1 70 5).toInt = 0 → (h.2.1 70 5).toInt = 0) ∧ ((h.2.1 70 4).toInt ≤ (h'.2.1 70 4).toInt) ∧ ((h'.2.1 70 5).toInt = 0 → (h.2.1 70 4).toInt + 2 ≤ (h'.2.1 70 4).toInt ∧ 6 * (V h'.2.1 73 (h.2.1 70 6).toInt - V h'.2.1 75 (h.2.1 70 6).toInt) - (h'.2.1 70 4).toInt ≤ 6 * (V h.2.1 73 (h.2.1 70 6).toInt - V h.2.1 75 (h.2.1 70 6).toInt) - (h.2.1 70 4).toInt - 2 ∧ 2 * V h'.2.1 74 (h.2.1 70 6).toInt - (h'.2.1 70 4).toInt ≤ 2 * V h.2.1 74 (h.2.1 70 6).toInt - (h.2.1 70 4).toInt) ∧ ((h'.2.1 70 5).toInt = 0 → RB h.2.1 h'.2.1 (h.2.1 70 6).toInt a2.toInt a4.toInt v.toInt) ∧ (KP h.2.1 h'.2.1) ∧ (OH h.2.1 h'.2.1 (h.2.1 70 6).toInt) ∧ (CKF h.2.1 → CKF h'.2.1)) 0 8 [(0, .ref 70), (2, .int l2), (3, .int l3), (4, .int l4)] [] hx) := by
    intro n
    induction n with
    | zero => exact (by intros; omega)
    | succ n ih =>
      refine ?_
      ·
        intro l2 l3 l4 Qx hx hvx sqx l2l l2u l3l l3u l4l l4u x0 x1 x2 x3 x4 x5 x6 ohx ckx kpx y0l y0u y1l y1u hm
        have gdx := gd_spec (hx.2.1 70 5).toInt
        refine go_aload_n (pc := 8) rfl dX8_readBlock_8 ?_
        refine go_invV (pc := 9) (sl := 0) (s_X8_isGood l (d + 1) hvx ) mL_X8_172 iM_X8_isGood sM_X8_isGood (hvx.sh rfl) rfl rfl rfl (Nat.le_of_ble_eq_true rfl) (show d + 1 + 1 + 1 ≤ d + 3 by omega) (show 8 + (1 + 11) + 40 * (d + 1 + 1) ≤ 40 * (d + 3) by omega) (g_c0 hvx.ln) (Nat.le_of_ble_eq_true rfl) dX8_readBlock_9 ?_
        intro r h1 hq _
        obtain ⟨v4, rfl, v4l, v4u, rfl, f2, f3⟩ := hq
        refine gf_if_eq (pc := 12) (tgt := 35) (ti_rfl v4) (by decide) dX8_readBlock_12 (fun q5 => ?_) (fun q5 => ?_)
        ·
          refine go_aload_n (pc := 35) rfl dX8_readBlock_35 ?_
          refine go_bipush (pc := 36) (v := 125) (by decide) dX8_readBlock_36 ?_
          have g6 : (0 : Int) ≤ (hx.2.1 70 4).toInt := (hvx.2.1 70 4).1
          have g7 : (hx.2.1 70 4).toInt ≤ 500 := (hvx.2.1 70 4).2
          have g8 : (-2147483648 : Int) ≤ (hx.2.1 70 5).toInt := (hvx.2.1 70 5).1
          have g9 : (hx.2.1 70 5).toInt ≤ 2147483647 := (hvx.2.1 70 5).2
          refine go_invV (pc := 38) (sl := 0) (s_X8_must l (d + 0) hvx 125 (by rw [show (125 : Int32).toInt = 125 from (ti_c (v := 125) (a := 125) (by decide))]; omega) (by rw [show (125 : Int32).toInt = 125 from (ti_c (v := 125) (a := 125) (by decide))]; omega)) mL_X8_198 iM_X8_must sM_X8_must (hvx.sh rfl) rfl rfl rfl (Nat.le_of_ble_eq_true rfl) (show d + 0 + 2 + 1 ≤ d + 3 by omega) (show 8 + (2 + 11) + 40 * (d + 0 + 2) ≤ 40 * (d + 3) by omega) (g_c0 hvx.ln) (Nat.le_of_ble_eq_true rfl) dX8_readBlock_38 ?_
          intro r h10 hq _
          obtain ⟨rfl, hv10, f11, f12, f13⟩ := hq
          try rw [show (125 : Int32).toInt = 125 from (ti_c (v := 125) (a := 125) (by decide))] at f11
          try rw [show (125 : Int32).toInt = 125 from (ti_c (v := 125) (a := 125) (by decide))] at f12
          try rw [show (125 : Int32).toInt = 125 from (ti_c (v := 125) (a := 125) (by decide))] at f13
          have ve10 : VE hx.2.1 h10.2.1 := VE.of hvx hv10
          have oh10 : OH h.2.1 h10.2.1 S := ohx.trans (OH.of hvx hv10 S)
          have kp10 : KP h.2.1 h10.2.1 := kpx.trans (KP.ve ve10)
          have ck10 : CKF h.2.1 → CKF h10.2.1 := fun z => CKF.ve ve10 (ckx z)
          have n73_10 : V h10.2.1 73 S = V hx.2.1 73 S := ve10.v (by omega) (by omega)
          have n74_10 : V h10.2.1 74 S = V hx.2.1 74 S := ve10.v (by omega) (by omega)
          have n75_10 : V h10.2.1 75 S = V hx.2.1 75 S := ve10.v (by omega) (by omega)
          obtain ⟨u14, u14w⟩ : ∃ v : Int32, v = h10.2.1 70 4 := ⟨_, rfl⟩
          have u14e : (h10.2.1 70 4).toInt = u14.toInt := by rw [u14w]
          have u14l : 0 ≤ u14.toInt := by rw [u14w]; exact (hv10.2.1 70 4).1
          have u14u : u14.toInt ≤ 500 := by rw [u14w]; exact (hv10.2.1 70 4).2
          obtain ⟨u15, u15w⟩ : ∃ v : Int32, v = h10.2.1 70 5 := ⟨_, rfl⟩
          have u15e : (h10.2.1 70 5).toInt = u15.toInt := by rw [u15w]
          have u15l : -2147483648 ≤ u15.toInt := by rw [u15w]; exact (hv10.2.1 70 5).1
          have u15u : u15.toInt ≤ 2147483647 := by rw [u15w]; exact (hv10.2.1 70 5).2
          refine go_iload (pc := 41) rfl dX8_readBlock_41 ?_
          have g16 : (0 : Int) ≤ (h10.2.1 70 4).toInt := (hv10.2.1 70 4).1
          have g17 : (h10.2.1 70 4).toInt ≤ 500 := (hv10.2.1 70 4).2
          have g18 : (-2147483648 : Int) ≤ (h10.2.1 70 5).toInt := (hv10.2.1 70 5).1
          have g19 : (h10.2.1 70 5).toInt ≤ 2147483647 := (hv10.2.1 70 5).2
          have g20 : (h10.2.1 70 4).toInt = u14.toInt := by rw [← (show u14 = h10.2.1 70 4 from u14w)] <;> exact (ti_rfl u14)
          have g21 : (h10.2.1 70 5).toInt = u15.toInt := by rw [← (show u15 = h10.2.1 70 5 from u15w)] <;> exact (ti_rfl u15)
          have pp22 : (h10.2.1 70 5).toInt = 0 → (h.2.1 70 5).toInt = 0 := (by omega)
          have pp23 : (h.2.1 70 4).toInt ≤ (h10.2.1 70 4).toInt := (by omega)
          have pp24 : (h10.2.1 70 5).toInt = 0 → (h.2.1 70 4).toInt + 2 ≤ (h10.2.1 70 4).toInt ∧ 6 * (V h10.2.1 73 S - V h10.2.1 75 S) - (h10.2.1 70 4).toInt ≤ 6 * (V h.2.1 73 S - V h.2.1 75 S) - (h.2.1 70 4).toInt - 2 ∧ 2 * V h10.2.1 74 S - (h10.2.1 70 4).toInt ≤ 2 * V h.2.1 74 S - (h.2.1 70 4).toInt := (by omega)
          have pp25 : (h10.2.1 70 5).toInt = 0 → RB h.2.1 h10.2.1 S a2.toInt a4.toInt (l4 : Int32).toInt := (fun hg => LI.fin (LI.ve (x1 (by omega)) ve10))
          subst hS
          exact gi_iret (pc := 43) (ti_rfl l4) ⟨_, rfl, (by rw [show (l4 : Int32).toInt = l4.toInt from (ti_rfl l4)]; omega), (by rw [show (l4 : Int32).toInt = l4.toInt from (ti_rfl l4)]; omega), ⟨_, hv10, sqx⟩, pp22, pp23, pp24, pp25, kp10, oh10, ck10⟩ hv10 dX8_readBlock_43
        ·
          refine go_aload_n (pc := 15) rfl dX8_readBlock_15 ?_
          have g26 : (0 : Int) ≤ (hx.2.1 70 4).toInt := (hvx.2.1 70 4).1
          have g27 : (hx.2.1 70 4).toInt ≤ 500 := (hvx.2.1 70 4).2
          have g28 : (-2147483648 : Int) ≤ (hx.2.1 70 5).toInt := (hvx.2.1 70 5).1
          have g29 : (hx.2.1 70 5).toInt ≤ 2147483647 := (hvx.2.1 70 5).2
          refine go_invV (pc := 16) (sl := 0) (s_X8_here l (d + 1) hvx ) mL_X8_176 iM_X8_here sM_X8_here (hvx.sh rfl) rfl rfl rfl (Nat.le_of_ble_eq_true rfl) (show d + 1 + 1 + 1 ≤ d + 3 by omega) (show 8 + (1 + 11) + 40 * (d + 1 + 1) ≤ 40 * (d + 3) by omega) (g_c0 hvx.ln) (Nat.le_of_ble_eq_true rfl) dX8_readBlock_16 ?_
          intro r h30 hq _
          obtain ⟨v35, rfl, v35l, v35u, hv30, f31, f32, f33, f34⟩ := hq
          have ve30 : VE hx.2.1 h30.2.1 := VE.of hvx hv30
          have oh30 : OH h.2.1 h30.2.1 S := ohx.trans (OH.of hvx hv30 S)
          have kp30 : KP h.2.1 h30.2.1 := kpx.trans (KP.ve ve30)
          have ck30 : CKF h.2.1 → CKF h30.2.1 := fun z => CKF.ve ve30 (ckx z)
          have n73_30 : V h30.2.1 73 S = V hx.2.1 73 S := ve30.v (by omega) (by omega)
          have n74_30 : V h30.2.1 74 S = V hx.2.1 74 S := ve30.v (by omega) (by omega)
          have n75_30 : V h30.2.1 75 S = V hx.2.1 75 S := ve30.v (by omega) (by omega)
          obtain ⟨u36, u36w⟩ : ∃ v : Int32, v = h30.2.1 70 4 := ⟨_, rfl⟩
          have u36e : (h30.2.1 70 4).toInt = u36.toInt := by rw [u36w]
          have u36l : 0 ≤ u36.toInt := by rw [u36w]; exact (hv30.2.1 70 4).1
          have u36u : u36.toInt ≤ 500 := by rw [u36w]; exact (hv30.2.1 70 4).2
          obtain ⟨u37, u37w⟩ : ∃ v : Int32, v = h30.2.1 70 5 := ⟨_, rfl⟩
          have u37e : (h30.2.1 70 5).toInt = u37.toInt := by rw [u37w]
          have u37l : -2147483648 ≤ u37.toInt := by rw [u37w]; exact (hv30.2.1 70 5).1
          have u37u : u37.toInt ≤ 2147483647 := by rw [u37w]; exact (hv30.2.1 70 5).2
          refine go_bipush (pc := 19) (v := 125) (by decide) dX8_readBlock_19 ?_
          refine gf_icmp_eq (pc := 21) (tgt := 35) (ti_rfl v35) (ti_c (v := 125) (a := 125) (by decide)) (by decide) dX8_readBlock_21 (fun q38 => ?_) (fun q38 => ?_)
          ·
            refine go_aload_n (pc := 35) rfl dX8_readBlock_35 ?_
            refine go_bipush (pc := 36) (v := 125) (by decide) dX8_readBlock_36 ?_
            have g39 : (0 : Int) ≤ (h30.2.1 70 4).toInt := (hv30.2.1 70 4).1
            have g40 : (h30.2.1 70 4).toInt ≤ 500 := (hv30.2.1 70 4).2
            have g41 : (-2147483648 : Int) ≤ (h30.2.1 70 5).toInt := (hv30.2.1 70 5).1
            have g42 : (h30.2.1 70 5).toInt ≤ 2147483647 := (hv30.2.1 70 5).2
            have g43 : (h30.2.1 70 4).toInt = u36.toInt := by rw [← (show u36 = h30.2.1 70 4 from u36w)] <;> exact (ti_rfl u36)
            have g44 : (h30.2.1 70 5).toInt = u37.toInt := by rw [← (show u37 = h30.2.1 70 5 from u37w)] <;> exact (ti_rfl u37)
            refine go_invV (pc := 38) (sl := 0) (s_X8_must l (d + 0) hv30 125 (by rw [show (125 : Int32).toInt = 125 from (ti_c (v := 125) (a := 125) (by decide))]; omega) (by rw [show (125 : Int32).toInt = 125 from (ti_c (v := 125) (a := 125) (by decide))]; omega)) mL_X8_198 iM_X8_must sM_X8_must (hv30.sh rfl) rfl rfl rfl (Nat.le_of_ble_eq_true rfl) (show d + 0 + 2 + 1 ≤ d + 3 by omega) (show 8 + (2 + 11) + 40 * (d + 0 + 2) ≤ 40 * (d + 3) by omega) (g_c0 hv30.ln) (Nat.le_of_ble_eq_true rfl) dX8_readBlock_38 ?_
            intro r h45 hq _
            obtain ⟨rfl, hv45, f46, f47, f48⟩ := hq
            try rw [show (125 : Int32).toInt = 125 from (ti_c (v := 125) (a := 125) (by decide))] at f46
            try rw [show (125 : Int32).toInt = 125 from (ti_c (v := 125) (a := 125) (by decide))] at f47
            try rw [show (125 : Int32).toInt = 125 from (ti_c (v := 125) (a := 125) (by decide))] at f48
            have ve45 : VE h30.2.1 h45.2.1 := VE.of hv30 hv45
            have oh45 : OH h.2.1 h45.2.1 S := oh30.trans (OH.of hv30 hv45 S)
            have kp45 : KP h.2.1 h45.2.1 := kp30.trans (KP.ve ve45)
            have ck45 : CKF h.2.1 → CKF h45.2.1 := fun z => CKF.ve ve45 (ck30 z)
            have n73_45 : V h45.2.1 73 S = V h30.2.1 73 S := ve45.v (by omega) (by omega)
            have n74_45 : V h45.2.1 74 S = V h30.2.1 74 S := ve45.v (by omega) (by omega)
            have n75_45 : V h45.2.1 75 S = V h30.2.1 75 S := ve45.v (by omega) (by omega)
            obtain ⟨u49, u49w⟩ : ∃ v : Int32, v = h45.2.1 70 4 := ⟨_, rfl⟩
            have u49e : (h45.2.1 70 4).toInt = u49.toInt := by rw [u49w]
            have u49l : 0 ≤ u49.toInt := by rw [u49w]; exact (hv45.2.1 70 4).1
            have u49u : u49.toInt ≤ 500 := by rw [u49w]; exact (hv45.2.1 70 4).2
            obtain ⟨u50, u50w⟩ : ∃ v : Int32, v = h45.2.1 70 5 := ⟨_, rfl⟩
            have u50e : (h45.2.1 70 5).toInt = u50.toInt := by rw [u50w]
            have u50l : -2147483648 ≤ u50.toInt := by rw [u50w]; exact (hv45.2.1 70 5).1
            have u50u : u50.toInt ≤ 2147483647 := by rw [u50w]; exact (hv45.2.1 70 5).2
            refine go_iload (pc := 41) rfl dX8_readBlock_41 ?_
            have g51 : (0 : Int) ≤ (h45.2.1 70 4).toInt := (hv45.2.1 70 4).1
            have g52 : (h45.2.1 70 4).toInt ≤ 500 := (hv45.2.1 70 4).2
            have g53 : (-2147483648 : Int) ≤ (h45.2.1 70 5).toInt := (hv45.2.1 70 5).1
            have g54 : (h45.2.1 70 5).toInt ≤ 2147483647 := (hv45.2.1 70 5).2
            have g55 : (h45.2.1 70 4).toInt = u49.toInt := by rw [← (show u49 = h45.2.1 70 4 from u49w)] <;> exact (ti_rfl u49)
            have g56 : (h45.2.1 70 5).toInt = u50.toInt := by rw [← (show u50 = h45.2.1 70 5 from u50w)] <;> exact (ti_rfl u50)
            have pp57 : (h45.2.1 70 5).toInt = 0 → (h.2.1 70 5).toInt = 0 := (by omega)
            have pp58 : (h.2.1 70 4).toInt ≤ (h45.2.1 70 4).toInt := (by omega)
            have pp59 : (h45.2.1 70 5).toInt = 0 → (h.2.1 70 4).toInt + 2 ≤ (h45.2.1 70 4).toInt ∧ 6 * (V h45.2.1 73 S - V h45.2.1 75 S) - (h45.2.1 70 4).toInt ≤ 6 * (V h.2.1 73 S - V h.2.1 75 S) - (h.2.1 70 4).toInt - 2 ∧ 2 * V h45.2.1 74 S - (h45.2.1 70 4).toInt ≤ 2 * V h.2.1 74 S - (h.2.1 70 4).toInt := (by omega)
            have pp60 : (h45.2.1 70 5).toInt = 0 → RB h.2.1 h45.2.1 S a2.toInt a4.toInt (l4 : Int32).toInt := (fun hg => LI.fin (LI.ve (LI.ve (x1 (by omega)) ve30) ve45))
            subst hS
            exact gi_iret (pc := 43) (ti_rfl l4) ⟨_, rfl, (by rw [show (l4 : Int32).toInt = l4.toInt from (ti_rfl l4)]; omega), (by rw [show (l4 : Int32).toInt = l4.toInt from (ti_rfl l4)]; omega), ⟨_, hv45, sqx⟩, pp57, pp58, pp59, pp60, kp45, oh45, ck45⟩ hv45 dX8_readBlock_43
          ·
            refine go_aload_n (pc := 24) rfl dX8_readBlock_24 ?_
            refine go_iload (pc := 25) rfl dX8_readBlock_25 ?_
            refine go_iload_n (pc := 27) rfl dX8_readBlock_27 ?_
            refine go_iload_n (pc := 28) rfl dX8_readBlock_28 ?_
            have hgg : (h.2.1 70 5).toInt = 0 := by omega
            have li := ((LI.ve (x1 (by omega)) ve30)) (ht hgg).1 (ht hgg).2
            obtain ⟨t1, t2, t3, t4, t5, t6, t7⟩ := li
            have tp := (ht hgg).1.1
            have hpp := hp hgg
            have sM61 : (h30.2.1 70 6).toInt = S := (congrArg Int32.toInt oh30.side).trans hS.symm
            have g62 : (0 : Int) ≤ (h30.2.1 70 4).toInt := (hv30.2.1 70 4).1
            have g63 : (h30.2.1 70 4).toInt ≤ 500 := (hv30.2.1 70 4).2
            have g64 : (-2147483648 : Int) ≤ (h30.2.1 70 5).toInt := (hv30.2.1 70 5).1
            have g65 : (h30.2.1 70 5).toInt ≤ 2147483647 := (hv30.2.1 70 5).2
            have g66 : (h30.2.1 70 4).toInt = u36.toInt := by rw [← (show u36 = h30.2.1 70 4 from u36w)] <;> exact (ti_rfl u36)
            have g67 : (h30.2.1 70 5).toInt = u37.toInt := by rw [← (show u37 = h30.2.1 70 5 from u37w)] <;> exact (ti_rfl u37)
            refine go_invV (pc := 29) (sl := 0) (ihI hv30 l4 (by rw [show (l4 : Int32).toInt = l4.toInt from (ti_rfl l4)]; omega) (by rw [show (l4 : Int32).toInt = l4.toInt from (ti_rfl l4)]; omega) l2 (by rw [show (l2 : Int32).toInt = l2.toInt from (ti_rfl l2)]; omega) (by rw [show (l2 : Int32).toInt = l2.toInt from (ti_rfl l2)]; omega) l3 (by rw [show (l3 : Int32).toInt = l3.toInt from (ti_rfl l3)]; omega) (by rw [show (l3 : Int32).toInt = l3.toInt from (ti_rfl l3)]; omega) (by omega) (by rw [sM61]; exact (by omega)) (by rw [sM61]; exact ⟨t1, ⟨by omega, t5⟩, by rw [t6, x4]; exact t7⟩) (by omega)) mL_X8_194 iM_X8_readItem sM_X8_readItem (hv30.sh rfl) rfl rfl rfl (Nat.le_of_ble_eq_true rfl) (show d + 2 + 1 ≤ d + 3 by omega) (show 8 + (7 + 11) + 40 * (d + 2) ≤ 40 * (d + 3) by omega) (g_c0 hv30.ln) (Nat.le_of_ble_eq_true rfl) dX8_readBlock_29 ?_
            intro r h68 hq _
            obtain ⟨rfl, ⟨Q69, hv68, sq70⟩, f71, f72, f73, f74, f75, f76, f77⟩ := hq
            rw [sM61] at f73
            rw [sM61] at f74
            rw [sM61] at f76
            have oh68 : OH h.2.1 h68.2.1 S := oh30.trans f76
            have kp68 : KP h.2.1 h68.2.1 := kp30.trans f75
            have ck68 : CKF h.2.1 → CKF h68.2.1 := fun z => f77 (ck30 z)
            obtain ⟨u78, u78w⟩ : ∃ v : Int32, v = h68.2.1 70 4 := ⟨_, rfl⟩
            have u78e : (h68.2.1 70 4).toInt = u78.toInt := by rw [u78w]
            have u78l : 0 ≤ u78.toInt := by rw [u78w]; exact (hv68.2.1 70 4).1
            have u78u : u78.toInt ≤ 500 := by rw [u78w]; exact (hv68.2.1 70 4).2
            obtain ⟨u79, u79w⟩ : ∃ v : Int32, v = h68.2.1 70 5 := ⟨_, rfl⟩
            have u79e : (h68.2.1 70 5).toInt = u79.toInt := by rw [u79w]
            have u79l : -2147483648 ≤ u79.toInt := by rw [u79w]; exact (hv68.2.1 70 5).1
            have u79u : u79.toInt ≤ 2147483647 := by rw [u79w]; exact (hv68.2.1 70 5).2
            have gdk := gd_spec (h68.2.1 70 5).toInt
            refine go_goto (pc := 32) (tgt := 8) (by decide) dX8_readBlock_32 ?_
            have g80 : (0 : Int) ≤ (h68.2.1 70 4).toInt := (hv68.2.1 70 4).1
            have g81 : (h68.2.1 70 4).toInt ≤ 500 := (hv68.2.1 70 4).2
            have g82 : (-2147483648 : Int) ≤ (h68.2.1 70 5).toInt := (hv68.2.1 70 5).1
            have g83 : (h68.2.1 70 5).toInt ≤ 2147483647 := (hv68.2.1 70 5).2
            have g84 : (h68.2.1 70 4).toInt = u78.toInt := by rw [← (show u78 = h68.2.1 70 4 from u78w)] <;> exact (ti_rfl u78)
            have g85 : (h68.2.1 70 5).toInt = u79.toInt := by rw [← (show u79 = h68.2.1 70 5 from u79w)] <;> exact (ti_rfl u79)
            exact go_lv rfl (ih l2 l3 l4 _ h68 hv68 (MW.trans sqx sq70) (by omega) (by omega) (by omega) (by omega) (by omega) (by omega) (by omega) (fun hg => (LI.step S0 (LI.ve (x1 (by omega)) ve30) (by have q := f74 (by omega); rw [x4] at q; exact q))) (by omega) (by omega) (by omega) (by omega) (by omega) oh68 ck68 kp68 (by omega) (by omega) (by omega) (by omega) (by omega))
  refine go_aload_n (pc := 0) rfl dX8_readBlock_0 ?_
  refine go_iload_n (pc := 1) rfl dX8_readBlock_1 ?_
  refine go_iload_n (pc := 2) rfl dX8_readBlock_2 ?_
  have sM86 : (h.2.1 70 6).toInt = S := (congrArg Int32.toInt oh.side).trans hS.symm
  have g87 : (0 : Int) ≤ (h.2.1 70 4).toInt := (hv.2.1 70 4).1
  have g88 : (h.2.1 70 4).toInt ≤ 500 := (hv.2.1 70 4).2
  have g89 : (-2147483648 : Int) ≤ (h.2.1 70 5).toInt := (hv.2.1 70 5).1
  have g90 : (h.2.1 70 5).toInt ≤ 2147483647 := (hv.2.1 70 5).2
  refine go_invV (pc := 3) (sl := 0) (s_X8_newBlock l (d + 0) hv a2 (by rw [show (a2 : Int32).toInt = a2.toInt from (ti_rfl a2)]; omega) (by rw [show (a2 : Int32).toInt = a2.toInt from (ti_rfl a2)]; omega) a4 (by rw [show (a4 : Int32).toInt = a4.toInt from (ti_rfl a4)]; omega) (by rw [show (a4 : Int32).toInt = a4.toInt from (ti_rfl a4)]; omega) (by rw [sM86]; exact (fun q => by have := hp q; omega))) mL_X8_190 iM_X8_newBlock sM_X8_newBlock (hv.sh rfl) rfl rfl rfl (Nat.le_of_ble_eq_true rfl) (show d + 0 + 2 + 1 ≤ d + 3 by omega) (show 8 + (4 + 11) + 40 * (d + 0 + 2) ≤ 40 * (d + 3) by omega) (g_c0 hv.ln) (Nat.le_of_ble_eq_true rfl) dX8_readBlock_3 ?_
  intro r h91 hq _
  obtain ⟨v103, rfl, v103l, v103u, ⟨Q92, hv91, sq93⟩, f94, f95, f96, f97, f98, f99, f100, f101, f102⟩ := hq
  rw [sM86] at f96
  rw [sM86] at f97
  rw [sM86] at f98
  rw [sM86] at f99
  rw [sM86] at f101
  have oh91 : OH h.2.1 h91.2.1 S := oh.trans f101
  have kp91 : KP h.2.1 h91.2.1 := kp.trans f100
  have ck91 : CKF h.2.1 → CKF h91.2.1 := fun z => f102 (ck z)
  obtain ⟨u104, u104w⟩ : ∃ v : Int32, v = h91.2.1 70 4 := ⟨_, rfl⟩
  have u104e : (h91.2.1 70 4).toInt = u104.toInt := by rw [u104w]
  have u104l : 0 ≤ u104.toInt := by rw [u104w]; exact (hv91.2.1 70 4).1
  have u104u : u104.toInt ≤ 500 := by rw [u104w]; exact (hv91.2.1 70 4).2
  obtain ⟨u105, u105w⟩ : ∃ v : Int32, v = h91.2.1 70 5 := ⟨_, rfl⟩
  have u105e : (h91.2.1 70 5).toInt = u105.toInt := by rw [u105w]
  have u105l : -2147483648 ≤ u105.toInt := by rw [u105w]; exact (hv91.2.1 70 5).1
  have u105u : u105.toInt ≤ 2147483647 := by rw [u105w]; exact (hv91.2.1 70 5).2
  have gdk := gd_spec (h91.2.1 70 5).toInt
  refine go_istore (pc := 6) (Nat.le_of_ble_eq_true rfl) dX8_readBlock_6 (go_lv (lv2 := [(0, .ref 70), (1, .int a2), (2, .int a3), (3, .int a4), (4, .int v103)]) rfl ?_)
  have g106 : (0 : Int) ≤ (h91.2.1 70 4).toInt := (hv91.2.1 70 4).1
  have g107 : (h91.2.1 70 4).toInt ≤ 500 := (hv91.2.1 70 4).2
  have g108 : (-2147483648 : Int) ≤ (h91.2.1 70 5).toInt := (hv91.2.1 70 5).1
  have g109 : (h91.2.1 70 5).toInt ≤ 2147483647 := (hv91.2.1 70 5).2
  have g110 : (h91.2.1 70 4).toInt = u104.toInt := by rw [← (show u104 = h91.2.1 70 4 from u104w)] <;> exact (ti_rfl u104)
  have g111 : (h91.2.1 70 5).toInt = u105.toInt := by rw [← (show u105 = h91.2.1 70 5 from u105w)] <;> exact (ti_rfl u105)
  exact go_lv rfl ((key 3022) a3 a4 v103 _ h91 hv91 sq93 (by omega) (by omega) (by omega) (by omega) (by omega) (by omega) (by omega) (fun hg => (f99 (by omega) _)) (by omega) (by omega) (by omega) (by omega) (by omega) oh91 ck91 kp91 (by omega) (by omega) (by omega) (by omega) (by omega))
set_option maxHeartbeats 4000000 in
set_option maxRecDepth 100000 in
theorem s_X8_readTest_b (l : Launch) (d : Nat) {t : Nat} (ihB : ∀ {P : PP} {h : HP} (_ : Iv P h) (a2 : Int32) (a2l : -1 ≤ a2.toInt) (a2u : a2.toInt ≤ 259) (a3 : Int32) (a3l : 0 ≤ a3.toInt) (a3u : a3.toInt ≤ 4) (a4 : Int32) (a4l : 0 ≤ a4.toInt) (a4u : a4.toInt ≤ 7) (hp : (h.2.1 70 5).toInt = 0 → 6 * (V h.2.1 73 (h.2.1 70 6).toInt - V h.2.1 75 (h.2.1 70 6).toInt) ≤ (h.2.1 70 4).toInt + 5 * a4.toInt ∧ 2 * V h.2.1 74 (h.2.1 70 6).toInt ≤ (h.2.1 70 4).toInt + a4.toInt) (ht : (h.2.1 70 5).toInt = 0 → TR h.2.1 (h.2.1 70 6).toInt ∧ OO h.2.1 (h.2.1 70 6).toInt a2.toInt a4.toInt) (hd : 7 ≤ a4.toInt + (t : Int)), Mt l yX8_readBlock cX8_readBlock 5 (some .int) (d + 3) [.ref 70, .int a2, .int a3, .int a4] h 0 0 (fun r h' => ∃ v : Int32, r = some (.int v) ∧ 0 ≤ v.toInt ∧ v.toInt ≤ 559 ∧ (∃ Q : PP, Iv Q h' ∧ MW P Q) ∧ ((h'.2.1 70 5).toInt = 0 → (h.2.1 70 5).toInt = 0) ∧ ((h.2.1 70 4).toInt ≤ (h'.2.1 70 4).toInt) ∧ ((h'.2.1 70 5).toInt = 0 → (h.2.1 70 4).toInt + 2 ≤ (h'.2.1 70 4).toInt ∧ 6 * (V h'.2.1 73 (h.2.1 70 6).toInt - V h'.2.1 75 (h.2.1 70 6).toInt) - (h'.2.1 70 4).toInt ≤ 6 * (V h.2.1 73 (h.2.1 70 6).toInt - V h.2.1 75 (h.2.1 70 6).toInt) - (h.2.1 70 4).toInt - 2 ∧ 2 * V h'.2.1 74 (h.2.1 70 6).toInt - (h'.2.1 70 4).toInt ≤ 2 * V h.2.1 74 (h.2.1 70 6).toInt - (h.2.1 70 4).toInt) ∧ ((h'.2.1 70 5).toInt = 0 → RB h.2.1 h'.2.1 (h.2.1 70 6).toInt a2.toInt a4.toInt v.toInt) ∧ (KP h.2.1 h'.2.1) ∧ (OH h.2.1 h'.2.1 (h.2.1 70 6).toInt) ∧ (CKF h.2.1 → CKF h'.2.1))) {P : PP} {h : HP} (hv : Iv P h) (a2 : Int32) (a2l : 0 ≤ a2.toInt) (a2u : a2.toInt ≤ 259) (a3 : Int32) (a3l : 0 ≤ a3.toInt) (a3u : a3.toInt ≤ 4) (a4 : Int32) (a4l : 0 ≤ a4.toInt) (a4u : a4.toInt ≤ 6) (hi : 130 * (h.2.1 70 6).toInt ≤ a2.toInt ∧ a2.toInt < 130 * (h.2.1 70 6).toInt + 130) (h0 : (h.2.1 70 5).toInt = 0) (hp : 6 * (V h.2.1 73 (h.2.1 70 6).toInt - V h.2.1 75 (h.2.1 70 6).toInt) ≤ (h.2.1 70 4).toInt + 5 * a4.toInt + 5 ∧ 2 * V h.2.1 74 (h.2.1 70 6).toInt ≤ (h.2.1 70 4).toInt + a4.toInt + 1) (ht : TR h.2.1 (h.2.1 70 6).toInt ∧ a2.toInt = 130 * (h.2.1 70 6).toInt + V h.2.1 73 (h.2.1 70 6).toInt - 1 ∧ 0 < V h.2.1 73 (h.2.1 70 6).toInt ∧ V h.2.1 80 a2.toInt = a4.toInt ∧ (V h.2.1 77 a2.toInt = 2 ∨ V h.2.1 77 a2.toInt = 3)) (hd : 7 ≤ a4.toInt + ((t + 1 : Nat) : Int)) : Mt l yX8_readTest cX8_readTest 4 none (d + 4) [.ref 70, .int a2, .int a3, .int a4] h 0 0 (fun r h' => r = none ∧ (∃ Q : PP, Iv Q h' ∧ MW P Q) ∧ ((h'.2.1 70 5).toInt = 0 → (h.2.1 70 5).toInt = 0) ∧ ((h.2.1 70 4).toInt ≤ (h'.2.1 70 4).toInt) ∧ ((h'.2.1 70 5).toInt = 0 → 6 * (V h'.2.1 73 (h.2.1 70 6).toInt - V h'.2.1 75 (h.2.1 70 6).toInt) - (h'.2.1 70 4).toInt ≤ 6 * (V h.2.1 73 (h.2.1 70 6).toInt - V h.2.1 75 (h.2.1 70 6).toInt) - (h.2.1 70 4).toInt - 0 ∧ 2 * V h'.2.1 74 (h.2.1 70 6).toInt - (h'.2.1 70 4).toInt ≤ 2 * V h.2.1 74 (h.2.1 70 6).toInt - (h.2.1 70 4).toInt) ∧ ((h'.2.1 70 5).toInt = 0 → RT h.2.1 h'.2.1 (h.2.1 70 6).toInt a2.toInt a4.toInt) ∧ (KP h.2.1 h'.2.1) ∧ (OH h.2.1 h'.2.1 (h.2.1 70 6).toInt) ∧ (CKF h.2.1 → CKF h'.2.1)) := by
  refine Mt_iv hv (by decide) (Nat.le_of_ble_eq_true rfl) ?_
  show Go l RX8 cX8_readTest 4 (g_rm (d + 4) 0 0) "readTest" none 117 0 0 (fun _ _ => True) (fun r h' => r = none ∧ (∃ Q : PP, Iv Q h' ∧ MW P Q) ∧ ((h'.2.1 70 5).toInt = 0 → (h.2.1 70 5).toInt = 0) ∧ ((h.2.1 70 4).toInt ≤ (h'.2.1 70 4).toInt) ∧ ((h'.2.1 70 5).toInt = 0 → 6 * (V h'.2.1 73 (h.2.1 70 6).toInt - V h'.2.1 75 (h.2.1 70 6).toInt) - (h'.2.1 70 4).toInt ≤ 6 * (V h.2.1 73 (h.2.1 70 6).toInt - V h.2.1 75 (h.2.1 70 6).toInt) - (h.2.1 70 4).toInt - 0 ∧ 2 * V h'.2.1 74 (h.2.1 70 6).toInt - (h'.2.1 70 4).toInt ≤ 2 * V h.2.1 74 (h.2.1 70 6).toInt - (h.2.1 70 4).toInt) ∧ ((h'.2.1 70 5).toInt = 0 → RT h.2.1 h'.2.1 (h.2.1 70 6).toInt a2.toInt a4.toInt) ∧ (KP h.2.1 h'.2.1) ∧ (OH h.2.1 h'.2.1 (h.2.1 70 6).toInt) ∧ (CKF h.2.1 → CKF h'.2.1)) 0 0 [(0, .ref 70), (1, .int a2), (2, .int a3), (3, .int a4)] [] h
  obtain ⟨S, hS⟩ : ∃ S : Int, S = (h.2.1 70 6).toInt := ⟨_, rfl⟩
  have S0 : 0 ≤ S := by rw [hS]; exact (hv.2.1 70 6).1
  have S1 : S ≤ 1 := by rw [hS]; exact (hv.2.1 70 6).2
  have oh : OH h.2.1 h.2.1 S := OH.rfl _ _
  have ck : CKF h.2.1 → CKF h.2.1 := id
  have kp : KP h.2.1 h.2.1 := KP.rfl _
  rw [← hS] at hi
  rw [← hS] at hp
  rw [← hS] at ht
  refine go_aload_n (pc := 0) rfl dX8_readTest_0 ?_
  refine go_iload_n (pc := 1) rfl dX8_readTest_1 ?_
  refine go_iconst (pc := 2) (v := 0) (by decide) dX8_readTest_2 ?_
  have sM1 : (h.2.1 70 6).toInt = S := (congrArg Int32.toInt oh.side).trans hS.symm
  have g2 : (0 : Int) ≤ (h.2.1 70 4).toInt := (hv.2.1 70 4).1
  have g3 : (h.2.1 70 4).toInt ≤ 500 := (hv.2.1 70 4).2
  have g4 : (-2147483648 : Int) ≤ (h.2.1 70 5).toInt := (hv.2.1 70 5).1
  have g5 : (h.2.1 70 5).toInt ≤ 2147483647 := (hv.2.1 70 5).2
  refine go_invV (pc := 3) (sl := 0) (s_X8_operand l (d + 0) hv a2 (by rw [show (a2 : Int32).toInt = a2.toInt from (ti_rfl a2)]; omega) (by rw [show (a2 : Int32).toInt = a2.toInt from (ti_rfl a2)]; omega) 0 (by rw [show (0 : Int32).toInt = 0 from (ti_c (v := 0) (a := 0) (by decide))]; omega) (by rw [show (0 : Int32).toInt = 0 from (ti_c (v := 0) (a := 0) (by decide))]; omega) (by rw [sM1]; exact hi)) mL_X8_218 iM_X8_operand sM_X8_operand (hv.sh rfl) rfl rfl rfl (Nat.le_of_ble_eq_true rfl) (show d + 0 + 3 + 1 ≤ d + 4 by omega) (show 8 + (7 + 11) + 40 * (d + 0 + 3) ≤ 40 * (d + 4) by omega) (g_c0 hv.ln) (Nat.le_of_ble_eq_true rfl) dX8_readTest_3 ?_
  intro r h6 hq _
  obtain ⟨rfl, ⟨Q7, hv6, sq8⟩, f9, f10, f11, f12, f13, f14, f15, f16, f17⟩ := hq
  rw [sM1] at f12
  rw [sM1] at f13
  rw [sM1] at f14
  rw [sM1] at f16
  have oh6 : OH h.2.1 h6.2.1 S := oh.trans f16
  have kp6 : KP h.2.1 h6.2.1 := kp.trans f15
  have ck6 : CKF h.2.1 → CKF h6.2.1 := fun z => f17 (ck z)
  try rw [show (0 : Int32).toInt = 0 from (ti_c (v := 0) (a := 0) (by decide))] at f9
  try rw [show (0 : Int32).toInt = 0 from (ti_c (v := 0) (a := 0) (by decide))] at f10
  try rw [show (0 : Int32).toInt = 0 from (ti_c (v := 0) (a := 0) (by decide))] at f11
  try rw [show (0 : Int32).toInt = 0 from (ti_c (v := 0) (a := 0) (by decide))] at f12
  try rw [show (0 : Int32).toInt = 0 from (ti_c (v := 0) (a := 0) (by decide))] at f13
  try rw [show (0 : Int32).toInt = 0 from (ti_c (v := 0) (a := 0) (by decide))] at f14
  try rw [show (0 : Int32).toInt = 0 from (ti_c (v := 0) (a := 0) (by decide))] at f15
  try rw [show (0 : Int32).toInt = 0 from (ti_c (v := 0) (a := 0) (by decide))] at f16
  try rw [show (0 : Int32).toInt = 0 from (ti_c (v := 0) (a := 0) (by decide))] at f17
  obtain ⟨u18, u18w⟩ : ∃ v : Int32, v = h6.2.1 70 4 := ⟨_, rfl⟩
  have u18e : (h6.2.1 70 4).toInt = u18.toInt := by rw [u18w]
  have u18l : 0 ≤ u18.toInt := by rw [u18w]; exact (hv6.2.1 70 4).1
  have u18u : u18.toInt ≤ 500 := by rw [u18w]; exact (hv6.2.1 70 4).2
  obtain ⟨u19, u19w⟩ : ∃ v : Int32, v = h6.2.1 70 5 := ⟨_, rfl⟩
  have u19e : (h6.2.1 70 5).toInt = u19.toInt := by rw [u19w]
  have u19l : -2147483648 ≤ u19.toInt := by rw [u19w]; exact (hv6.2.1 70 5).1
  have u19u : u19.toInt ≤ 2147483647 := by rw [u19w]; exact (hv6.2.1 70 5).2
  refine go_aload_n (pc := 6) rfl dX8_readTest_6 ?_
  refine go_bipush (pc := 7) (v := 60) (by decide) dX8_readTest_7 ?_
  have g20 : (0 : Int) ≤ (h6.2.1 70 4).toInt := (hv6.2.1 70 4).1
  have g21 : (h6.2.1 70 4).toInt ≤ 500 := (hv6.2.1 70 4).2
  have g22 : (-2147483648 : Int) ≤ (h6.2.1 70 5).toInt := (hv6.2.1 70 5).1
  have g23 : (h6.2.1 70 5).toInt ≤ 2147483647 := (hv6.2.1 70 5).2
  have g24 : (h6.2.1 70 4).toInt = u18.toInt := by rw [← (show u18 = h6.2.1 70 4 from u18w)] <;> exact (ti_rfl u18)
  have g25 : (h6.2.1 70 5).toInt = u19.toInt := by rw [← (show u19 = h6.2.1 70 5 from u19w)] <;> exact (ti_rfl u19)
  refine go_invV (pc := 9) (sl := 0) (s_X8_must l (d + 1) hv6 60 (by rw [show (60 : Int32).toInt = 60 from (ti_c (v := 60) (a := 60) (by decide))]; omega) (by rw [show (60 : Int32).toInt = 60 from (ti_c (v := 60) (a := 60) (by decide))]; omega)) mL_X8_198 iM_X8_must sM_X8_must (hv6.sh rfl) rfl rfl rfl (Nat.le_of_ble_eq_true rfl) (show d + 1 + 2 + 1 ≤ d + 4 by omega) (show 8 + (2 + 11) + 40 * (d + 1 + 2) ≤ 40 * (d + 4) by omega) (g_c0 hv6.ln) (Nat.le_of_ble_eq_true rfl) dX8_readTest_9 ?_
  intro r h26 hq _
  obtain ⟨rfl, hv26, f27, f28, f29⟩ := hq
  try rw [show (60 : Int32).toInt = 60 from (ti_c (v := 60) (a := 60) (by decide))] at f27
  try rw [show (60 : Int32).toInt = 60 from (ti_c (v := 60) (a := 60) (by decide))] at f28
  try rw [show (60 : Int32).toInt = 60 from (ti_c (v := 60) (a := 60) (by decide))] at f29
  have ve26 : VE h6.2.1 h26.2.1 := VE.of hv6 hv26
  have oh26 : OH h.2.1 h26.2.1 S := oh6.trans (OH.of hv6 hv26 S)
  have kp26 : KP h.2.1 h26.2.1 := kp6.trans (KP.ve ve26)
  have ck26 : CKF h.2.1 → CKF h26.2.1 := fun z => CKF.ve ve26 (ck6 z)
  have n73_26 : V h26.2.1 73 S = V h6.2.1 73 S := ve26.v (by omega) (by omega)
  have n74_26 : V h26.2.1 74 S = V h6.2.1 74 S := ve26.v (by omega) (by omega)
  have n75_26 : V h26.2.1 75 S = V h6.2.1 75 S := ve26.v (by omega) (by omega)
  obtain ⟨u30, u30w⟩ : ∃ v : Int32, v = h26.2.1 70 4 := ⟨_, rfl⟩
  have u30e : (h26.2.1 70 4).toInt = u30.toInt := by rw [u30w]
  have u30l : 0 ≤ u30.toInt := by rw [u30w]; exact (hv26.2.1 70 4).1
  have u30u : u30.toInt ≤ 500 := by rw [u30w]; exact (hv26.2.1 70 4).2
  obtain ⟨u31, u31w⟩ : ∃ v : Int32, v = h26.2.1 70 5 := ⟨_, rfl⟩
  have u31e : (h26.2.1 70 5).toInt = u31.toInt := by rw [u31w]
  have u31l : -2147483648 ≤ u31.toInt := by rw [u31w]; exact (hv26.2.1 70 5).1
  have u31u : u31.toInt ≤ 2147483647 := by rw [u31w]; exact (hv26.2.1 70 5).2
  refine go_aload_n (pc := 12) rfl dX8_readTest_12 ?_
  refine go_iload_n (pc := 13) rfl dX8_readTest_13 ?_
  refine go_iconst (pc := 14) (v := 1) (by decide) dX8_readTest_14 ?_
  have sM32 : (h26.2.1 70 6).toInt = S := (congrArg Int32.toInt oh26.side).trans hS.symm
  have g33 : (0 : Int) ≤ (h26.2.1 70 4).toInt := (hv26.2.1 70 4).1
  have g34 : (h26.2.1 70 4).toInt ≤ 500 := (hv26.2.1 70 4).2
  have g35 : (-2147483648 : Int) ≤ (h26.2.1 70 5).toInt := (hv26.2.1 70 5).1
  have g36 : (h26.2.1 70 5).toInt ≤ 2147483647 := (hv26.2.1 70 5).2
  have g37 : (h26.2.1 70 4).toInt = u30.toInt := by rw [← (show u30 = h26.2.1 70 4 from u30w)] <;> exact (ti_rfl u30)
  have g38 : (h26.2.1 70 5).toInt = u31.toInt := by rw [← (show u31 = h26.2.1 70 5 from u31w)] <;> exact (ti_rfl u31)
  refine go_invV (pc := 15) (sl := 0) (s_X8_operand l (d + 0) hv26 a2 (by rw [show (a2 : Int32).toInt = a2.toInt from (ti_rfl a2)]; omega) (by rw [show (a2 : Int32).toInt = a2.toInt from (ti_rfl a2)]; omega) 1 (by rw [show (1 : Int32).toInt = 1 from (ti_c (v := 1) (a := 1) (by decide))]; omega) (by rw [show (1 : Int32).toInt = 1 from (ti_c (v := 1) (a := 1) (by decide))]; omega) (by rw [sM32]; exact hi)) mL_X8_218 iM_X8_operand sM_X8_operand (hv26.sh rfl) rfl rfl rfl (Nat.le_of_ble_eq_true rfl) (show d + 0 + 3 + 1 ≤ d + 4 by omega) (show 8 + (7 + 11) + 40 * (d + 0 + 3) ≤ 40 * (d + 4) by omega) (g_c0 hv26.ln) (Nat.le_of_ble_eq_true rfl) dX8_readTest_15 ?_
  intro r h39 hq _
  obtain ⟨rfl, ⟨Q40, hv39, sq41⟩, f42, f43, f44, f45, f46, f47, f48, f49, f50⟩ := hq
  rw [sM32] at f45
  rw [sM32] at f46
  rw [sM32] at f47
  rw [sM32] at f49
  have oh39 : OH h.2.1 h39.2.1 S := oh26.trans f49
  have kp39 : KP h.2.1 h39.2.1 := kp26.trans f48
  have ck39 : CKF h.2.1 → CKF h39.2.1 := fun z => f50 (ck26 z)
  try rw [show (1 : Int32).toInt = 1 from (ti_c (v := 1) (a := 1) (by decide))] at f42
  try rw [show (1 : Int32).toInt = 1 from (ti_c (v := 1) (a := 1) (by decide))] at f43
  try rw [show (1 : Int32).toInt = 1 from (ti_c (v := 1) (a := 1) (by decide))] at f44
  try rw [show (1 : Int32).toInt = 1 from (ti_c (v := 1) (a := 1) (by decide))] at f45
  try rw [show (1 : Int32).toInt = 1 from (ti_c (v := 1) (a := 1) (by decide))] at f46
  try rw [show (1 : Int32).toInt = 1 from (ti_c (v := 1) (a := 1) (by decide))] at f47
  try rw [show (1 : Int32).toInt = 1 from (ti_c (v := 1) (a := 1) (by decide))] at f48
  try rw [show (1 : Int32).toInt = 1 from (ti_c (v := 1) (a := 1) (by decide))] at f49
  try rw [show (1 : Int32).toInt = 1 from (ti_c (v := 1) (a := 1) (by decide))] at f50
  obtain ⟨u51, u51w⟩ : ∃ v : Int32, v = h39.2.1 70 4 := ⟨_, rfl⟩
  have u51e : (h39.2.1 70 4).toInt = u51.toInt := by rw [u51w]
  have u51l : 0 ≤ u51.toInt := by rw [u51w]; exact (hv39.2.1 70 4).1
  have u51u : u51.toInt ≤ 500 := by rw [u51w]; exact (hv39.2.1 70 4).2
  obtain ⟨u52, u52w⟩ : ∃ v : Int32, v = h39.2.1 70 5 := ⟨_, rfl⟩
  have u52e : (h39.2.1 70 5).toInt = u52.toInt := by rw [u52w]
  have u52l : -2147483648 ≤ u52.toInt := by rw [u52w]; exact (hv39.2.1 70 5).1
  have u52u : u52.toInt ≤ 2147483647 := by rw [u52w]; exact (hv39.2.1 70 5).2
  refine go_aload_n (pc := 18) rfl dX8_readTest_18 ?_
  refine go_invV (pc := 19) (sl := 0) (s_X8_isGood l (d + 2) hv39 ) mL_X8_172 iM_X8_isGood sM_X8_isGood (hv39.sh rfl) rfl rfl rfl (Nat.le_of_ble_eq_true rfl) (show d + 2 + 1 + 1 ≤ d + 4 by omega) (show 8 + (1 + 11) + 40 * (d + 2 + 1) ≤ 40 * (d + 4) by omega) (g_c0 hv39.ln) (Nat.le_of_ble_eq_true rfl) dX8_readTest_19 ?_
  intro r h53 hq _
  obtain ⟨v56, rfl, v56l, v56u, rfl, f54, f55⟩ := hq
  refine gf_if_ne (pc := 22) (tgt := 26) (ti_rfl v56) (by decide) dX8_readTest_22 (fun q57 => ?_) (fun q57 => ?_)
  ·
    refine go_aload_n (pc := 26) rfl dX8_readTest_26 ?_
    refine gi_getF (pc := 27) (q := 85) hv39 fL_X8_53 rfl (Nat.le_of_ble_eq_true rfl) rfl (hv39.rf (by decide)) dX8_readTest_27 ?_
    refine go_iload_n (pc := 30) rfl dX8_readTest_30 ?_
    refine go_aload_n (pc := 31) rfl dX8_readTest_31 ?_
    refine go_iload_n (pc := 32) rfl dX8_readTest_32 ?_
    refine go_iload_n (pc := 33) rfl dX8_readTest_33 ?_
    refine go_iload_n (pc := 34) rfl dX8_readTest_34 ?_
    refine go_iconst (pc := 35) (v := 1) (by decide) dX8_readTest_35 ?_
    refine gf_iadd (pc := 36) (ti_rfl a4) (ti_c (v := 1) (a := 1) (by decide)) (by omega) (by omega) dX8_readTest_36 (fun v58 e59 => ?_)
    have zd : (v58 : Int32).toInt = a4.toInt + 1 := e59
    have op1 : OP h.2.1 h39.2.1 := ((((OP.rfl _).trans (f11 (by omega))).trans (OP.ve ve26)).trans (f44 (by omega)))
    have o80 := (op1 S).2 80 a2.toInt (by omega) (by omega) (by omega) (by omega)
    have sM60 : (h39.2.1 70 6).toInt = S := (congrArg Int32.toInt oh39.side).trans hS.symm
    have g61 : (0 : Int) ≤ (h39.2.1 70 4).toInt := (hv39.2.1 70 4).1
    have g62 : (h39.2.1 70 4).toInt ≤ 500 := (hv39.2.1 70 4).2
    have g63 : (-2147483648 : Int) ≤ (h39.2.1 70 5).toInt := (hv39.2.1 70 5).1
    have g64 : (h39.2.1 70 5).toInt ≤ 2147483647 := (hv39.2.1 70 5).2
    have g65 : (h39.2.1 70 4).toInt = u51.toInt := by rw [← (show u51 = h39.2.1 70 4 from u51w)] <;> exact (ti_rfl u51)
    have g66 : (h39.2.1 70 5).toInt = u52.toInt := by rw [← (show u52 = h39.2.1 70 5 from u52w)] <;> exact (ti_rfl u52)
    refine go_invV (pc := 37) (sl := 0) (ihB hv39 a2 (by rw [show (a2 : Int32).toInt = a2.toInt from (ti_rfl a2)]; omega) (by rw [show (a2 : Int32).toInt = a2.toInt from (ti_rfl a2)]; omega) a3 (by rw [show (a3 : Int32).toInt = a3.toInt from (ti_rfl a3)]; omega) (by rw [show (a3 : Int32).toInt = a3.toInt from (ti_rfl a3)]; omega) v58 (by rw [show (v58 : Int32).toInt = (a4.toInt + 1) from e59]; omega) (by rw [show (v58 : Int32).toInt = (a4.toInt + 1) from e59]; omega) (by rw [sM60]; exact (fun _ => by omega)) (by rw [sM60]; exact (fun _ => by rw [zd]; exact ⟨(op1 S).1 ht.1, OO.last (by omega) (by omega) (by omega)⟩)) (by omega)) mL_X8_224 iM_X8_readBlock sM_X8_readBlock (hv39.sh rfl) rfl rfl rfl (Nat.le_of_ble_eq_true rfl) (show d + 3 + 1 ≤ d + 4 by omega) (show 8 + (5 + 11) + 40 * (d + 3) ≤ 40 * (d + 4) by omega) (g_c0 hv39.ln) (Nat.le_of_ble_eq_true rfl) dX8_readTest_37 ?_
    intro r h67 hq _
    obtain ⟨v77, rfl, v77l, v77u, ⟨Q68, hv67, sq69⟩, f70, f71, f72, f73, f74, f75, f76⟩ := hq
    rw [sM60] at f72
    rw [sM60] at f73
    rw [sM60] at f75
    have oh67 : OH h.2.1 h67.2.1 S := oh39.trans f75
    have kp67 : KP h.2.1 h67.2.1 := kp39.trans f74
    have ck67 : CKF h.2.1 → CKF h67.2.1 := fun z => f76 (ck39 z)
    try rw [show (v58 : Int32).toInt = (a4.toInt + 1) from e59] at f70
    try rw [show (v58 : Int32).toInt = (a4.toInt + 1) from e59] at f71
    try rw [show (v58 : Int32).toInt = (a4.toInt + 1) from e59] at f72
    try rw [show (v58 : Int32).toInt = (a4.toInt + 1) from e59] at f73
    try rw [show (v58 : Int32).toInt = (a4.toInt + 1) from e59] at f74
    try rw [show (v58 : Int32).toInt = (a4.toInt + 1) from e59] at f75
    try rw [show (v58 : Int32).toInt = (a4.toInt + 1) from e59] at f76
    obtain ⟨u78, u78w⟩ : ∃ v : Int32, v = h67.2.1 70 4 := ⟨_, rfl⟩
    have u78e : (h67.2.1 70 4).toInt = u78.toInt := by rw [u78w]
    have u78l : 0 ≤ u78.toInt := by rw [u78w]; exact (hv67.2.1 70 4).1
    have u78u : u78.toInt ≤ 500 := by rw [u78w]; exact (hv67.2.1 70 4).2
    obtain ⟨u79, u79w⟩ : ∃ v : Int32, v = h67.2.1 70 5 := ⟨_, rfl⟩
    have u79e : (h67.2.1 70 5).toInt = u79.toInt := by rw [u79w]
    have u79l : -2147483648 ≤ u79.toInt := by rw [u79w]; exact (hv67.2.1 70 5).1
    have u79u : u79.toInt ≤ 2147483647 := by rw [u79w]; exact (hv67.2.1 70 5).2
    refine gi_fst (pc := 40) (lo := -1) (hi := 559) (len := 260) hv67 (ti_rfl a2) (ti_rfl v77) rfl (by omega) (by omega) (fun _ => rfl) (by omega) (by omega) (by omega) dX8_readTest_40 (fun h80 hv80 hv80e => ?_)
    refine go_aload_n (pc := 41) rfl dX8_readTest_41 ?_
    refine go_invV (pc := 42) (sl := 0) (s_X8_isGood l (d + 2) hv80 ) mL_X8_172 iM_X8_isGood sM_X8_isGood (hv80.sh rfl) rfl rfl rfl (Nat.le_of_ble_eq_true rfl) (show d + 2 + 1 + 1 ≤ d + 4 by omega) (show 8 + (1 + 11) + 40 * (d + 2 + 1) ≤ 40 * (d + 4) by omega) (g_c0 hv80.ln) (Nat.le_of_ble_eq_true rfl) dX8_readTest_42 ?_
    intro r h81 hq _
    obtain ⟨v84, rfl, v84l, v84u, rfl, f82, f83⟩ := hq
    have E80 : h80.2.1 = (w1 h67.2.1 85 a2.toInt (v77 : Int32)) := by
      rw [hv80e]
      rfl
    have oh80 : OH h.2.1 h80.2.1 S := by rw [E80]; exact (oh67.trans (OH.w 130 rfl (by omega) (by omega) (by omega) (by omega)))
    have kp80 : KP h.2.1 h80.2.1 := by rw [E80]; exact (kp67.trans (KP.w (by omega)))
    have n73_80 : V h80.2.1 73 S = V h67.2.1 73 S := by rw [E80, V_ne (by omega)]
    have n74_80 : V h80.2.1 74 S = V h67.2.1 74 S := by rw [E80, V_ne (by omega)]
    have n75_80 : V h80.2.1 75 S = V h67.2.1 75 S := by rw [E80, V_ne (by omega)]
    have ck80 : CKF h.2.1 → CKF h80.2.1 := fun z => by rw [E80]; exact (CKF.w (by omega) (ck67 z))
    refine gf_if_eq (pc := 45) (tgt := 67) (ti_rfl v84) (by decide) dX8_readTest_45 (fun q85 => ?_) (fun q85 => ?_)
    ·
      have g86 : (0 : Int) ≤ (h80.2.1 70 4).toInt := (hv80.2.1 70 4).1
      have g87 : (h80.2.1 70 4).toInt ≤ 500 := (hv80.2.1 70 4).2
      have g88 : (-2147483648 : Int) ≤ (h80.2.1 70 5).toInt := (hv80.2.1 70 5).1
      have g89 : (h80.2.1 70 5).toInt ≤ 2147483647 := (hv80.2.1 70 5).2
      have g90 : (h80.2.1 70 4).toInt = u78.toInt := by rw [← (show u78 = h80.2.1 70 4 from (show u78 = h80.2.1 70 4 from by rw [hv80e]; exact (g_iI rfl u78w.symm).symm))] <;> exact (ti_rfl u78)
      have g91 : (h80.2.1 70 5).toInt = u79.toInt := by rw [← (show u79 = h80.2.1 70 5 from (show u79 = h80.2.1 70 5 from by rw [hv80e]; exact (g_iI rfl u79w.symm).symm))] <;> exact (ti_rfl u79)
      have pp92 : (h80.2.1 70 5).toInt = 0 → (h.2.1 70 5).toInt = 0 := (by omega)
      have pp93 : (h.2.1 70 4).toInt ≤ (h80.2.1 70 4).toInt := (by omega)
      have pp94 : (h80.2.1 70 5).toInt = 0 → 6 * (V h80.2.1 73 S - V h80.2.1 75 S) - (h80.2.1 70 4).toInt ≤ 6 * (V h.2.1 73 S - V h.2.1 75 S) - (h.2.1 70 4).toInt - 0 ∧ 2 * V h80.2.1 74 S - (h80.2.1 70 4).toInt ≤ 2 * V h.2.1 74 S - (h.2.1 70 4).toInt := (by omega)
      have pp95 : (h80.2.1 70 5).toInt = 0 → RT h.2.1 h80.2.1 S a2.toInt a4.toInt := (fun hg => R1.fin (show R1 h.2.1 h80.2.1 S a2.toInt a4.toInt from by rw [E80]; exact R1.mk S0 ((((OP.rfl _).trans (f11 (by omega))).trans (OP.ve ve26)).trans (f44 (by omega))) (f73 (by omega)) rfl) (by omega))
      subst hS
      exact gi_vret (pc := 67) ⟨rfl, ⟨_, hv80, (MW.trans (MW.trans (MW.trans sq8 sq41) sq69) (MW.mz _ _))⟩, pp92, pp93, pp94, pp95, kp80, oh80, ck80⟩ hv80 dX8_readTest_67
    ·
      refine go_aload_n (pc := 48) rfl dX8_readTest_48 ?_
      refine gi_getF (pc := 49) (q := 77) hv80 fL_X8_29 rfl (Nat.le_of_ble_eq_true rfl) rfl (hv80.rf (by decide)) dX8_readTest_49 ?_
      refine go_iload_n (pc := 52) rfl dX8_readTest_52 ?_
      refine gi_iald (pc := 53) (lo := 0) (hi := 6) (len := 260) hv80 (ti_rfl a2) rfl (by omega) (by omega) (fun _ => rfl) dX8_readTest_53 (fun v96 v96l v96u v96w => ?_)
      have v96V : v96.toInt = V h80.2.1 77 a2.toInt := by rw [v96w]; rfl
      refine go_iconst (pc := 54) (v := 3) (by decide) dX8_readTest_54 ?_
      refine gf_icmp_eq (pc := 55) (tgt := 67) (ti_rfl v96) (ti_c (v := 3) (a := 3) (by decide)) (by decide) dX8_readTest_55 (fun q97 => ?_) (fun q97 => ?_)
      ·
        have g98 : (0 : Int) ≤ (h80.2.1 70 4).toInt := (hv80.2.1 70 4).1
        have g99 : (h80.2.1 70 4).toInt ≤ 500 := (hv80.2.1 70 4).2
        have g100 : (-2147483648 : Int) ≤ (h80.2.1 70 5).toInt := (hv80.2.1 70 5).1
        have g101 : (h80.2.1 70 5).toInt ≤ 2147483647 := (hv80.2.1 70 5).2
        have g102 : (h80.2.1 70 4).toInt = u78.toInt := by rw [← (show u78 = h80.2.1 70 4 from (show u78 = h80.2.1 70 4 from by rw [hv80e]; exact (g_iI rfl u78w.symm).symm))] <;> exact (ti_rfl u78)
        have g103 : (h80.2.1 70 5).toInt = u79.toInt := by rw [← (show u79 = h80.2.1 70 5 from (show u79 = h80.2.1 70 5 from by rw [hv80e]; exact (g_iI rfl u79w.symm).symm))] <;> exact (ti_rfl u79)
        have pp104 : (h80.2.1 70 5).toInt = 0 → (h.2.1 70 5).toInt = 0 := (by omega)
        have pp105 : (h.2.1 70 4).toInt ≤ (h80.2.1 70 4).toInt := (by omega)
        have pp106 : (h80.2.1 70 5).toInt = 0 → 6 * (V h80.2.1 73 S - V h80.2.1 75 S) - (h80.2.1 70 4).toInt ≤ 6 * (V h.2.1 73 S - V h.2.1 75 S) - (h.2.1 70 4).toInt - 0 ∧ 2 * V h80.2.1 74 S - (h80.2.1 70 4).toInt ≤ 2 * V h.2.1 74 S - (h.2.1 70 4).toInt := (by omega)
        have pp107 : (h80.2.1 70 5).toInt = 0 → RT h.2.1 h80.2.1 S a2.toInt a4.toInt := (fun hg => R1.fin (show R1 h.2.1 h80.2.1 S a2.toInt a4.toInt from by rw [E80]; exact R1.mk S0 ((((OP.rfl _).trans (f11 (by omega))).trans (OP.ve ve26)).trans (f44 (by omega))) (f73 (by omega)) rfl) (by omega))
        subst hS
        exact gi_vret (pc := 67) ⟨rfl, ⟨_, hv80, (MW.trans (MW.trans (MW.trans sq8 sq41) sq69) (MW.mz _ _))⟩, pp104, pp105, pp106, pp107, kp80, oh80, ck80⟩ hv80 dX8_readTest_67
      ·
        refine go_aload_n (pc := 58) rfl dX8_readTest_58 ?_
        have g108 : (0 : Int) ≤ (h80.2.1 70 4).toInt := (hv80.2.1 70 4).1
        have g109 : (h80.2.1 70 4).toInt ≤ 500 := (hv80.2.1 70 4).2
        have g110 : (-2147483648 : Int) ≤ (h80.2.1 70 5).toInt := (hv80.2.1 70 5).1
        have g111 : (h80.2.1 70 5).toInt ≤ 2147483647 := (hv80.2.1 70 5).2
        have g112 : (h80.2.1 70 4).toInt = u78.toInt := by rw [← (show u78 = h80.2.1 70 4 from (show u78 = h80.2.1 70 4 from by rw [hv80e]; exact (g_iI rfl u78w.symm).symm))] <;> exact (ti_rfl u78)
        have g113 : (h80.2.1 70 5).toInt = u79.toInt := by rw [← (show u79 = h80.2.1 70 5 from (show u79 = h80.2.1 70 5 from by rw [hv80e]; exact (g_iI rfl u79w.symm).symm))] <;> exact (ti_rfl u79)
        refine go_invV (pc := 59) (sl := 0) (s_X8_here l (d + 2) hv80 ) mL_X8_176 iM_X8_here sM_X8_here (hv80.sh rfl) rfl rfl rfl (Nat.le_of_ble_eq_true rfl) (show d + 2 + 1 + 1 ≤ d + 4 by omega) (show 8 + (1 + 11) + 40 * (d + 2 + 1) ≤ 40 * (d + 4) by omega) (g_c0 hv80.ln) (Nat.le_of_ble_eq_true rfl) dX8_readTest_59 ?_
        intro r h114 hq _
        obtain ⟨v119, rfl, v119l, v119u, hv114, f115, f116, f117, f118⟩ := hq
        have ve114 : VE h80.2.1 h114.2.1 := VE.of hv80 hv114
        have oh114 : OH h.2.1 h114.2.1 S := oh80.trans (OH.of hv80 hv114 S)
        have kp114 : KP h.2.1 h114.2.1 := kp80.trans (KP.ve ve114)
        have ck114 : CKF h.2.1 → CKF h114.2.1 := fun z => CKF.ve ve114 (ck80 z)
        have n73_114 : V h114.2.1 73 S = V h80.2.1 73 S := ve114.v (by omega) (by omega)
        have n74_114 : V h114.2.1 74 S = V h80.2.1 74 S := ve114.v (by omega) (by omega)
        have n75_114 : V h114.2.1 75 S = V h80.2.1 75 S := ve114.v (by omega) (by omega)
        obtain ⟨u120, u120w⟩ : ∃ v : Int32, v = h114.2.1 70 4 := ⟨_, rfl⟩
        have u120e : (h114.2.1 70 4).toInt = u120.toInt := by rw [u120w]
        have u120l : 0 ≤ u120.toInt := by rw [u120w]; exact (hv114.2.1 70 4).1
        have u120u : u120.toInt ≤ 500 := by rw [u120w]; exact (hv114.2.1 70 4).2
        obtain ⟨u121, u121w⟩ : ∃ v : Int32, v = h114.2.1 70 5 := ⟨_, rfl⟩
        have u121e : (h114.2.1 70 5).toInt = u121.toInt := by rw [u121w]
        have u121l : -2147483648 ≤ u121.toInt := by rw [u121w]; exact (hv114.2.1 70 5).1
        have u121u : u121.toInt ≤ 2147483647 := by rw [u121w]; exact (hv114.2.1 70 5).2
        refine go_bipush (pc := 62) (v := 58) (by decide) dX8_readTest_62 ?_
        refine gf_icmp_eq (pc := 64) (tgt := 68) (ti_rfl v119) (ti_c (v := 58) (a := 58) (by decide)) (by decide) dX8_readTest_64 (fun q122 => ?_) (fun q122 => ?_)
        ·
          refine go_aload_n (pc := 68) rfl dX8_readTest_68 ?_
          refine go_dup (pc := 69) rfl dX8_readTest_69 ?_
          refine gi_get (pc := 70) (lo := 0) (hi := 500) hv114 fL_X8_163 rfl (Nat.le_of_ble_eq_true rfl) rfl rfl dX8_readTest_70 (fun v123 v123l v123u v123w => ?_)
          have v123r : u120 = h114.2.1 70 4 := u120w
          have v123q : TI v123 u120.toInt := by rw [v123w.trans v123r.symm]; exact (ti_rfl u120)
          refine go_iconst (pc := 73) (v := 1) (by decide) dX8_readTest_73 ?_
          refine gf_iadd (pc := 74) v123q (ti_c (v := 1) (a := 1) (by decide)) (by omega) (by omega) dX8_readTest_74 (fun v124 e125 => ?_)
          refine gi_put (pc := 75) (lo := 0) (hi := 500) hv114 e125 (fP_X8_163 _) rfl (Nat.le_of_ble_eq_true rfl) rfl rfl (by omega) (by omega) rfl rfl (by decide) (by decide) (by decide) (by decide) dX8_readTest_75 (fun h126 hv126 hv126e => ?_)
          have ve126 : VE h114.2.1 h126.2.1 := VE.of hv114 hv126
          have oh126 : OH h.2.1 h126.2.1 S := oh114.trans (OH.of hv114 hv126 S)
          have kp126 : KP h.2.1 h126.2.1 := kp114.trans (KP.ve ve126)
          have ck126 : CKF h.2.1 → CKF h126.2.1 := fun z => CKF.ve ve126 (ck114 z)
          have n73_126 : V h126.2.1 73 S = V h114.2.1 73 S := ve126.v (by omega) (by omega)
          have n74_126 : V h126.2.1 74 S = V h114.2.1 74 S := ve126.v (by omega) (by omega)
          have n75_126 : V h126.2.1 75 S = V h114.2.1 75 S := ve126.v (by omega) (by omega)
          refine go_aload_n (pc := 78) rfl dX8_readTest_78 ?_
          refine gi_getF (pc := 79) (q := 86) hv126 fL_X8_56 rfl (Nat.le_of_ble_eq_true rfl) rfl (hv126.rf (by decide)) dX8_readTest_79 ?_
          refine go_iload_n (pc := 82) rfl dX8_readTest_82 ?_
          refine go_aload_n (pc := 83) rfl dX8_readTest_83 ?_
          refine go_iload_n (pc := 84) rfl dX8_readTest_84 ?_
          refine go_iload_n (pc := 85) rfl dX8_readTest_85 ?_
          refine go_iload_n (pc := 86) rfl dX8_readTest_86 ?_
          refine go_iconst (pc := 87) (v := 1) (by decide) dX8_readTest_87 ?_
          refine gf_iadd (pc := 88) (ti_rfl a4) (ti_c (v := 1) (a := 1) (by decide)) (by omega) (by omega) dX8_readTest_88 (fun v127 e128 => ?_)
          have zd : (v127 : Int32).toInt = a4.toInt + 1 := e128
          have r1 : R1 h.2.1 h126.2.1 S a2.toInt a4.toInt := (R1.ve (R1.ve (show R1 h.2.1 h80.2.1 S a2.toInt a4.toInt from by rw [E80]; exact R1.mk S0 ((((OP.rfl _).trans (f11 (by omega))).trans (OP.ve ve26)).trans (f44 (by omega))) (f73 (by omega)) rfl) ve114) ve126)
          have oo1 := r1.oo ht.1 ht.2.1 ht.2.2.1 ht.2.2.2.1
          have sM129 : (h126.2.1 70 6).toInt = S := (congrArg Int32.toInt oh126.side).trans hS.symm
          have g130 : (0 : Int) ≤ (h126.2.1 70 4).toInt := (hv126.2.1 70 4).1
          have g131 : (h126.2.1 70 4).toInt ≤ 500 := (hv126.2.1 70 4).2
          have g132 : (-2147483648 : Int) ≤ (h126.2.1 70 5).toInt := (hv126.2.1 70 5).1
          have g133 : (h126.2.1 70 5).toInt ≤ 2147483647 := (hv126.2.1 70 5).2
          have g134 : (h126.2.1 70 5).toInt = u121.toInt := by rw [← (show u121 = h126.2.1 70 5 from (show u121 = h126.2.1 70 5 from by rw [hv126e]; exact (g_iI rfl u121w.symm).symm))] <;> exact (ti_rfl u121)
          have g135 : (h126.2.1 70 4).toInt = (u120.toInt + 1) := by rw [← (show v124 = h126.2.1 70 4 from (show v124 = h126.2.1 70 4 from by rw [hv126e]; exact g_iS.symm))] <;> exact e125
          refine go_invV (pc := 89) (sl := 0) (ihB hv126 a2 (by rw [show (a2 : Int32).toInt = a2.toInt from (ti_rfl a2)]; omega) (by rw [show (a2 : Int32).toInt = a2.toInt from (ti_rfl a2)]; omega) a3 (by rw [show (a3 : Int32).toInt = a3.toInt from (ti_rfl a3)]; omega) (by rw [show (a3 : Int32).toInt = a3.toInt from (ti_rfl a3)]; omega) v127 (by rw [show (v127 : Int32).toInt = (a4.toInt + 1) from e128]; omega) (by rw [show (v127 : Int32).toInt = (a4.toInt + 1) from e128]; omega) (by rw [sM129]; exact (fun _ => by omega)) (by rw [sM129]; exact (fun _ => by rw [zd]; exact oo1)) (by omega)) mL_X8_224 iM_X8_readBlock sM_X8_readBlock (hv126.sh rfl) rfl rfl rfl (Nat.le_of_ble_eq_true rfl) (show d + 3 + 1 ≤ d + 4 by omega) (show 8 + (5 + 11) + 40 * (d + 3) ≤ 40 * (d + 4) by omega) (g_c0 hv126.ln) (Nat.le_of_ble_eq_true rfl) dX8_readTest_89 ?_
          intro r h136 hq _
          obtain ⟨v146, rfl, v146l, v146u, ⟨Q137, hv136, sq138⟩, f139, f140, f141, f142, f143, f144, f145⟩ := hq
          rw [sM129] at f141
          rw [sM129] at f142
          rw [sM129] at f144
          have oh136 : OH h.2.1 h136.2.1 S := oh126.trans f144
          have kp136 : KP h.2.1 h136.2.1 := kp126.trans f143
          have ck136 : CKF h.2.1 → CKF h136.2.1 := fun z => f145 (ck126 z)
          try rw [show (v127 : Int32).toInt = (a4.toInt + 1) from e128] at f139
          try rw [show (v127 : Int32).toInt = (a4.toInt + 1) from e128] at f140
          try rw [show (v127 : Int32).toInt = (a4.toInt + 1) from e128] at f141
          try rw [show (v127 : Int32).toInt = (a4.toInt + 1) from e128] at f142
          try rw [show (v127 : Int32).toInt = (a4.toInt + 1) from e128] at f143
          try rw [show (v127 : Int32).toInt = (a4.toInt + 1) from e128] at f144
          try rw [show (v127 : Int32).toInt = (a4.toInt + 1) from e128] at f145
          obtain ⟨u147, u147w⟩ : ∃ v : Int32, v = h136.2.1 70 4 := ⟨_, rfl⟩
          have u147e : (h136.2.1 70 4).toInt = u147.toInt := by rw [u147w]
          have u147l : 0 ≤ u147.toInt := by rw [u147w]; exact (hv136.2.1 70 4).1
          have u147u : u147.toInt ≤ 500 := by rw [u147w]; exact (hv136.2.1 70 4).2
          obtain ⟨u148, u148w⟩ : ∃ v : Int32, v = h136.2.1 70 5 := ⟨_, rfl⟩
          have u148e : (h136.2.1 70 5).toInt = u148.toInt := by rw [u148w]
          have u148l : -2147483648 ≤ u148.toInt := by rw [u148w]; exact (hv136.2.1 70 5).1
          have u148u : u148.toInt ≤ 2147483647 := by rw [u148w]; exact (hv136.2.1 70 5).2
          refine gi_fst (pc := 92) (lo := -1) (hi := 559) (len := 260) hv136 (ti_rfl a2) (ti_rfl v146) rfl (by omega) (by omega) (fun _ => rfl) (by omega) (by omega) (by omega) dX8_readTest_92 (fun h149 hv149 hv149e => ?_)
          have E149 : h149.2.1 = (w1 h136.2.1 86 a2.toInt (v146 : Int32)) := by
            rw [hv149e]
            rfl
          have oh149 : OH h.2.1 h149.2.1 S := by rw [E149]; exact (oh136.trans (OH.w 130 rfl (by omega) (by omega) (by omega) (by omega)))
          have kp149 : KP h.2.1 h149.2.1 := by rw [E149]; exact (kp136.trans (KP.w (by omega)))
          have n73_149 : V h149.2.1 73 S = V h136.2.1 73 S := by rw [E149, V_ne (by omega)]
          have n74_149 : V h149.2.1 74 S = V h136.2.1 74 S := by rw [E149, V_ne (by omega)]
          have n75_149 : V h149.2.1 75 S = V h136.2.1 75 S := by rw [E149, V_ne (by omega)]
          have ck149 : CKF h.2.1 → CKF h149.2.1 := fun z => by rw [E149]; exact (CKF.w (by omega) (ck136 z))
          have g150 : (0 : Int) ≤ (h149.2.1 70 4).toInt := (hv149.2.1 70 4).1
          have g151 : (h149.2.1 70 4).toInt ≤ 500 := (hv149.2.1 70 4).2
          have g152 : (-2147483648 : Int) ≤ (h149.2.1 70 5).toInt := (hv149.2.1 70 5).1
          have g153 : (h149.2.1 70 5).toInt ≤ 2147483647 := (hv149.2.1 70 5).2
          have g154 : (h149.2.1 70 4).toInt = u147.toInt := by rw [← (show u147 = h149.2.1 70 4 from (show u147 = h149.2.1 70 4 from by rw [hv149e]; exact (g_iI rfl u147w.symm).symm))] <;> exact (ti_rfl u147)
          have g155 : (h149.2.1 70 5).toInt = u148.toInt := by rw [← (show u148 = h149.2.1 70 5 from (show u148 = h149.2.1 70 5 from by rw [hv149e]; exact (g_iI rfl u148w.symm).symm))] <;> exact (ti_rfl u148)
          have pp156 : (h149.2.1 70 5).toInt = 0 → (h.2.1 70 5).toInt = 0 := (by omega)
          have pp157 : (h.2.1 70 4).toInt ≤ (h149.2.1 70 4).toInt := (by omega)
          have pp158 : (h149.2.1 70 5).toInt = 0 → 6 * (V h149.2.1 73 S - V h149.2.1 75 S) - (h149.2.1 70 4).toInt ≤ 6 * (V h.2.1 73 S - V h.2.1 75 S) - (h.2.1 70 4).toInt - 0 ∧ 2 * V h149.2.1 74 S - (h149.2.1 70 4).toInt ≤ 2 * V h.2.1 74 S - (h.2.1 70 4).toInt := (by omega)
          have pp159 : (h149.2.1 70 5).toInt = 0 → RT h.2.1 h149.2.1 S a2.toInt a4.toInt := (fun hg => by rw [E149]; exact R1.fin2 S0 r1 (f142 (by omega)) rfl (fun q => by omega))
          subst hS
          exact gi_vret (pc := 93) ⟨rfl, ⟨_, hv149, (MW.trans (MW.trans (MW.trans (MW.trans (MW.trans sq8 sq41) sq69) (MW.mz _ _)) sq138) (MW.mz _ _))⟩, pp156, pp157, pp158, pp159, kp149, oh149, ck149⟩ hv149 dX8_readTest_93
        ·
          have g160 : (0 : Int) ≤ (h114.2.1 70 4).toInt := (hv114.2.1 70 4).1
          have g161 : (h114.2.1 70 4).toInt ≤ 500 := (hv114.2.1 70 4).2
          have g162 : (-2147483648 : Int) ≤ (h114.2.1 70 5).toInt := (hv114.2.1 70 5).1
          have g163 : (h114.2.1 70 5).toInt ≤ 2147483647 := (hv114.2.1 70 5).2
          have g164 : (h114.2.1 70 4).toInt = u120.toInt := by rw [← (show u120 = h114.2.1 70 4 from u120w)] <;> exact (ti_rfl u120)
          have g165 : (h114.2.1 70 5).toInt = u121.toInt := by rw [← (show u121 = h114.2.1 70 5 from u121w)] <;> exact (ti_rfl u121)
          have pp166 : (h114.2.1 70 5).toInt = 0 → (h.2.1 70 5).toInt = 0 := (by omega)
          have pp167 : (h.2.1 70 4).toInt ≤ (h114.2.1 70 4).toInt := (by omega)
          have pp168 : (h114.2.1 70 5).toInt = 0 → 6 * (V h114.2.1 73 S - V h114.2.1 75 S) - (h114.2.1 70 4).toInt ≤ 6 * (V h.2.1 73 S - V h.2.1 75 S) - (h.2.1 70 4).toInt - 0 ∧ 2 * V h114.2.1 74 S - (h114.2.1 70 4).toInt ≤ 2 * V h.2.1 74 S - (h.2.1 70 4).toInt := (by omega)
          have pp169 : (h114.2.1 70 5).toInt = 0 → RT h.2.1 h114.2.1 S a2.toInt a4.toInt := (fun hg => R1.fin (R1.ve (show R1 h.2.1 h80.2.1 S a2.toInt a4.toInt from by rw [E80]; exact R1.mk S0 ((((OP.rfl _).trans (f11 (by omega))).trans (OP.ve ve26)).trans (f44 (by omega))) (f73 (by omega)) rfl) ve114) (by omega))
          subst hS
          exact gi_vret (pc := 67) ⟨rfl, ⟨_, hv114, (MW.trans (MW.trans (MW.trans sq8 sq41) sq69) (MW.mz _ _))⟩, pp166, pp167, pp168, pp169, kp114, oh114, ck114⟩ hv114 dX8_readTest_67
  ·
    have g170 : (0 : Int) ≤ (h39.2.1 70 4).toInt := (hv39.2.1 70 4).1
    have g171 : (h39.2.1 70 4).toInt ≤ 500 := (hv39.2.1 70 4).2
    have g172 : (-2147483648 : Int) ≤ (h39.2.1 70 5).toInt := (hv39.2.1 70 5).1
    have g173 : (h39.2.1 70 5).toInt ≤ 2147483647 := (hv39.2.1 70 5).2
    have g174 : (h39.2.1 70 4).toInt = u51.toInt := by rw [← (show u51 = h39.2.1 70 4 from u51w)] <;> exact (ti_rfl u51)
    have g175 : (h39.2.1 70 5).toInt = u52.toInt := by rw [← (show u52 = h39.2.1 70 5 from u52w)] <;> exact (ti_rfl u52)
    have pp176 : (h39.2.1 70 5).toInt = 0 → (h.2.1 70 5).toInt = 0 := (by omega)
    have pp177 : (h.2.1 70 4).toInt ≤ (h39.2.1 70 4).toInt := (by omega)
    have pp178 : (h39.2.1 70 5).toInt = 0 → 6 * (V h39.2.1 73 S - V h39.2.1 75 S) - (h39.2.1 70 4).toInt ≤ 6 * (V h.2.1 73 S - V h.2.1 75 S) - (h.2.1 70 4).toInt - 0 ∧ 2 * V h39.2.1 74 S - (h39.2.1 70 4).toInt ≤ 2 * V h.2.1 74 S - (h.2.1 70 4).toInt := (by omega)
    have pp179 : (h39.2.1 70 5).toInt = 0 → RT h.2.1 h39.2.1 S a2.toInt a4.toInt := (fun hg => absurd hg (by omega))
    subst hS
    exact gi_vret (pc := 25) ⟨rfl, ⟨_, hv39, (MW.trans sq8 sq41)⟩, pp176, pp177, pp178, pp179, kp39, oh39, ck39⟩ hv39 dX8_readTest_25
set_option maxHeartbeats 4000000 in
set_option maxRecDepth 100000 in
theorem s_X8_readTry_b (l : Launch) (d : Nat) {t : Nat} (ihB : ∀ {P : PP} {h : HP} (_ : Iv P h) (a2 : Int32) (a2l : -1 ≤ a2.toInt) (a2u : a2.toInt ≤ 259) (a3 : Int32) (a3l : 0 ≤ a3.toInt) (a3u : a3.toInt ≤ 4) (a4 : Int32) (a4l : 0 ≤ a4.toInt) (a4u : a4.toInt ≤ 7) (hp : (h.2.1 70 5).toInt = 0 → 6 * (V h.2.1 73 (h.2.1 70 6).toInt - V h.2.1 75 (h.2.1 70 6).toInt) ≤ (h.2.1 70 4).toInt + 5 * a4.toInt ∧ 2 * V h.2.1 74 (h.2.1 70 6).toInt ≤ (h.2.1 70 4).toInt + a4.toInt) (ht : (h.2.1 70 5).toInt = 0 → TR h.2.1 (h.2.1 70 6).toInt ∧ OO h.2.1 (h.2.1 70 6).toInt a2.toInt a4.toInt) (hd : 7 ≤ a4.toInt + (t : Int)), Mt l yX8_readBlock cX8_readBlock 5 (some .int) (d + 2) [.ref 70, .int a2, .int a3, .int a4] h 0 0 (fun r h' => ∃ v : Int32, r = some (.int v) ∧ 0 ≤ v.toInt ∧ v.toInt ≤ 559 ∧ (∃ Q : PP, Iv Q h' ∧ MW P Q) ∧ ((h'.2.1 70 5).toInt = 0 → (h.2.1 70 5).toInt = 0) ∧ ((h.2.1 70 4).toInt ≤ (h'.2.1 70 4).toInt) ∧ ((h'.2.1 70 5).toInt = 0 → (h.2.1 70 4).toInt + 2 ≤ (h'.2.1 70 4).toInt ∧ 6 * (V h'.2.1 73 (h.2.1 70 6).toInt - V h'.2.1 75 (h.2.1 70 6).toInt) - (h'.2.1 70 4).toInt ≤ 6 * (V h.2.1 73 (h.2.1 70 6).toInt - V h.2.1 75 (h.2.1 70 6).toInt) - (h.2.1 70 4).toInt - 2 ∧ 2 * V h'.2.1 74 (h.2.1 70 6).toInt - (h'.2.1 70 4).toInt ≤ 2 * V h.2.1 74 (h.2.1 70 6).toInt - (h.2.1 70 4).toInt) ∧ ((h'.2.1 70 5).toInt = 0 → RB h.2.1 h'.2.1 (h.2.1 70 6).toInt a2.toInt a4.toInt v.toInt) ∧ (KP h.2.1 h'.2.1) ∧ (OH h.2.1 h'.2.1 (h.2.1 70 6).toInt) ∧ (CKF h.2.1 → CKF h'.2.1))) {P : PP} {h : HP} (hv : Iv P h) (a2 : Int32) (a2l : 0 ≤ a2.toInt) (a2u : a2.toInt ≤ 259) (a3 : Int32) (a3l : 0 ≤ a3.toInt) (a3u : a3.toInt ≤ 4) (a4 : Int32) (a4l : 0 ≤ a4.toInt) (a4u : a4.toInt ≤ 6) (hi : 130 * (h.2.1 70 6).toInt ≤ a2.toInt ∧ a2.toInt < 130 * (h.2.1 70 6).toInt + 130) (h0 : (h.2.1 70 5).toInt = 0) (hp : 6 * (V h.2.1 73 (h.2.1 70 6).toInt - V h.2.1 75 (h.2.1 70 6).toInt) ≤ (h.2.1 70 4).toInt + 5 * a4.toInt + 5 ∧ 2 * V h.2.1 74 (h.2.1 70 6).toInt ≤ (h.2.1 70 4).toInt + a4.toInt + 1) (ht : TR h.2.1 (h.2.1 70 6).toInt ∧ a2.toInt = 130 * (h.2.1 70 6).toInt + V h.2.1 73 (h.2.1 70 6).toInt - 1 ∧ 0 < V h.2.1 73 (h.2.1 70 6).toInt ∧ V h.2.1 80 a2.toInt = a4.toInt ∧ V h.2.1 77 a2.toInt = 6) (hd : 7 ≤ a4.toInt + ((t + 1 : Nat) : Int)) : Mt l yX8_readTry cX8_readTry 4 none (d + 3) [.ref 70, .int a2, .int a3, .int a4] h 0 0 (fun r h' => r = none ∧ (∃ Q : PP, Iv Q h' ∧ MW P Q) ∧ ((h'.2.1 70 5).toInt = 0 → (h.2.1 70 5).toInt = 0) ∧ ((h.2.1 70 4).toInt ≤ (h'.2.1 70 4).toInt) ∧ ((h'.2.1 70 5).toInt = 0 → 6 * (V h'.2.1 73 (h.2.1 70 6).toInt - V h'.2.1 75 (h.2.1 70 6).toInt) - (h'.2.1 70 4).toInt ≤ 6 * (V h.2.1 73 (h.2.1 70 6).toInt - V h.2.1 75 (h.2.1 70 6).toInt) - (h.2.1 70 4).toInt - 5 ∧ 2 * V h'.2.1 74 (h.2.1 70 6).toInt - (h'.2.1 70 4).toInt ≤ 2 * V h.2.1 74 (h.2.1 70 6).toInt - (h.2.1 70 4).toInt) ∧ ((h'.2.1 70 5).toInt = 0 → RT h.2.1 h'.2.1 (h.2.1 70 6).toInt a2.toInt a4.toInt) ∧ (KP h.2.1 h'.2.1) ∧ (OH h.2.1 h'.2.1 (h.2.1 70 6).toInt) ∧ (CKF h.2.1 → CKF h'.2.1)) := by
  refine Mt_iv hv (by decide) (Nat.le_of_ble_eq_true rfl) ?_
  show Go l RX8 cX8_readTry 4 (g_rm (d + 3) 0 0) "readTry" none 117 0 0 (fun _ _ => True) (fun r h' => r = none ∧ (∃ Q : PP, Iv Q h' ∧ MW P Q) ∧ ((h'.2.1 70 5).toInt = 0 → (h.2.1 70 5).toInt = 0) ∧ ((h.2.1 70 4).toInt ≤ (h'.2.1 70 4).toInt) ∧ ((h'.2.1 70 5).toInt = 0 → 6 * (V h'.2.1 73 (h.2.1 70 6).toInt - V h'.2.1 75 (h.2.1 70 6).toInt) - (h'.2.1 70 4).toInt ≤ 6 * (V h.2.1 73 (h.2.1 70 6).toInt - V h.2.1 75 (h.2.1 70 6).toInt) - (h.2.1 70 4).toInt - 5 ∧ 2 * V h'.2.1 74 (h.2.1 70 6).toInt - (h'.2.1 70 4).toInt ≤ 2 * V h.2.1 74 (h.2.1 70 6).toInt - (h.2.1 70 4).toInt) ∧ ((h'.2.1 70 5).toInt = 0 → RT h.2.1 h'.2.1 (h.2.1 70 6).toInt a2.toInt a4.toInt) ∧ (KP h.2.1 h'.2.1) ∧ (OH h.2.1 h'.2.1 (h.2.1 70 6).toInt) ∧ (CKF h.2.1 → CKF h'.2.1)) 0 0 [(0, .ref 70), (1, .int a2), (2, .int a3), (3, .int a4)] [] h
  obtain ⟨S, hS⟩ : ∃ S : Int, S = (h.2.1 70 6).toInt := ⟨_, rfl⟩
  have S0 : 0 ≤ S := by rw [hS]; exact (hv.2.1 70 6).1
  have S1 : S ≤ 1 := by rw [hS]; exact (hv.2.1 70 6).2
  have oh : OH h.2.1 h.2.1 S := OH.rfl _ _
  have ck : CKF h.2.1 → CKF h.2.1 := id
  have kp : KP h.2.1 h.2.1 := KP.rfl _
  rw [← hS] at hi
  rw [← hS] at hp
  rw [← hS] at ht
  refine go_aload_n (pc := 0) rfl dX8_readTry_0 ?_
  refine gi_getF (pc := 1) (q := 85) hv fL_X8_53 rfl (Nat.le_of_ble_eq_true rfl) rfl (hv.rf (by decide)) dX8_readTry_1 ?_
  refine go_iload_n (pc := 4) rfl dX8_readTry_4 ?_
  refine go_aload_n (pc := 5) rfl dX8_readTry_5 ?_
  refine go_iload_n (pc := 6) rfl dX8_readTry_6 ?_
  refine go_iload_n (pc := 7) rfl dX8_readTry_7 ?_
  refine go_iload_n (pc := 8) rfl dX8_readTry_8 ?_
  refine go_iconst (pc := 9) (v := 1) (by decide) dX8_readTry_9 ?_
  refine gf_iadd (pc := 10) (ti_rfl a4) (ti_c (v := 1) (a := 1) (by decide)) (by omega) (by omega) dX8_readTry_10 (fun v1 e2 => ?_)
  have zd : (v1 : Int32).toInt = a4.toInt + 1 := e2
  have op1 : OP h.2.1 h.2.1 := (OP.rfl _)
  have o80 := (op1 S).2 80 a2.toInt (by omega) (by omega) (by omega) (by omega)
  have sM3 : (h.2.1 70 6).toInt = S := (congrArg Int32.toInt oh.side).trans hS.symm
  have g4 : (0 : Int) ≤ (h.2.1 70 4).toInt := (hv.2.1 70 4).1
  have g5 : (h.2.1 70 4).toInt ≤ 500 := (hv.2.1 70 4).2
  have g6 : (-2147483648 : Int) ≤ (h.2.1 70 5).toInt := (hv.2.1 70 5).1
  have g7 : (h.2.1 70 5).toInt ≤ 2147483647 := (hv.2.1 70 5).2
  refine go_invV (pc := 11) (sl := 0) (ihB hv a2 (by rw [show (a2 : Int32).toInt = a2.toInt from (ti_rfl a2)]; omega) (by rw [show (a2 : Int32).toInt = a2.toInt from (ti_rfl a2)]; omega) a3 (by rw [show (a3 : Int32).toInt = a3.toInt from (ti_rfl a3)]; omega) (by rw [show (a3 : Int32).toInt = a3.toInt from (ti_rfl a3)]; omega) v1 (by rw [show (v1 : Int32).toInt = (a4.toInt + 1) from e2]; omega) (by rw [show (v1 : Int32).toInt = (a4.toInt + 1) from e2]; omega) (by rw [sM3]; exact (fun _ => by omega)) (by rw [sM3]; exact (fun _ => by rw [zd]; exact ⟨(op1 S).1 ht.1, OO.last (by omega) (by omega) (by omega)⟩)) (by omega)) mL_X8_224 iM_X8_readBlock sM_X8_readBlock (hv.sh rfl) rfl rfl rfl (Nat.le_of_ble_eq_true rfl) (show d + 2 + 1 ≤ d + 3 by omega) (show 8 + (5 + 11) + 40 * (d + 2) ≤ 40 * (d + 3) by omega) (g_c0 hv.ln) (Nat.le_of_ble_eq_true rfl) dX8_readTry_11 ?_
  intro r h8 hq _
  obtain ⟨v18, rfl, v18l, v18u, ⟨Q9, hv8, sq10⟩, f11, f12, f13, f14, f15, f16, f17⟩ := hq
  rw [sM3] at f13
  rw [sM3] at f14
  rw [sM3] at f16
  have oh8 : OH h.2.1 h8.2.1 S := oh.trans f16
  have kp8 : KP h.2.1 h8.2.1 := kp.trans f15
  have ck8 : CKF h.2.1 → CKF h8.2.1 := fun z => f17 (ck z)
  try rw [show (v1 : Int32).toInt = (a4.toInt + 1) from e2] at f11
  try rw [show (v1 : Int32).toInt = (a4.toInt + 1) from e2] at f12
  try rw [show (v1 : Int32).toInt = (a4.toInt + 1) from e2] at f13
  try rw [show (v1 : Int32).toInt = (a4.toInt + 1) from e2] at f14
  try rw [show (v1 : Int32).toInt = (a4.toInt + 1) from e2] at f15
  try rw [show (v1 : Int32).toInt = (a4.toInt + 1) from e2] at f16
  try rw [show (v1 : Int32).toInt = (a4.toInt + 1) from e2] at f17
  obtain ⟨u19, u19w⟩ : ∃ v : Int32, v = h8.2.1 70 4 := ⟨_, rfl⟩
  have u19e : (h8.2.1 70 4).toInt = u19.toInt := by rw [u19w]
  have u19l : 0 ≤ u19.toInt := by rw [u19w]; exact (hv8.2.1 70 4).1
  have u19u : u19.toInt ≤ 500 := by rw [u19w]; exact (hv8.2.1 70 4).2
  obtain ⟨u20, u20w⟩ : ∃ v : Int32, v = h8.2.1 70 5 := ⟨_, rfl⟩
  have u20e : (h8.2.1 70 5).toInt = u20.toInt := by rw [u20w]
  have u20l : -2147483648 ≤ u20.toInt := by rw [u20w]; exact (hv8.2.1 70 5).1
  have u20u : u20.toInt ≤ 2147483647 := by rw [u20w]; exact (hv8.2.1 70 5).2
  refine gi_fst (pc := 14) (lo := -1) (hi := 559) (len := 260) hv8 (ti_rfl a2) (ti_rfl v18) rfl (by omega) (by omega) (fun _ => rfl) (by omega) (by omega) (by omega) dX8_readTry_14 (fun h21 hv21 hv21e => ?_)
  refine go_aload_n (pc := 15) rfl dX8_readTry_15 ?_
  refine go_invV (pc := 16) (sl := 0) (s_X8_isGood l (d + 1) hv21 ) mL_X8_172 iM_X8_isGood sM_X8_isGood (hv21.sh rfl) rfl rfl rfl (Nat.le_of_ble_eq_true rfl) (show d + 1 + 1 + 1 ≤ d + 3 by omega) (show 8 + (1 + 11) + 40 * (d + 1 + 1) ≤ 40 * (d + 3) by omega) (g_c0 hv21.ln) (Nat.le_of_ble_eq_true rfl) dX8_readTry_16 ?_
  intro r h22 hq _
  obtain ⟨v25, rfl, v25l, v25u, rfl, f23, f24⟩ := hq
  have E21 : h21.2.1 = (w1 h8.2.1 85 a2.toInt (v18 : Int32)) := by
    rw [hv21e]
    rfl
  have oh21 : OH h.2.1 h21.2.1 S := by rw [E21]; exact (oh8.trans (OH.w 130 rfl (by omega) (by omega) (by omega) (by omega)))
  have kp21 : KP h.2.1 h21.2.1 := by rw [E21]; exact (kp8.trans (KP.w (by omega)))
  have n73_21 : V h21.2.1 73 S = V h8.2.1 73 S := by rw [E21, V_ne (by omega)]
  have n74_21 : V h21.2.1 74 S = V h8.2.1 74 S := by rw [E21, V_ne (by omega)]
  have n75_21 : V h21.2.1 75 S = V h8.2.1 75 S := by rw [E21, V_ne (by omega)]
  have ck21 : CKF h.2.1 → CKF h21.2.1 := fun z => by rw [E21]; exact (CKF.w (by omega) (ck8 z))
  refine gf_if_ne (pc := 19) (tgt := 23) (ti_rfl v25) (by decide) dX8_readTry_19 (fun q26 => ?_) (fun q26 => ?_)
  ·
    refine go_aload_n (pc := 23) rfl dX8_readTry_23 ?_
    refine gi_getF (pc := 24) (q := 82) hv21 fL_X8_44 rfl (Nat.le_of_ble_eq_true rfl) rfl (hv21.rf (by decide)) dX8_readTry_24 ?_
    refine go_iload_n (pc := 27) rfl dX8_readTry_27 ?_
    refine go_aload_n (pc := 28) rfl dX8_readTry_28 ?_
    refine go_iconst (pc := 29) (v := 0) (by decide) dX8_readTry_29 ?_
    have g27 : (0 : Int) ≤ (h21.2.1 70 4).toInt := (hv21.2.1 70 4).1
    have g28 : (h21.2.1 70 4).toInt ≤ 500 := (hv21.2.1 70 4).2
    have g29 : (-2147483648 : Int) ≤ (h21.2.1 70 5).toInt := (hv21.2.1 70 5).1
    have g30 : (h21.2.1 70 5).toInt ≤ 2147483647 := (hv21.2.1 70 5).2
    have g31 : (h21.2.1 70 4).toInt = u19.toInt := by rw [← (show u19 = h21.2.1 70 4 from (show u19 = h21.2.1 70 4 from by rw [hv21e]; exact (g_iI rfl u19w.symm).symm))] <;> exact (ti_rfl u19)
    have g32 : (h21.2.1 70 5).toInt = u20.toInt := by rw [← (show u20 = h21.2.1 70 5 from (show u20 = h21.2.1 70 5 from by rw [hv21e]; exact (g_iI rfl u20w.symm).symm))] <;> exact (ti_rfl u20)
    refine go_invV (pc := 30) (sl := 0) (s_X8_nameHere l (d + 0) hv21 0 (by rw [show (0 : Int32).toInt = 0 from (ti_c (v := 0) (a := 0) (by decide))]; omega) (by rw [show (0 : Int32).toInt = 0 from (ti_c (v := 0) (a := 0) (by decide))]; omega)) mL_X8_183 iM_X8_nameHere sM_X8_nameHere (hv21.sh rfl) rfl rfl rfl (Nat.le_of_ble_eq_true rfl) (show d + 0 + 2 + 1 ≤ d + 3 by omega) (show 8 + (3 + 11) + 40 * (d + 0 + 2) ≤ 40 * (d + 3) by omega) (g_c0 hv21.ln) (Nat.le_of_ble_eq_true rfl) dX8_readTry_30 ?_
    intro r h33 hq _
    obtain ⟨v39, rfl, v39l, v39u, hv33, f34, f35, f36, f37, f38⟩ := hq
    try rw [show (0 : Int32).toInt = 0 from (ti_c (v := 0) (a := 0) (by decide))] at f34
    try rw [show (0 : Int32).toInt = 0 from (ti_c (v := 0) (a := 0) (by decide))] at f35
    try rw [show (0 : Int32).toInt = 0 from (ti_c (v := 0) (a := 0) (by decide))] at f36
    try rw [show (0 : Int32).toInt = 0 from (ti_c (v := 0) (a := 0) (by decide))] at f37
    try rw [show (0 : Int32).toInt = 0 from (ti_c (v := 0) (a := 0) (by decide))] at f38
    have ve33 : VE h21.2.1 h33.2.1 := VE.of hv21 hv33
    have oh33 : OH h.2.1 h33.2.1 S := oh21.trans (OH.of hv21 hv33 S)
    have kp33 : KP h.2.1 h33.2.1 := kp21.trans (KP.ve ve33)
    have ck33 : CKF h.2.1 → CKF h33.2.1 := fun z => CKF.ve ve33 (ck21 z)
    have n73_33 : V h33.2.1 73 S = V h21.2.1 73 S := ve33.v (by omega) (by omega)
    have n74_33 : V h33.2.1 74 S = V h21.2.1 74 S := ve33.v (by omega) (by omega)
    have n75_33 : V h33.2.1 75 S = V h21.2.1 75 S := ve33.v (by omega) (by omega)
    obtain ⟨u40, u40w⟩ : ∃ v : Int32, v = h33.2.1 70 4 := ⟨_, rfl⟩
    have u40e : (h33.2.1 70 4).toInt = u40.toInt := by rw [u40w]
    have u40l : 0 ≤ u40.toInt := by rw [u40w]; exact (hv33.2.1 70 4).1
    have u40u : u40.toInt ≤ 500 := by rw [u40w]; exact (hv33.2.1 70 4).2
    obtain ⟨u41, u41w⟩ : ∃ v : Int32, v = h33.2.1 70 5 := ⟨_, rfl⟩
    have u41e : (h33.2.1 70 5).toInt = u41.toInt := by rw [u41w]
    have u41l : -2147483648 ≤ u41.toInt := by rw [u41w]; exact (hv33.2.1 70 5).1
    have u41u : u41.toInt ≤ 2147483647 := by rw [u41w]; exact (hv33.2.1 70 5).2
    refine gi_fst (pc := 33) (lo := -1) (hi := 9) (len := 260) hv33 (ti_rfl a2) (ti_rfl v39) rfl (by omega) (by omega) (fun _ => rfl) (by omega) (by omega) (by omega) dX8_readTry_33 (fun h42 hv42 hv42e => ?_)
    refine go_aload_n (pc := 34) rfl dX8_readTry_34 ?_
    refine gi_getF (pc := 35) (q := 82) hv42 fL_X8_44 rfl (Nat.le_of_ble_eq_true rfl) rfl (hv42.rf (by decide)) dX8_readTry_35 ?_
    refine go_iload_n (pc := 38) rfl dX8_readTry_38 ?_
    have E42 : h42.2.1 = (w1 h33.2.1 82 a2.toInt (v39 : Int32)) := by
      rw [hv42e]
      rfl
    have oh42 : OH h.2.1 h42.2.1 S := by rw [E42]; exact (oh33.trans (OH.w 130 rfl (by omega) (by omega) (by omega) (by omega)))
    have kp42 : KP h.2.1 h42.2.1 := by rw [E42]; exact (kp33.trans (KP.w (by omega)))
    have n73_42 : V h42.2.1 73 S = V h33.2.1 73 S := by rw [E42, V_ne (by omega)]
    have n74_42 : V h42.2.1 74 S = V h33.2.1 74 S := by rw [E42, V_ne (by omega)]
    have n75_42 : V h42.2.1 75 S = V h33.2.1 75 S := by rw [E42, V_ne (by omega)]
    have ck42 : CKF h.2.1 → CKF h42.2.1 := fun z => by rw [E42]; exact (CKF.w (by omega) (ck33 z))
    refine gi_iald (pc := 39) (lo := -1) (hi := 9) (len := 260) hv42 (ti_rfl a2) rfl (by omega) (by omega) (fun _ => rfl) dX8_readTry_39 (fun v43 v43l v43u v43w => ?_)
    have v43V : v43.toInt = V h42.2.1 82 a2.toInt := by rw [v43w]; rfl
    have vn0 : V h42.2.1 82 a2.toInt = v39.toInt := by rw [E42, V_eq] <;> exact (ti_rfl v39)
    refine go_iconst (pc := 40) (v := (-1)) (by decide) dX8_readTry_40 ?_
    refine gf_icmp_ne (pc := 41) (tgt := 50) (ti_rfl v43) (ti_c (v := (-1)) (a := (-1)) (by decide)) (by decide) dX8_readTry_41 (fun q44 => ?_) (fun q44 => ?_)
    ·
      refine go_aload_n (pc := 50) rfl dX8_readTry_50 ?_
      refine go_dup (pc := 51) rfl dX8_readTry_51 ?_
      refine gi_get (pc := 52) (lo := 0) (hi := 500) hv42 fL_X8_163 rfl (Nat.le_of_ble_eq_true rfl) rfl rfl dX8_readTry_52 (fun v45 v45l v45u v45w => ?_)
      have v45r : u40 = h42.2.1 70 4 := (show u40 = h42.2.1 70 4 from by rw [hv42e]; exact (g_iI rfl u40w.symm).symm)
      have v45q : TI v45 u40.toInt := by rw [v45w.trans v45r.symm]; exact (ti_rfl u40)
      refine go_iconst (pc := 55) (v := 1) (by decide) dX8_readTry_55 ?_
      refine gf_iadd (pc := 56) v45q (ti_c (v := 1) (a := 1) (by decide)) (by omega) (by omega) dX8_readTry_56 (fun v46 e47 => ?_)
      refine gi_put (pc := 57) (lo := 0) (hi := 500) hv42 e47 (fP_X8_163 _) rfl (Nat.le_of_ble_eq_true rfl) rfl rfl (by omega) (by omega) rfl rfl (by decide) (by decide) (by decide) (by decide) dX8_readTry_57 (fun h48 hv48 hv48e => ?_)
      have ve48 : VE h42.2.1 h48.2.1 := VE.of hv42 hv48
      have oh48 : OH h.2.1 h48.2.1 S := oh42.trans (OH.of hv42 hv48 S)
      have kp48 : KP h.2.1 h48.2.1 := kp42.trans (KP.ve ve48)
      have ck48 : CKF h.2.1 → CKF h48.2.1 := fun z => CKF.ve ve48 (ck42 z)
      have n73_48 : V h48.2.1 73 S = V h42.2.1 73 S := ve48.v (by omega) (by omega)
      have n74_48 : V h48.2.1 74 S = V h42.2.1 74 S := ve48.v (by omega) (by omega)
      have n75_48 : V h48.2.1 75 S = V h42.2.1 75 S := ve48.v (by omega) (by omega)
      refine go_aload_n (pc := 60) rfl dX8_readTry_60 ?_
      refine gi_getF (pc := 61) (q := 86) hv48 fL_X8_56 rfl (Nat.le_of_ble_eq_true rfl) rfl (hv48.rf (by decide)) dX8_readTry_61 ?_
      refine go_iload_n (pc := 64) rfl dX8_readTry_64 ?_
      refine go_aload_n (pc := 65) rfl dX8_readTry_65 ?_
      refine go_iload_n (pc := 66) rfl dX8_readTry_66 ?_
      refine go_iload_n (pc := 67) rfl dX8_readTry_67 ?_
      refine go_iload_n (pc := 68) rfl dX8_readTry_68 ?_
      refine go_iconst (pc := 69) (v := 1) (by decide) dX8_readTry_69 ?_
      refine gf_iadd (pc := 70) (ti_rfl a4) (ti_c (v := 1) (a := 1) (by decide)) (by omega) (by omega) dX8_readTry_70 (fun v49 e50 => ?_)
      have zd : (v49 : Int32).toInt = a4.toInt + 1 := e50
      have r1 : R1 h.2.1 h48.2.1 S a2.toInt a4.toInt := (R1.ve (show R1 h.2.1 h42.2.1 S a2.toInt a4.toInt from by rw [E42]; exact R1.nm S0 (R1.ve (show R1 h.2.1 h21.2.1 S a2.toInt a4.toInt from by rw [E21]; exact R1.mk S0 (OP.rfl _) (f14 (by omega)) rfl) ve33) (by omega)) ve48)
      have oo1 := r1.oo ht.1 ht.2.1 ht.2.2.1 ht.2.2.2.1
      have sM51 : (h48.2.1 70 6).toInt = S := (congrArg Int32.toInt oh48.side).trans hS.symm
      have g52 : (0 : Int) ≤ (h48.2.1 70 4).toInt := (hv48.2.1 70 4).1
      have g53 : (h48.2.1 70 4).toInt ≤ 500 := (hv48.2.1 70 4).2
      have g54 : (-2147483648 : Int) ≤ (h48.2.1 70 5).toInt := (hv48.2.1 70 5).1
      have g55 : (h48.2.1 70 5).toInt ≤ 2147483647 := (hv48.2.1 70 5).2
      have g56 : (h48.2.1 70 5).toInt = u41.toInt := by rw [← (show u41 = h48.2.1 70 5 from (show u41 = h48.2.1 70 5 from by rw [hv48e]; exact (g_iI rfl (show u41 = h42.2.1 70 5 from by rw [hv42e]; exact (g_iI rfl u41w.symm).symm).symm).symm))] <;> exact (ti_rfl u41)
      have g57 : (h48.2.1 70 4).toInt = (u40.toInt + 1) := by rw [← (show v46 = h48.2.1 70 4 from (show v46 = h48.2.1 70 4 from by rw [hv48e]; exact g_iS.symm))] <;> exact e47
      refine go_invV (pc := 71) (sl := 0) (ihB hv48 a2 (by rw [show (a2 : Int32).toInt = a2.toInt from (ti_rfl a2)]; omega) (by rw [show (a2 : Int32).toInt = a2.toInt from (ti_rfl a2)]; omega) a3 (by rw [show (a3 : Int32).toInt = a3.toInt from (ti_rfl a3)]; omega) (by rw [show (a3 : Int32).toInt = a3.toInt from (ti_rfl a3)]; omega) v49 (by rw [show (v49 : Int32).toInt = (a4.toInt + 1) from e50]; omega) (by rw [show (v49 : Int32).toInt = (a4.toInt + 1) from e50]; omega) (by rw [sM51]; exact (fun _ => by omega)) (by rw [sM51]; exact (fun _ => by rw [zd]; exact oo1)) (by omega)) mL_X8_224 iM_X8_readBlock sM_X8_readBlock (hv48.sh rfl) rfl rfl rfl (Nat.le_of_ble_eq_true rfl) (show d + 2 + 1 ≤ d + 3 by omega) (show 8 + (5 + 11) + 40 * (d + 2) ≤ 40 * (d + 3) by omega) (g_c0 hv48.ln) (Nat.le_of_ble_eq_true rfl) dX8_readTry_71 ?_
      intro r h58 hq _
      obtain ⟨v68, rfl, v68l, v68u, ⟨Q59, hv58, sq60⟩, f61, f62, f63, f64, f65, f66, f67⟩ := hq
      rw [sM51] at f63
      rw [sM51] at f64
      rw [sM51] at f66
      have oh58 : OH h.2.1 h58.2.1 S := oh48.trans f66
      have kp58 : KP h.2.1 h58.2.1 := kp48.trans f65
      have ck58 : CKF h.2.1 → CKF h58.2.1 := fun z => f67 (ck48 z)
      try rw [show (v49 : Int32).toInt = (a4.toInt + 1) from e50] at f61
      try rw [show (v49 : Int32).toInt = (a4.toInt + 1) from e50] at f62
      try rw [show (v49 : Int32).toInt = (a4.toInt + 1) from e50] at f63
      try rw [show (v49 : Int32).toInt = (a4.toInt + 1) from e50] at f64
      try rw [show (v49 : Int32).toInt = (a4.toInt + 1) from e50] at f65
      try rw [show (v49 : Int32).toInt = (a4.toInt + 1) from e50] at f66
      try rw [show (v49 : Int32).toInt = (a4.toInt + 1) from e50] at f67
      obtain ⟨u69, u69w⟩ : ∃ v : Int32, v = h58.2.1 70 4 := ⟨_, rfl⟩
      have u69e : (h58.2.1 70 4).toInt = u69.toInt := by rw [u69w]
      have u69l : 0 ≤ u69.toInt := by rw [u69w]; exact (hv58.2.1 70 4).1
      have u69u : u69.toInt ≤ 500 := by rw [u69w]; exact (hv58.2.1 70 4).2
      obtain ⟨u70, u70w⟩ : ∃ v : Int32, v = h58.2.1 70 5 := ⟨_, rfl⟩
      have u70e : (h58.2.1 70 5).toInt = u70.toInt := by rw [u70w]
      have u70l : -2147483648 ≤ u70.toInt := by rw [u70w]; exact (hv58.2.1 70 5).1
      have u70u : u70.toInt ≤ 2147483647 := by rw [u70w]; exact (hv58.2.1 70 5).2
      refine gi_fst (pc := 74) (lo := -1) (hi := 559) (len := 260) hv58 (ti_rfl a2) (ti_rfl v68) rfl (by omega) (by omega) (fun _ => rfl) (by omega) (by omega) (by omega) dX8_readTry_74 (fun h71 hv71 hv71e => ?_)
      have E71 : h71.2.1 = (w1 h58.2.1 86 a2.toInt (v68 : Int32)) := by
        rw [hv71e]
        rfl
      have oh71 : OH h.2.1 h71.2.1 S := by rw [E71]; exact (oh58.trans (OH.w 130 rfl (by omega) (by omega) (by omega) (by omega)))
      have kp71 : KP h.2.1 h71.2.1 := by rw [E71]; exact (kp58.trans (KP.w (by omega)))
      have n73_71 : V h71.2.1 73 S = V h58.2.1 73 S := by rw [E71, V_ne (by omega)]
      have n74_71 : V h71.2.1 74 S = V h58.2.1 74 S := by rw [E71, V_ne (by omega)]
      have n75_71 : V h71.2.1 75 S = V h58.2.1 75 S := by rw [E71, V_ne (by omega)]
      have ck71 : CKF h.2.1 → CKF h71.2.1 := fun z => by rw [E71]; exact (CKF.w (by omega) (ck58 z))
      have g72 : (0 : Int) ≤ (h71.2.1 70 4).toInt := (hv71.2.1 70 4).1
      have g73 : (h71.2.1 70 4).toInt ≤ 500 := (hv71.2.1 70 4).2
      have g74 : (-2147483648 : Int) ≤ (h71.2.1 70 5).toInt := (hv71.2.1 70 5).1
      have g75 : (h71.2.1 70 5).toInt ≤ 2147483647 := (hv71.2.1 70 5).2
      have g76 : (h71.2.1 70 4).toInt = u69.toInt := by rw [← (show u69 = h71.2.1 70 4 from (show u69 = h71.2.1 70 4 from by rw [hv71e]; exact (g_iI rfl u69w.symm).symm))] <;> exact (ti_rfl u69)
      have g77 : (h71.2.1 70 5).toInt = u70.toInt := by rw [← (show u70 = h71.2.1 70 5 from (show u70 = h71.2.1 70 5 from by rw [hv71e]; exact (g_iI rfl u70w.symm).symm))] <;> exact (ti_rfl u70)
      have pp78 : (h71.2.1 70 5).toInt = 0 → (h.2.1 70 5).toInt = 0 := (by omega)
      have pp79 : (h.2.1 70 4).toInt ≤ (h71.2.1 70 4).toInt := (by omega)
      have pp80 : (h71.2.1 70 5).toInt = 0 → 6 * (V h71.2.1 73 S - V h71.2.1 75 S) - (h71.2.1 70 4).toInt ≤ 6 * (V h.2.1 73 S - V h.2.1 75 S) - (h.2.1 70 4).toInt - 5 ∧ 2 * V h71.2.1 74 S - (h71.2.1 70 4).toInt ≤ 2 * V h.2.1 74 S - (h.2.1 70 4).toInt := (by omega)
      have vn1 : V h48.2.1 82 a2.toInt = V h42.2.1 82 a2.toInt := by rw [ve48.v (by omega) (by omega)]
      have vn2 : V h42.2.1 82 a2.toInt = v39.toInt := by rw [E42, V_eq] <;> exact (ti_rfl v39)
      have pp81 : (h71.2.1 70 5).toInt = 0 → RT h.2.1 h71.2.1 S a2.toInt a4.toInt := (fun hg => by rw [E71]; exact R1.fin2 S0 r1 (f64 (by omega)) rfl (fun _ => by omega))
      subst hS
      exact gi_vret (pc := 75) ⟨rfl, ⟨_, hv71, (MW.trans (MW.trans (MW.trans (MW.trans sq10 (MW.mz _ _)) (MW.mz _ _)) sq60) (MW.mz _ _))⟩, pp78, pp79, pp80, pp81, kp71, oh71, ck71⟩ hv71 dX8_readTry_75
    ·
      refine go_aload_n (pc := 44) rfl dX8_readTry_44 ?_
      refine go_iconst (pc := 45) (v := 1) (by decide) dX8_readTry_45 ?_
      have g82 : (0 : Int) ≤ (h42.2.1 70 4).toInt := (hv42.2.1 70 4).1
      have g83 : (h42.2.1 70 4).toInt ≤ 500 := (hv42.2.1 70 4).2
      have g84 : (-2147483648 : Int) ≤ (h42.2.1 70 5).toInt := (hv42.2.1 70 5).1
      have g85 : (h42.2.1 70 5).toInt ≤ 2147483647 := (hv42.2.1 70 5).2
      have g86 : (h42.2.1 70 4).toInt = u40.toInt := by rw [← (show u40 = h42.2.1 70 4 from (show u40 = h42.2.1 70 4 from by rw [hv42e]; exact (g_iI rfl u40w.symm).symm))] <;> exact (ti_rfl u40)
      have g87 : (h42.2.1 70 5).toInt = u41.toInt := by rw [← (show u41 = h42.2.1 70 5 from (show u41 = h42.2.1 70 5 from by rw [hv42e]; exact (g_iI rfl u41w.symm).symm))] <;> exact (ti_rfl u41)
      refine go_invV (pc := 46) (sl := 0) (s_X8_fails l (d + 1) hv42 1 (by rw [show (1 : Int32).toInt = 1 from (ti_c (v := 1) (a := 1) (by decide))]; omega) (by rw [show (1 : Int32).toInt = 1 from (ti_c (v := 1) (a := 1) (by decide))]; omega)) mL_X8_180 iM_X8_fails sM_X8_fails (hv42.sh rfl) rfl rfl rfl (Nat.le_of_ble_eq_true rfl) (show d + 1 + 1 + 1 ≤ d + 3 by omega) (show 8 + (2 + 11) + 40 * (d + 1 + 1) ≤ 40 * (d + 3) by omega) (g_c0 hv42.ln) (Nat.le_of_ble_eq_true rfl) dX8_readTry_46 ?_
      intro r h88 hq _
      obtain ⟨rfl, hv88, f89, f90⟩ := hq
      try rw [show (1 : Int32).toInt = 1 from (ti_c (v := 1) (a := 1) (by decide))] at f89
      try rw [show (1 : Int32).toInt = 1 from (ti_c (v := 1) (a := 1) (by decide))] at f90
      have ve88 : VE h42.2.1 h88.2.1 := VE.of hv42 hv88
      have oh88 : OH h.2.1 h88.2.1 S := oh42.trans (OH.of hv42 hv88 S)
      have kp88 : KP h.2.1 h88.2.1 := kp42.trans (KP.ve ve88)
      have ck88 : CKF h.2.1 → CKF h88.2.1 := fun z => CKF.ve ve88 (ck42 z)
      have n73_88 : V h88.2.1 73 S = V h42.2.1 73 S := ve88.v (by omega) (by omega)
      have n74_88 : V h88.2.1 74 S = V h42.2.1 74 S := ve88.v (by omega) (by omega)
      have n75_88 : V h88.2.1 75 S = V h42.2.1 75 S := ve88.v (by omega) (by omega)
      obtain ⟨u91, u91w⟩ : ∃ v : Int32, v = h88.2.1 70 4 := ⟨_, rfl⟩
      have u91e : (h88.2.1 70 4).toInt = u91.toInt := by rw [u91w]
      have u91l : 0 ≤ u91.toInt := by rw [u91w]; exact (hv88.2.1 70 4).1
      have u91u : u91.toInt ≤ 500 := by rw [u91w]; exact (hv88.2.1 70 4).2
      obtain ⟨u92, u92w⟩ : ∃ v : Int32, v = h88.2.1 70 5 := ⟨_, rfl⟩
      have u92e : (h88.2.1 70 5).toInt = u92.toInt := by rw [u92w]
      have u92l : -2147483648 ≤ u92.toInt := by rw [u92w]; exact (hv88.2.1 70 5).1
      have u92u : u92.toInt ≤ 2147483647 := by rw [u92w]; exact (hv88.2.1 70 5).2
      have g93 : (0 : Int) ≤ (h88.2.1 70 4).toInt := (hv88.2.1 70 4).1
      have g94 : (h88.2.1 70 4).toInt ≤ 500 := (hv88.2.1 70 4).2
      have g95 : (-2147483648 : Int) ≤ (h88.2.1 70 5).toInt := (hv88.2.1 70 5).1
      have g96 : (h88.2.1 70 5).toInt ≤ 2147483647 := (hv88.2.1 70 5).2
      have g97 : (h88.2.1 70 4).toInt = u91.toInt := by rw [← (show u91 = h88.2.1 70 4 from u91w)] <;> exact (ti_rfl u91)
      have g98 : (h88.2.1 70 5).toInt = u92.toInt := by rw [← (show u92 = h88.2.1 70 5 from u92w)] <;> exact (ti_rfl u92)
      have pp99 : (h88.2.1 70 5).toInt = 0 → (h.2.1 70 5).toInt = 0 := (by omega)
      have pp100 : (h.2.1 70 4).toInt ≤ (h88.2.1 70 4).toInt := (by omega)
      have pp101 : (h88.2.1 70 5).toInt = 0 → 6 * (V h88.2.1 73 S - V h88.2.1 75 S) - (h88.2.1 70 4).toInt ≤ 6 * (V h.2.1 73 S - V h.2.1 75 S) - (h.2.1 70 4).toInt - 5 ∧ 2 * V h88.2.1 74 S - (h88.2.1 70 4).toInt ≤ 2 * V h.2.1 74 S - (h.2.1 70 4).toInt := (by omega)
      have pp102 : (h88.2.1 70 5).toInt = 0 → RT h.2.1 h88.2.1 S a2.toInt a4.toInt := (fun hg => absurd hg (by omega))
      subst hS
      exact gi_vret (pc := 49) ⟨rfl, ⟨_, hv88, (MW.trans (MW.trans sq10 (MW.mz _ _)) (MW.mz _ _))⟩, pp99, pp100, pp101, pp102, kp88, oh88, ck88⟩ hv88 dX8_readTry_49
  ·
    have g103 : (0 : Int) ≤ (h21.2.1 70 4).toInt := (hv21.2.1 70 4).1
    have g104 : (h21.2.1 70 4).toInt ≤ 500 := (hv21.2.1 70 4).2
    have g105 : (-2147483648 : Int) ≤ (h21.2.1 70 5).toInt := (hv21.2.1 70 5).1
    have g106 : (h21.2.1 70 5).toInt ≤ 2147483647 := (hv21.2.1 70 5).2
    have g107 : (h21.2.1 70 4).toInt = u19.toInt := by rw [← (show u19 = h21.2.1 70 4 from (show u19 = h21.2.1 70 4 from by rw [hv21e]; exact (g_iI rfl u19w.symm).symm))] <;> exact (ti_rfl u19)
    have g108 : (h21.2.1 70 5).toInt = u20.toInt := by rw [← (show u20 = h21.2.1 70 5 from (show u20 = h21.2.1 70 5 from by rw [hv21e]; exact (g_iI rfl u20w.symm).symm))] <;> exact (ti_rfl u20)
    have pp109 : (h21.2.1 70 5).toInt = 0 → (h.2.1 70 5).toInt = 0 := (by omega)
    have pp110 : (h.2.1 70 4).toInt ≤ (h21.2.1 70 4).toInt := (by omega)
    have pp111 : (h21.2.1 70 5).toInt = 0 → 6 * (V h21.2.1 73 S - V h21.2.1 75 S) - (h21.2.1 70 4).toInt ≤ 6 * (V h.2.1 73 S - V h.2.1 75 S) - (h.2.1 70 4).toInt - 5 ∧ 2 * V h21.2.1 74 S - (h21.2.1 70 4).toInt ≤ 2 * V h.2.1 74 S - (h.2.1 70 4).toInt := (by omega)
    have pp112 : (h21.2.1 70 5).toInt = 0 → RT h.2.1 h21.2.1 S a2.toInt a4.toInt := (fun hg => absurd hg (by omega))
    subst hS
    exact gi_vret (pc := 22) ⟨rfl, ⟨_, hv21, (MW.trans sq10 (MW.mz _ _))⟩, pp109, pp110, pp111, pp112, kp21, oh21, ck21⟩ hv21 dX8_readTry_22
