theorem hI_comm {h : HP} {a b j k : Nat} {x y : Int32} (n : a ≠ b) : hI (hI h a j x) b k y = hI (hI h b k y) a j x := by
  have e : (fun p q => if p = b ∧ q = k then y else if p = a ∧ q = j then x else h.2.1 p q) = (fun p q => if p = a ∧ q = j then x else if p = b ∧ q = k then y else h.2.1 p q) := by
    funext p q
    by_cases hb : p = b ∧ q = k
    · rw [if_pos hb, if_neg (by omega), if_pos hb]
    · rw [if_neg hb]
      by_cases ha : p = a ∧ q = j
      · rw [if_pos ha, if_pos ha]
      · rw [if_neg ha, if_neg ha, if_neg hb]
  show (h.1, (fun p q => if p = b ∧ q = k then y else if p = a ∧ q = j then x else h.2.1 p q), h.2.2.1, h.2.2.2) = (h.1, (fun p q => if p = a ∧ q = j then x else if p = b ∧ q = k then y else h.2.1 p q), h.2.2.1, h.2.2.2)
  rw [e]
theorem Iv.putK1 {P : PP} {h : HP} {c j : Nat} {x : Int32} (hi : Iv P h) (hc : c = 2 ∨ c = 18) (ex : TI x 1) (hn : 0 ≤ (h.2.1 (c + 7) j).toInt) : Iv (P.1, P.2.1, (hI h (c + 2) j x).2.1, P.2.2.2) (hI h (c + 2) j x) := by
  obtain ⟨q1, q2, q3, q4, q5, q6, q7, q8, q9, q10, q12⟩ := hi
  have hrg : rg (c + 2) j = (0, 5) := by rcases hc with rfl | rfl <;> rfl
  refine ⟨q1, fun c' j' => ?_, q3, q4, ?_, fun c' hc' j' => ?_, ?_, ?_, fun c' hc' j' => rfl, q10, fun c' j' hc' => ?_⟩
  · show (rg c' j').1 ≤ (if c' = c + 2 ∧ j' = j then x else h.2.1 c' j').toInt ∧ (if c' = c + 2 ∧ j' = j then x else h.2.1 c' j').toInt ≤ (rg c' j').2
    by_cases e : c' = c + 2 ∧ j' = j
    · rw [if_pos e, e.1, e.2, show x.toInt = 1 from ex, hrg]; exact ⟨by decide, by decide⟩
    · rw [if_neg e]; exact q2 c' j'
  · show 1 ≤ (if 34 = c + 2 ∧ 1 = j then x else h.2.1 34 1).toInt → _
    rw [if_neg (by omega)]; exact q5
  · show (if c' + 2 = c + 2 ∧ j' = j then x else h.2.1 (c' + 2) j').toInt = 1 → 0 ≤ (if c' + 7 = c + 2 ∧ j' = j then x else h.2.1 (c' + 7) j').toInt
    rw [if_neg (show ¬ (c' + 7 = c + 2 ∧ j' = j) by omega)]
    by_cases e : c' + 2 = c + 2 ∧ j' = j
    · intro _
      have e1 : c' = c := by omega
      rw [e1, e.2]
      exact hn
    · rw [if_neg e]; exact q6 c' hc' j'
  · show (if 0 = c + 2 ∧ 1 = j then x else h.2.1 0 1) = _
    rw [if_neg (by omega)]; exact q7
  · show (if 70 = c + 2 ∧ 2 = j then x else h.2.1 70 2) = _
    rw [if_neg (by omega)]; exact q8
  · show (if c' = c + 2 ∧ j' = j then x else h.2.1 c' j') = _
    rw [if_neg (by unfold fzn at hc'; omega)]
    exact q12 c' j' hc'
/-- a statement becomes a CALL: its kind, then its callee -/
theorem Iv.putKE {P : PP} {h : HP} {c j : Nat} {x y : Int32} {b : Int} (hi : Iv P h) (hc : c = 2 ∨ c = 18) (ex : TI x 1) (ey : TI y b) (g1 : 0 ≤ b) (g2 : b ≤ 4) : Iv (P.1, P.2.1, (hI (hI h (c + 2) j x) (c + 7) j y).2.1, P.2.2.2) (hI (hI h (c + 2) j x) (c + 7) j y) := by
  rw [hI_comm (by omega)]
  have h1 := hi.putE (j := j) hc ey (by omega) g2 (Or.inl g1)
  refine h1.putK1 hc ex ?_
  show 0 ≤ (if c + 7 = c + 7 ∧ j = j then y else h.2.1 (c + 7) j).toInt
  rw [if_pos ⟨rfl, rfl⟩, show y.toInt = b from ey]
  exact g1
theorem dX3_readAssignment_0 : decode cX3_readAssignment 0 = .ok (.aload_n 0, 1) := by decide +kernel
theorem dX3_readAssignment_1 : decode cX3_readAssignment 1 = .ok (.getfield 46, 3) := by decide +kernel
theorem dX3_readAssignment_4 : decode cX3_readAssignment 4 = .ok (.getfield 187, 3) := by decide +kernel
theorem dX3_readAssignment_7 : decode cX3_readAssignment 7 = .ok (.iload_n 1, 1) := by decide +kernel
theorem dX3_readAssignment_8 : decode cX3_readAssignment 8 = .ok (.iload_n 2, 1) := by decide +kernel
theorem dX3_readAssignment_9 : decode cX3_readAssignment 9 = .ok (.iastore, 1) := by decide +kernel
theorem dX3_readAssignment_10 : decode cX3_readAssignment 10 = .ok (.aload_n 0, 1) := by decide +kernel
theorem dX3_readAssignment_11 : decode cX3_readAssignment 11 = .ok (.bipush 61, 2) := by decide +kernel
theorem dX3_readAssignment_13 : decode cX3_readAssignment 13 = .ok (.invokevirtual 181, 3) := by decide +kernel
theorem dX3_readAssignment_16 : decode cX3_readAssignment 16 = .ok (.aload_n 0, 1) := by decide +kernel
theorem dX3_readAssignment_17 : decode cX3_readAssignment 17 = .ok (.invokevirtual 66, 3) := by decide +kernel
theorem dX3_readAssignment_20 : decode cX3_readAssignment 20 = .ok (.istore_n 3, 1) := by decide +kernel
theorem dX3_readAssignment_21 : decode cX3_readAssignment 21 = .ok (.iload_n 3, 1) := by decide +kernel
theorem dX3_readAssignment_22 : decode cX3_readAssignment 22 = .ok (.bipush 65, 2) := by decide +kernel
theorem dX3_readAssignment_24 : decode cX3_readAssignment 24 = .ok (.if_icmp .lt 25, 3) := by decide +kernel
theorem dX3_readAssignment_27 : decode cX3_readAssignment 27 = .ok (.iload_n 3, 1) := by decide +kernel
theorem dX3_readAssignment_28 : decode cX3_readAssignment 28 = .ok (.bipush 70, 2) := by decide +kernel
theorem dX3_readAssignment_30 : decode cX3_readAssignment 30 = .ok (.if_icmp .ge 19, 3) := by decide +kernel
theorem dX3_readAssignment_33 : decode cX3_readAssignment 33 = .ok (.iload_n 2, 1) := by decide +kernel
theorem dX3_readAssignment_34 : decode cX3_readAssignment 34 = .ok (.invokestatic 141, 3) := by decide +kernel
theorem dX3_readAssignment_37 : decode cX3_readAssignment 37 = .ok (.ifCond .ne 12, 3) := by decide +kernel
theorem dX3_readAssignment_40 : decode cX3_readAssignment 40 = .ok (.aload_n 0, 1) := by decide +kernel
theorem dX3_readAssignment_41 : decode cX3_readAssignment 41 = .ok (.iload_n 1, 1) := by decide +kernel
theorem dX3_readAssignment_42 : decode cX3_readAssignment 42 = .ok (.iload_n 3, 1) := by decide +kernel
theorem dX3_readAssignment_43 : decode cX3_readAssignment 43 = .ok (.invokevirtual 190, 3) := by decide +kernel
theorem dX3_readAssignment_46 : decode cX3_readAssignment 46 = .ok (.goto 8, 3) := by decide +kernel
theorem dX3_readAssignment_49 : decode cX3_readAssignment 49 = .ok (.aload_n 0, 1) := by decide +kernel
theorem dX3_readAssignment_50 : decode cX3_readAssignment 50 = .ok (.iload_n 1, 1) := by decide +kernel
theorem dX3_readAssignment_51 : decode cX3_readAssignment 51 = .ok (.invokevirtual 193, 3) := by decide +kernel
theorem dX3_readAssignment_54 : decode cX3_readAssignment 54 = .ok (.aload_n 0, 1) := by decide +kernel
theorem dX3_readAssignment_55 : decode cX3_readAssignment 55 = .ok (.bipush 59, 2) := by decide +kernel
theorem dX3_readAssignment_57 : decode cX3_readAssignment 57 = .ok (.invokevirtual 181, 3) := by decide +kernel
theorem dX3_readAssignment_60 : decode cX3_readAssignment 60 = .ok (.return_, 1) := by decide +kernel
theorem dX3_readCall_0 : decode cX3_readCall 0 = .ok (.aload_n 0, 1) := by decide +kernel
theorem dX3_readCall_1 : decode cX3_readCall 1 = .ok (.dup, 1) := by decide +kernel
theorem dX3_readCall_2 : decode cX3_readCall 2 = .ok (.getfield 19, 3) := by decide +kernel
theorem dX3_readCall_5 : decode cX3_readCall 5 = .ok (.iconst 1, 1) := by decide +kernel
theorem dX3_readCall_6 : decode cX3_readCall 6 = .ok (.iadd, 1) := by decide +kernel
theorem dX3_readCall_7 : decode cX3_readCall 7 = .ok (.putfield 19, 3) := by decide +kernel
theorem dX3_readCall_10 : decode cX3_readCall 10 = .ok (.aload_n 0, 1) := by decide +kernel
theorem dX3_readCall_11 : decode cX3_readCall 11 = .ok (.getfield 46, 3) := by decide +kernel
theorem dX3_readCall_14 : decode cX3_readCall 14 = .ok (.getfield 148, 3) := by decide +kernel
theorem dX3_readCall_17 : decode cX3_readCall 17 = .ok (.iload_n 1, 1) := by decide +kernel
theorem dX3_readCall_18 : decode cX3_readCall 18 = .ok (.iconst 1, 1) := by decide +kernel
theorem dX3_readCall_19 : decode cX3_readCall 19 = .ok (.iastore, 1) := by decide +kernel
theorem dX3_readCall_20 : decode cX3_readCall 20 = .ok (.aload_n 0, 1) := by decide +kernel
theorem dX3_readCall_21 : decode cX3_readCall 21 = .ok (.getfield 46, 3) := by decide +kernel
theorem dX3_readCall_24 : decode cX3_readCall 24 = .ok (.getfield 196, 3) := by decide +kernel
theorem dX3_readCall_27 : decode cX3_readCall 27 = .ok (.iload_n 1, 1) := by decide +kernel
theorem dX3_readCall_28 : decode cX3_readCall 28 = .ok (.iload_n 2, 1) := by decide +kernel
theorem dX3_readCall_29 : decode cX3_readCall 29 = .ok (.bipush 65, 2) := by decide +kernel
theorem dX3_readCall_31 : decode cX3_readCall 31 = .ok (.isub, 1) := by decide +kernel
theorem dX3_readCall_32 : decode cX3_readCall 32 = .ok (.iastore, 1) := by decide +kernel
theorem dX3_readCall_33 : decode cX3_readCall 33 = .ok (.aload_n 0, 1) := by decide +kernel
theorem dX3_readCall_34 : decode cX3_readCall 34 = .ok (.getfield 46, 3) := by decide +kernel
theorem dX3_readCall_37 : decode cX3_readCall 37 = .ok (.dup, 1) := by decide +kernel
theorem dX3_readCall_38 : decode cX3_readCall 38 = .ok (.getfield 199, 3) := by decide +kernel
theorem dX3_readCall_41 : decode cX3_readCall 41 = .ok (.iload_n 1, 1) := by decide +kernel
theorem dX3_readCall_42 : decode cX3_readCall 42 = .ok (.invokestatic 203, 3) := by decide +kernel
theorem dX3_readCall_45 : decode cX3_readCall 45 = .ok (.lor, 1) := by decide +kernel
theorem dX3_readCall_46 : decode cX3_readCall 46 = .ok (.putfield 199, 3) := by decide +kernel
theorem dX3_readCall_49 : decode cX3_readCall 49 = .ok (.aload_n 0, 1) := by decide +kernel
theorem dX3_readCall_50 : decode cX3_readCall 50 = .ok (.bipush 40, 2) := by decide +kernel
theorem dX3_readCall_52 : decode cX3_readCall 52 = .ok (.invokevirtual 181, 3) := by decide +kernel
theorem dX3_readCall_55 : decode cX3_readCall 55 = .ok (.aload_n 0, 1) := by decide +kernel
theorem dX3_readCall_56 : decode cX3_readCall 56 = .ok (.getfield 46, 3) := by decide +kernel
theorem dX3_readCall_59 : decode cX3_readCall 59 = .ok (.getfield 175, 3) := by decide +kernel
theorem dX3_readCall_62 : decode cX3_readCall 62 = .ok (.iload_n 1, 1) := by decide +kernel
theorem dX3_readCall_63 : decode cX3_readCall 63 = .ok (.aload_n 0, 1) := by decide +kernel
theorem dX3_readCall_64 : decode cX3_readCall 64 = .ok (.invokevirtual 178, 3) := by decide +kernel
theorem dX3_readCall_67 : decode cX3_readCall 67 = .ok (.iastore, 1) := by decide +kernel
theorem dX3_readCall_68 : decode cX3_readCall 68 = .ok (.aload_n 0, 1) := by decide +kernel
theorem dX3_readCall_69 : decode cX3_readCall 69 = .ok (.bipush 44, 2) := by decide +kernel
theorem dX3_readCall_71 : decode cX3_readCall 71 = .ok (.invokevirtual 181, 3) := by decide +kernel
theorem dX3_readCall_74 : decode cX3_readCall 74 = .ok (.aload_n 0, 1) := by decide +kernel
theorem dX3_readCall_75 : decode cX3_readCall 75 = .ok (.getfield 46, 3) := by decide +kernel
theorem dX3_readCall_78 : decode cX3_readCall 78 = .ok (.getfield 184, 3) := by decide +kernel
theorem dX3_readCall_81 : decode cX3_readCall 81 = .ok (.iload_n 1, 1) := by decide +kernel
theorem dX3_readCall_82 : decode cX3_readCall 82 = .ok (.aload_n 0, 1) := by decide +kernel
theorem dX3_readCall_83 : decode cX3_readCall 83 = .ok (.invokevirtual 178, 3) := by decide +kernel
theorem dX3_readCall_86 : decode cX3_readCall 86 = .ok (.iastore, 1) := by decide +kernel
theorem dX3_readCall_87 : decode cX3_readCall 87 = .ok (.aload_n 0, 1) := by decide +kernel
theorem dX3_readCall_88 : decode cX3_readCall 88 = .ok (.bipush 41, 2) := by decide +kernel
theorem dX3_readCall_90 : decode cX3_readCall 90 = .ok (.invokevirtual 181, 3) := by decide +kernel
theorem dX3_readCall_93 : decode cX3_readCall 93 = .ok (.return_, 1) := by decide +kernel
theorem dX3_readSecond_0 : decode cX3_readSecond 0 = .ok (.aload_n 0, 1) := by decide +kernel
theorem dX3_readSecond_1 : decode cX3_readSecond 1 = .ok (.invokevirtual 66, 3) := by decide +kernel
theorem dX3_readSecond_4 : decode cX3_readSecond 4 = .ok (.istore_n 2, 1) := by decide +kernel
theorem dX3_readSecond_5 : decode cX3_readSecond 5 = .ok (.aload_n 0, 1) := by decide +kernel
theorem dX3_readSecond_6 : decode cX3_readSecond 6 = .ok (.getfield 28, 3) := by decide +kernel
theorem dX3_readSecond_9 : decode cX3_readSecond 9 = .ok (.getfield 134, 3) := by decide +kernel
theorem dX3_readSecond_12 : decode cX3_readSecond 12 = .ok (.iload_n 1, 1) := by decide +kernel
theorem dX3_readSecond_13 : decode cX3_readSecond 13 = .ok (.iaload, 1) := by decide +kernel
theorem dX3_readSecond_14 : decode cX3_readSecond 14 = .ok (.istore_n 3, 1) := by decide +kernel
theorem dX3_readSecond_15 : decode cX3_readSecond 15 = .ok (.iload_n 3, 1) := by decide +kernel
theorem dX3_readSecond_16 : decode cX3_readSecond 16 = .ok (.iconst (-1), 1) := by decide +kernel
theorem dX3_readSecond_17 : decode cX3_readSecond 17 = .ok (.if_icmp .ne 65, 3) := by decide +kernel
theorem dX3_readSecond_20 : decode cX3_readSecond 20 = .ok (.iload_n 2, 1) := by decide +kernel
theorem dX3_readSecond_21 : decode cX3_readSecond 21 = .ok (.invokestatic 137, 3) := by decide +kernel
theorem dX3_readSecond_24 : decode cX3_readSecond 24 = .ok (.istore 4, 2) := by decide +kernel
theorem dX3_readSecond_26 : decode cX3_readSecond 26 = .ok (.iload 4, 2) := by decide +kernel
theorem dX3_readSecond_28 : decode cX3_readSecond 28 = .ok (.iconst (-1), 1) := by decide +kernel
theorem dX3_readSecond_29 : decode cX3_readSecond 29 = .ok (.if_icmp .eq 11, 3) := by decide +kernel
theorem dX3_readSecond_32 : decode cX3_readSecond 32 = .ok (.iload 4, 2) := by decide +kernel
theorem dX3_readSecond_34 : decode cX3_readSecond 34 = .ok (.invokestatic 141, 3) := by decide +kernel
theorem dX3_readSecond_37 : decode cX3_readSecond 37 = .ok (.ifCond .eq 15, 3) := by decide +kernel
theorem dX3_readSecond_40 : decode cX3_readSecond 40 = .ok (.aload_n 0, 1) := by decide +kernel
theorem dX3_readSecond_41 : decode cX3_readSecond 41 = .ok (.iconst 1, 1) := by decide +kernel
theorem dX3_readSecond_42 : decode cX3_readSecond 42 = .ok (.aload_n 0, 1) := by decide +kernel
theorem dX3_readSecond_43 : decode cX3_readSecond 43 = .ok (.getfield 19, 3) := by decide +kernel
theorem dX3_readSecond_46 : decode cX3_readSecond 46 = .ok (.invokevirtual 101, 3) := by decide +kernel
theorem dX3_readSecond_49 : decode cX3_readSecond 49 = .ok (.goto 30, 3) := by decide +kernel
theorem dX3_readSecond_52 : decode cX3_readSecond 52 = .ok (.aload_n 0, 1) := by decide +kernel
theorem dX3_readSecond_53 : decode cX3_readSecond 53 = .ok (.dup, 1) := by decide +kernel
theorem dX3_readSecond_54 : decode cX3_readSecond 54 = .ok (.getfield 19, 3) := by decide +kernel
theorem dX3_readSecond_57 : decode cX3_readSecond 57 = .ok (.iconst 1, 1) := by decide +kernel
theorem dX3_readSecond_58 : decode cX3_readSecond 58 = .ok (.iadd, 1) := by decide +kernel
theorem dX3_readSecond_59 : decode cX3_readSecond 59 = .ok (.putfield 19, 3) := by decide +kernel
theorem dX3_readSecond_62 : decode cX3_readSecond 62 = .ok (.aload_n 0, 1) := by decide +kernel
theorem dX3_readSecond_63 : decode cX3_readSecond 63 = .ok (.getfield 28, 3) := by decide +kernel
theorem dX3_readSecond_66 : decode cX3_readSecond 66 = .ok (.getfield 145, 3) := by decide +kernel
theorem dX3_readSecond_69 : decode cX3_readSecond 69 = .ok (.iload_n 1, 1) := by decide +kernel
theorem dX3_readSecond_70 : decode cX3_readSecond 70 = .ok (.iload 4, 2) := by decide +kernel
theorem dX3_readSecond_72 : decode cX3_readSecond 72 = .ok (.iastore, 1) := by decide +kernel
theorem dX3_readSecond_73 : decode cX3_readSecond 73 = .ok (.aload_n 0, 1) := by decide +kernel
theorem dX3_readSecond_74 : decode cX3_readSecond 74 = .ok (.iload_n 1, 1) := by decide +kernel
theorem dX3_readSecond_75 : decode cX3_readSecond 75 = .ok (.iconst 1, 1) := by decide +kernel
theorem dX3_readSecond_76 : decode cX3_readSecond 76 = .ok (.invokevirtual 118, 3) := by decide +kernel
theorem dX3_readSecond_79 : decode cX3_readSecond 79 = .ok (.goto 38, 3) := by decide +kernel
theorem dX3_readSecond_82 : decode cX3_readSecond 82 = .ok (.aload_n 0, 1) := by decide +kernel
theorem dX3_readSecond_83 : decode cX3_readSecond 83 = .ok (.getfield 46, 3) := by decide +kernel
theorem dX3_readSecond_86 : decode cX3_readSecond 86 = .ok (.getfield 148, 3) := by decide +kernel
theorem dX3_readSecond_89 : decode cX3_readSecond 89 = .ok (.iload_n 3, 1) := by decide +kernel
theorem dX3_readSecond_90 : decode cX3_readSecond 90 = .ok (.iaload, 1) := by decide +kernel
theorem dX3_readSecond_91 : decode cX3_readSecond 91 = .ok (.iconst 2, 1) := by decide +kernel
theorem dX3_readSecond_92 : decode cX3_readSecond 92 = .ok (.if_icmp .ne 25, 3) := by decide +kernel
theorem dX3_readSecond_95 : decode cX3_readSecond 95 = .ok (.iload_n 2, 1) := by decide +kernel
theorem dX3_readSecond_96 : decode cX3_readSecond 96 = .ok (.bipush 58, 2) := by decide +kernel
theorem dX3_readSecond_98 : decode cX3_readSecond 98 = .ok (.if_icmp .ne 19, 3) := by decide +kernel
theorem dX3_readSecond_101 : decode cX3_readSecond 101 = .ok (.aload_n 0, 1) := by decide +kernel
theorem dX3_readSecond_102 : decode cX3_readSecond 102 = .ok (.dup, 1) := by decide +kernel
theorem dX3_readSecond_103 : decode cX3_readSecond 103 = .ok (.getfield 19, 3) := by decide +kernel
theorem dX3_readSecond_106 : decode cX3_readSecond 106 = .ok (.iconst 1, 1) := by decide +kernel
theorem dX3_readSecond_107 : decode cX3_readSecond 107 = .ok (.iadd, 1) := by decide +kernel
theorem dX3_readSecond_108 : decode cX3_readSecond 108 = .ok (.putfield 19, 3) := by decide +kernel
theorem dX3_readSecond_111 : decode cX3_readSecond 111 = .ok (.aload_n 0, 1) := by decide +kernel
theorem dX3_readSecond_112 : decode cX3_readSecond 112 = .ok (.iload_n 1, 1) := by decide +kernel
theorem dX3_readSecond_113 : decode cX3_readSecond 113 = .ok (.iconst 1, 1) := by decide +kernel
theorem dX3_readSecond_114 : decode cX3_readSecond 114 = .ok (.invokevirtual 118, 3) := by decide +kernel
theorem dX3_readSecond_117 : decode cX3_readSecond 117 = .ok (.return_, 1) := by decide +kernel
theorem dX3_readStatement_0 : decode cX3_readStatement 0 = .ok (.iload_n 1, 1) := by decide +kernel
theorem dX3_readStatement_1 : decode cX3_readStatement 1 = .ok (.invokestatic 160, 3) := by decide +kernel
theorem dX3_readStatement_4 : decode cX3_readStatement 4 = .ok (.istore_n 2, 1) := by decide +kernel
theorem dX3_readStatement_5 : decode cX3_readStatement 5 = .ok (.iload_n 2, 1) := by decide +kernel
theorem dX3_readStatement_6 : decode cX3_readStatement 6 = .ok (.iconst (-1), 1) := by decide +kernel
theorem dX3_readStatement_7 : decode cX3_readStatement 7 = .ok (.if_icmp .ne 13, 3) := by decide +kernel
theorem dX3_readStatement_10 : decode cX3_readStatement 10 = .ok (.aload_n 0, 1) := by decide +kernel
theorem dX3_readStatement_11 : decode cX3_readStatement 11 = .ok (.iconst 1, 1) := by decide +kernel
theorem dX3_readStatement_12 : decode cX3_readStatement 12 = .ok (.aload_n 0, 1) := by decide +kernel
theorem dX3_readStatement_13 : decode cX3_readStatement 13 = .ok (.getfield 19, 3) := by decide +kernel
theorem dX3_readStatement_16 : decode cX3_readStatement 16 = .ok (.invokevirtual 101, 3) := by decide +kernel
theorem dX3_readStatement_19 : decode cX3_readStatement 19 = .ok (.return_, 1) := by decide +kernel
theorem dX3_readStatement_20 : decode cX3_readStatement 20 = .ok (.aload_n 0, 1) := by decide +kernel
theorem dX3_readStatement_21 : decode cX3_readStatement 21 = .ok (.getfield 46, 3) := by decide +kernel
theorem dX3_readStatement_24 : decode cX3_readStatement 24 = .ok (.getfield 163, 3) := by decide +kernel
theorem dX3_readStatement_27 : decode cX3_readStatement 27 = .ok (.bipush 40, 2) := by decide +kernel
theorem dX3_readStatement_29 : decode cX3_readStatement 29 = .ok (.if_icmp .lt 13, 3) := by decide +kernel
theorem dX3_readStatement_32 : decode cX3_readStatement 32 = .ok (.aload_n 0, 1) := by decide +kernel
theorem dX3_readStatement_33 : decode cX3_readStatement 33 = .ok (.iconst 4, 1) := by decide +kernel
theorem dX3_readStatement_34 : decode cX3_readStatement 34 = .ok (.aload_n 0, 1) := by decide +kernel
theorem dX3_readStatement_35 : decode cX3_readStatement 35 = .ok (.getfield 19, 3) := by decide +kernel
theorem dX3_readStatement_38 : decode cX3_readStatement 38 = .ok (.invokevirtual 101, 3) := by decide +kernel
theorem dX3_readStatement_41 : decode cX3_readStatement 41 = .ok (.return_, 1) := by decide +kernel
theorem dX3_readStatement_42 : decode cX3_readStatement 42 = .ok (.aload_n 0, 1) := by decide +kernel
theorem dX3_readStatement_43 : decode cX3_readStatement 43 = .ok (.getfield 46, 3) := by decide +kernel
theorem dX3_readStatement_46 : decode cX3_readStatement 46 = .ok (.iload_n 2, 1) := by decide +kernel
theorem dX3_readStatement_47 : decode cX3_readStatement 47 = .ok (.aload_n 0, 1) := by decide +kernel
theorem dX3_readStatement_48 : decode cX3_readStatement 48 = .ok (.getfield 46, 3) := by decide +kernel
theorem dX3_readStatement_51 : decode cX3_readStatement 51 = .ok (.getfield 115, 3) := by decide +kernel
theorem dX3_readStatement_54 : decode cX3_readStatement 54 = .ok (.iconst 1, 1) := by decide +kernel
theorem dX3_readStatement_55 : decode cX3_readStatement 55 = .ok (.isub, 1) := by decide +kernel
theorem dX3_readStatement_56 : decode cX3_readStatement 56 = .ok (.aload_n 0, 1) := by decide +kernel
theorem dX3_readStatement_57 : decode cX3_readStatement 57 = .ok (.getfield 32, 3) := by decide +kernel
theorem dX3_readStatement_60 : decode cX3_readStatement 60 = .ok (.iconst 1, 1) := by decide +kernel
theorem dX3_readStatement_61 : decode cX3_readStatement 61 = .ok (.isub, 1) := by decide +kernel
theorem dX3_readStatement_62 : decode cX3_readStatement 62 = .ok (.aload_n 0, 1) := by decide +kernel
theorem dX3_readStatement_63 : decode cX3_readStatement 63 = .ok (.getfield 19, 3) := by decide +kernel
theorem dX3_readStatement_66 : decode cX3_readStatement 66 = .ok (.invokevirtual 166, 3) := by decide +kernel
theorem dX3_readStatement_69 : decode cX3_readStatement 69 = .ok (.istore_n 3, 1) := by decide +kernel
theorem dX3_readStatement_70 : decode cX3_readStatement 70 = .ok (.aload_n 0, 1) := by decide +kernel
theorem dX3_readStatement_71 : decode cX3_readStatement 71 = .ok (.iload_n 3, 1) := by decide +kernel
theorem dX3_readStatement_72 : decode cX3_readStatement 72 = .ok (.invokevirtual 157, 3) := by decide +kernel
theorem dX3_readStatement_75 : decode cX3_readStatement 75 = .ok (.istore 4, 2) := by decide +kernel
theorem dX3_readStatement_77 : decode cX3_readStatement 77 = .ok (.aload_n 0, 1) := by decide +kernel
theorem dX3_readStatement_78 : decode cX3_readStatement 78 = .ok (.dup, 1) := by decide +kernel
theorem dX3_readStatement_79 : decode cX3_readStatement 79 = .ok (.getfield 19, 3) := by decide +kernel
theorem dX3_readStatement_82 : decode cX3_readStatement 82 = .ok (.iconst 1, 1) := by decide +kernel
theorem dX3_readStatement_83 : decode cX3_readStatement 83 = .ok (.iadd, 1) := by decide +kernel
theorem dX3_readStatement_84 : decode cX3_readStatement 84 = .ok (.putfield 19, 3) := by decide +kernel
theorem dX3_readStatement_87 : decode cX3_readStatement 87 = .ok (.iload_n 2, 1) := by decide +kernel
theorem dX3_readStatement_88 : decode cX3_readStatement 88 = .ok (.ifCond .ne 15, 3) := by decide +kernel
theorem dX3_readStatement_91 : decode cX3_readStatement 91 = .ok (.aload_n 0, 1) := by decide +kernel
theorem dX3_readStatement_92 : decode cX3_readStatement 92 = .ok (.iload_n 3, 1) := by decide +kernel
theorem dX3_readStatement_93 : decode cX3_readStatement 93 = .ok (.iload_n 1, 1) := by decide +kernel
theorem dX3_readStatement_94 : decode cX3_readStatement 94 = .ok (.invokestatic 137, 3) := by decide +kernel
theorem dX3_readStatement_97 : decode cX3_readStatement 97 = .ok (.invokevirtual 169, 3) := by decide +kernel
theorem dX3_readStatement_100 : decode cX3_readStatement 100 = .ok (.goto 42, 3) := by decide +kernel
theorem dX3_readStatement_103 : decode cX3_readStatement 103 = .ok (.iload_n 2, 1) := by decide +kernel
theorem dX3_readStatement_104 : decode cX3_readStatement 104 = .ok (.iconst 2, 1) := by decide +kernel
theorem dX3_readStatement_105 : decode cX3_readStatement 105 = .ok (.if_icmp .eq 8, 3) := by decide +kernel
theorem dX3_readStatement_108 : decode cX3_readStatement 108 = .ok (.iload_n 2, 1) := by decide +kernel
theorem dX3_readStatement_109 : decode cX3_readStatement 109 = .ok (.iconst 3, 1) := by decide +kernel
theorem dX3_readStatement_110 : decode cX3_readStatement 110 = .ok (.if_icmp .ne 13, 3) := by decide +kernel
theorem dX3_readStatement_113 : decode cX3_readStatement 113 = .ok (.aload_n 0, 1) := by decide +kernel
theorem dX3_readStatement_114 : decode cX3_readStatement 114 = .ok (.iload_n 3, 1) := by decide +kernel
theorem dX3_readStatement_115 : decode cX3_readStatement 115 = .ok (.iload 4, 2) := by decide +kernel
theorem dX3_readStatement_117 : decode cX3_readStatement 117 = .ok (.invokevirtual 172, 3) := by decide +kernel
theorem dX3_readStatement_120 : decode cX3_readStatement 120 = .ok (.goto 22, 3) := by decide +kernel
theorem dX3_readStatement_123 : decode cX3_readStatement 123 = .ok (.aload_n 0, 1) := by decide +kernel
theorem dX3_readStatement_124 : decode cX3_readStatement 124 = .ok (.getfield 46, 3) := by decide +kernel
theorem dX3_readStatement_127 : decode cX3_readStatement 127 = .ok (.getfield 175, 3) := by decide +kernel
theorem dX3_readStatement_130 : decode cX3_readStatement 130 = .ok (.iload_n 3, 1) := by decide +kernel
theorem dX3_readStatement_131 : decode cX3_readStatement 131 = .ok (.aload_n 0, 1) := by decide +kernel
theorem dX3_readStatement_132 : decode cX3_readStatement 132 = .ok (.invokevirtual 178, 3) := by decide +kernel
theorem dX3_readStatement_135 : decode cX3_readStatement 135 = .ok (.iastore, 1) := by decide +kernel
theorem dX3_readStatement_136 : decode cX3_readStatement 136 = .ok (.aload_n 0, 1) := by decide +kernel
theorem dX3_readStatement_137 : decode cX3_readStatement 137 = .ok (.bipush 59, 2) := by decide +kernel
theorem dX3_readStatement_139 : decode cX3_readStatement 139 = .ok (.invokevirtual 181, 3) := by decide +kernel
theorem dX3_readStatement_142 : decode cX3_readStatement 142 = .ok (.return_, 1) := by decide +kernel
