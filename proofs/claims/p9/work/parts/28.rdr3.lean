theorem hI_comm {h : HP} {a b j k : Nat} {x y : Int32} (n : a ≠ b) : hI (hI h a j x) b k y = hI (hI h b k y) a j x := by
  have e : (fun p q => if p = b ∧ q = k then y else if p = a ∧ q = j then x else h.2.1 p q) = (fun p q => if p = a ∧ q = j then x else if p = b ∧ q = k then y else h.2.1 p q) := by
    funext p q
    by_cases hb : p = b ∧ q = k
    · rw [if_pos hb, if_neg (by omega), if_pos hb]
    · rw [if_neg hb]
      by_cases ha : p = a ∧ q = j
      · rw [if_pos ha, if_pos ha]
      · rw [if_neg ha, if_neg ha, if_neg hb]
  show (h.1, (fun p q => if p = b ∧ q = k then y else if p = a ∧ q = j then x else h.2.1 p q), h.2.2.1, h.2.2.2) = (h.1, (fun p q => if p = a ∧ q = j then x else if p = b ∧ q = k then y else h.2.1 p q), h.2.2.1, h.2.2.2)
  rw [e]
theorem Iv.putK1 {P : PP} {h : HP} {c j : Nat} {x : Int32} (hi : Iv P h) (hc : c = 2 ∨ c = 18) (ex : TI x 1) (hn : 0 ≤ (h.2.1 (c + 7) j).toInt) : Iv (P.1, P.2.1, (hI h (c + 2) j x).2.1, P.2.2.2) (hI h (c + 2) j x) := by
  obtain ⟨q1, q2, q3, q4, q5, q6, q7, q8, q9, q10, q12⟩ := hi
  have hrg : rg (c + 2) j = (0, 5) := by rcases hc with rfl | rfl <;> rfl
  refine ⟨q1, fun c' j' => ?_, q3, q4, ?_, fun c' hc' j' => ?_, ?_, ?_, fun c' hc' j' => rfl, q10, fun c' j' hc' => ?_⟩
  · show (rg c' j').1 ≤ (if c' = c + 2 ∧ j' = j then x else h.2.1 c' j').toInt ∧ (if c' = c + 2 ∧ j' = j then x else h.2.1 c' j').toInt ≤ (rg c' j').2
    by_cases e : c' = c + 2 ∧ j' = j
    · rw [if_pos e, e.1, e.2, show x.toInt = 1 from ex, hrg]; exact ⟨by decide, by decide⟩
    · rw [if_neg e]; exact q2 c' j'
  · show 1 ≤ (if 34 = c + 2 ∧ 1 = j then x else h.2.1 34 1).toInt → _
    rw [if_neg (by omega)]; exact q5
  · show (if c' + 2 = c + 2 ∧ j' = j then x else h.2.1 (c' + 2) j').toInt = 1 → 0 ≤ (if c' + 7 = c + 2 ∧ j' = j then x else h.2.1 (c' + 7) j').toInt
    rw [if_neg (show ¬ (c' + 7 = c + 2 ∧ j' = j) by omega)]
    by_cases e : c' + 2 = c + 2 ∧ j' = j
    · intro _
      have e1 : c' = c := by omega
      rw [e1, e.2]
      exact hn
    · rw [if_neg e]; exact q6 c' hc' j'
  · show (if 0 = c + 2 ∧ 1 = j then x else h.2.1 0 1) = _
    rw [if_neg (by omega)]; exact q7
  · show (if 70 = c + 2 ∧ 2 = j then x else h.2.1 70 2) = _
    rw [if_neg (by omega)]; exact q8
  · show (if c' = c + 2 ∧ j' = j then x else h.2.1 c' j') = _
    rw [if_neg (by unfold fzn at hc'; omega)]
    exact q12 c' j' hc'
/-- a statement becomes a CALL: its kind, then its callee -/
theorem Iv.putKE {P : PP} {h : HP} {c j : Nat} {x y : Int32} {b : Int} (hi : Iv P h) (hc : c = 2 ∨ c = 18) (ex : TI x 1) (ey : TI y b) (g1 : 0 ≤ b) (g2 : b ≤ 4) : Iv (P.1, P.2.1, (hI (hI h (c + 2) j x) (c + 7) j y).2.1, P.2.2.2) (hI (hI h (c + 2) j x) (c + 7) j y) := by
  rw [hI_comm (by omega)]
  have h1 := hi.putE (j := j) hc ey (by omega) g2 (Or.inl g1)
  refine h1.putK1 hc ex ?_
  show 0 ≤ (if c + 7 = c + 7 ∧ j = j then y else h.2.1 (c + 7) j).toInt
  rw [if_pos ⟨rfl, rfl⟩, show y.toInt = b from ey]
  exact g1
theorem dX3_readAssignment_0 : decode cX3_readAssignment 0 = .ok (.aload_n 0, 1) := by decide +kernel
theorem dX3_readAssignment_1 : decode cX3_readAssignment 1 = .ok (.getfield 46, 3) := by decide +kernel
theorem dX3_readAssignment_4 : decode cX3_readAssignment 4 = .ok (.getfield 187, 3) := by decide +kernel
theorem dX3_readAssignment_7 : decode cX3_readAssignment 7 = .ok (.iload_n 1, 1) := by decide +kernel
theorem dX3_readAssignment_8 : decode cX3_readAssignment 8 = .ok (.iload_n 2, 1) := by decide +kernel
theorem dX3_readAssignment_9 : decode cX3_readAssignment 9 = .ok (.iastore, 1) := by decide +kernel
theorem dX3_readAssignment_10 : decode cX3_readAssignment 10 = .ok (.aload_n 0, 1) := by decide +kernel
theorem dX3_readAssignment_11 : decode cX3_readAssignment 11 = .ok (.bipush 61, 2) := by decide +kernel
theorem dX3_readAssignment_13 : decode cX3_readAssignment 13 = .ok (.invokevirtual 181, 3) := by decide +kernel
theorem dX3_readAssignment_16 : decode cX3_readAssignment 16 = .ok (.aload_n 0, 1) := by decide +kernel
theorem dX3_readAssignment_17 : decode cX3_readAssignment 17 = .ok (.invokevirtual 66, 3) := by decide +kernel
theorem dX3_readAssignment_20 : decode cX3_readAssignment 20 = .ok (.istore_n 3, 1) := by decide +kernel
theorem dX3_readAssignment_21 : decode cX3_readAssignment 21 = .ok (.iload_n 3, 1) := by decide +kernel
theorem dX3_readAssignment_22 : decode cX3_readAssignment 22 = .ok (.bipush 65, 2) := by decide +kernel
theorem dX3_readAssignment_24 : decode cX3_readAssignment 24 = .ok (.if_icmp .lt 25, 3) := by decide +kernel
theorem dX3_readAssignment_27 : decode cX3_readAssignment 27 = .ok (.iload_n 3, 1) := by decide +kernel
theorem dX3_readAssignment_28 : decode cX3_readAssignment 28 = .ok (.bipush 70, 2) := by decide +kernel
theorem dX3_readAssignment_30 : decode cX3_readAssignment 30 = .ok (.if_icmp .ge 19, 3) := by decide +kernel
theorem dX3_readAssignment_33 : decode cX3_readAssignment 33 = .ok (.iload_n 2, 1) := by decide +kernel
theorem dX3_readAssignment_34 : decode cX3_readAssignment 34 = .ok (.invokestatic 141, 3) := by decide +kernel
theorem dX3_readAssignment_37 : decode cX3_readAssignment 37 = .ok (.ifCond .ne 12, 3) := by decide +kernel
theorem dX3_readAssignment_40 : decode cX3_readAssignment 40 = .ok (.aload_n 0, 1) := by decide +kernel
theorem dX3_readAssignment_41 : decode cX3_readAssignment 41 = .ok (.iload_n 1, 1) := by decide +kernel
theorem dX3_readAssignment_42 : decode cX3_readAssignment 42 = .ok (.iload_n 3, 1) := by decide +kernel
theorem dX3_readAssignment_43 : decode cX3_readAssignment 43 = .ok (.invokevirtual 190, 3) := by decide +kernel
theorem dX3_readAssignment_46 : decode cX3_readAssignment 46 = .ok (.goto 8, 3) := by decide +kernel
theorem dX3_readAssignment_49 : decode cX3_readAssignment 49 = .ok (.aload_n 0, 1) := by decide +kernel
theorem dX3_readAssignment_50 : decode cX3_readAssignment 50 = .ok (.iload_n 1, 1) := by decide +kernel
theorem dX3_readAssignment_51 : decode cX3_readAssignment 51 = .ok (.invokevirtual 193, 3) := by decide +kernel
theorem dX3_readAssignment_54 : decode cX3_readAssignment 54 = .ok (.aload_n 0, 1) := by decide +kernel
theorem dX3_readAssignment_55 : decode cX3_readAssignment 55 = .ok (.bipush 59, 2) := by decide +kernel
theorem dX3_readAssignment_57 : decode cX3_readAssignment 57 = .ok (.invokevirtual 181, 3) := by decide +kernel
theorem dX3_readAssignment_60 : decode cX3_readAssignment 60 = .ok (.return_, 1) := by decide +kernel
theorem dX3_readCall_0 : decode cX3_readCall 0 = .ok (.aload_n 0, 1) := by decide +kernel
theorem dX3_readCall_1 : decode cX3_readCall 1 = .ok (.dup, 1) := by decide +kernel
theorem dX3_readCall_2 : decode cX3_readCall 2 = .ok (.getfield 19, 3) := by decide +kernel
theorem dX3_readCall_5 : decode cX3_readCall 5 = .ok (.iconst 1, 1) := by decide +kernel
theorem dX3_readCall_6 : decode cX3_readCall 6 = .ok (.iadd, 1) := by decide +kernel
theorem dX3_readCall_7 : decode cX3_readCall 7 = .ok (.putfield 19, 3) := by decide +kernel
theorem dX3_readCall_10 : decode cX3_readCall 10 = .ok (.aload_n 0, 1) := by decide +kernel
theorem dX3_readCall_11 : decode cX3_readCall 11 = .ok (.getfield 46, 3) := by decide +kernel
theorem dX3_readCall_14 : decode cX3_readCall 14 = .ok (.getfield 148, 3) := by decide +kernel
theorem dX3_readCall_17 : decode cX3_readCall 17 = .ok (.iload_n 1, 1) := by decide +kernel
theorem dX3_readCall_18 : decode cX3_readCall 18 = .ok (.iconst 1, 1) := by decide +kernel
theorem dX3_readCall_19 : decode cX3_readCall 19 = .ok (.iastore, 1) := by decide +kernel
theorem dX3_readCall_20 : decode cX3_readCall 20 = .ok (.aload_n 0, 1) := by decide +kernel
theorem dX3_readCall_21 : decode cX3_readCall 21 = .ok (.getfield 46, 3) := by decide +kernel
theorem dX3_readCall_24 : decode cX3_readCall 24 = .ok (.getfield 196, 3) := by decide +kernel
theorem dX3_readCall_27 : decode cX3_readCall 27 = .ok (.iload_n 1, 1) := by decide +kernel
theorem dX3_readCall_28 : decode cX3_readCall 28 = .ok (.iload_n 2, 1) := by decide +kernel
theorem dX3_readCall_29 : decode cX3_readCall 29 = .ok (.bipush 65, 2) := by decide +kernel
theorem dX3_readCall_31 : decode cX3_readCall 31 = .ok (.isub, 1) := by decide +kernel
theorem dX3_readCall_32 : decode cX3_readCall 32 = .ok (.iastore, 1) := by decide +kernel
theorem dX3_readCall_33 : decode cX3_readCall 33 = .ok (.aload_n 0, 1) := by decide +kernel
theorem dX3_readCall_34 : decode cX3_readCall 34 = .ok (.getfield 46, 3) := by decide +kernel
theorem dX3_readCall_37 : decode cX3_readCall 37 = .ok (.dup, 1) := by decide +kernel
theorem dX3_readCall_38 : decode cX3_readCall 38 = .ok (.getfield 199, 3) := by decide +kernel
theorem dX3_readCall_41 : decode cX3_readCall 41 = .ok (.iload_n 1, 1) := by decide +kernel
theorem dX3_readCall_42 : decode cX3_readCall 42 = .ok (.invokestatic 203, 3) := by decide +kernel
theorem dX3_readCall_45 : decode cX3_readCall 45 = .ok (.lor, 1) := by decide +kernel
theorem dX3_readCall_46 : decode cX3_readCall 46 = .ok (.putfield 199, 3) := by decide +kernel
theorem dX3_readCall_49 : decode cX3_readCall 49 = .ok (.aload_n 0, 1) := by decide +kernel
theorem dX3_readCall_50 : decode cX3_readCall 50 = .ok (.bipush 40, 2) := by decide +kernel
theorem dX3_readCall_52 : decode cX3_readCall 52 = .ok (.invokevirtual 181, 3) := by decide +kernel
theorem dX3_readCall_55 : decode cX3_readCall 55 = .ok (.aload_n 0, 1) := by decide +kernel
theorem dX3_readCall_56 : decode cX3_readCall 56 = .ok (.getfield 46, 3) := by decide +kernel
theorem dX3_readCall_59 : decode cX3_readCall 59 = .ok (.getfield 175, 3) := by decide +kernel
theorem dX3_readCall_62 : decode cX3_readCall 62 = .ok (.iload_n 1, 1) := by decide +kernel
theorem dX3_readCall_63 : decode cX3_readCall 63 = .ok (.aload_n 0, 1) := by decide +kernel
theorem dX3_readCall_64 : decode cX3_readCall 64 = .ok (.invokevirtual 178, 3) := by decide +kernel
theorem dX3_readCall_67 : decode cX3_readCall 67 = .ok (.iastore, 1) := by decide +kernel
theorem dX3_readCall_68 : decode cX3_readCall 68 = .ok (.aload_n 0, 1) := by decide +kernel
theorem dX3_readCall_69 : decode cX3_readCall 69 = .ok (.bipush 44, 2) := by decide +kernel
theorem dX3_readCall_71 : decode cX3_readCall 71 = .ok (.invokevirtual 181, 3) := by decide +kernel
theorem dX3_readCall_74 : decode cX3_readCall 74 = .ok (.aload_n 0, 1) := by decide +kernel
theorem dX3_readCall_75 : decode cX3_readCall 75 = .ok (.getfield 46, 3) := by decide +kernel
theorem dX3_readCall_78 : decode cX3_readCall 78 = .ok (.getfield 184, 3) := by decide +kernel
theorem dX3_readCall_81 : decode cX3_readCall 81 = .ok (.iload_n 1, 1) := by decide +kernel
theorem dX3_readCall_82 : decode cX3_readCall 82 = .ok (.aload_n 0, 1) := by decide +kernel
theorem dX3_readCall_83 : decode cX3_readCall 83 = .ok (.invokevirtual 178, 3) := by decide +kernel
theorem dX3_readCall_86 : decode cX3_readCall 86 = .ok (.iastore, 1) := by decide +kernel
theorem dX3_readCall_87 : decode cX3_readCall 87 = .ok (.aload_n 0, 1) := by decide +kernel
theorem dX3_readCall_88 : decode cX3_readCall 88 = .ok (.bipush 41, 2) := by decide +kernel
theorem dX3_readCall_90 : decode cX3_readCall 90 = .ok (.invokevirtual 181, 3) := by decide +kernel
theorem dX3_readCall_93 : decode cX3_readCall 93 = .ok (.return_, 1) := by decide +kernel
theorem dX3_readSecond_0 : decode cX3_readSecond 0 = .ok (.aload_n 0, 1) := by decide +kernel
theorem dX3_readSecond_1 : decode cX3_readSecond 1 = .ok (.invokevirtual 66, 3) := by decide +kernel
theorem dX3_readSecond_4 : decode cX3_readSecond 4 = .ok (.istore_n 2, 1) := by decide +kernel
theorem dX3_readSecond_5 : decode cX3_readSecond 5 = .ok (.aload_n 0, 1) := by decide +kernel
theorem dX3_readSecond_6 : decode cX3_readSecond 6 = .ok (.getfield 28, 3) := by decide +kernel
theorem dX3_readSecond_9 : decode cX3_readSecond 9 = .ok (.getfield 134, 3) := by decide +kernel
theorem dX3_readSecond_12 : decode cX3_readSecond 12 = .ok (.iload_n 1, 1) := by decide +kernel
theorem dX3_readSecond_13 : decode cX3_readSecond 13 = .ok (.iaload, 1) := by decide +kernel
theorem dX3_readSecond_14 : decode cX3_readSecond 14 = .ok (.istore_n 3, 1) := by decide +kernel
theorem dX3_readSecond_15 : decode cX3_readSecond 15 = .ok (.iload_n 3, 1) := by decide +kernel
theorem dX3_readSecond_16 : decode cX3_readSecond 16 = .ok (.iconst (-1), 1) := by decide +kernel
theorem dX3_readSecond_17 : decode cX3_readSecond 17 = .ok (.if_icmp .ne 65, 3) := by decide +kernel
theorem dX3_readSecond_20 : decode cX3_readSecond 20 = .ok (.iload_n 2, 1) := by decide +kernel
theorem dX3_readSecond_21 : decode cX3_readSecond 21 = .ok (.invokestatic 137, 3) := by decide +kernel
theorem dX3_readSecond_24 : decode cX3_readSecond 24 = .ok (.istore 4, 2) := by decide +kernel
theorem dX3_readSecond_26 : decode cX3_readSecond 26 = .ok (.iload 4, 2) := by decide +kernel
theorem dX3_readSecond_28 : decode cX3_readSecond 28 = .ok (.iconst (-1), 1) := by decide +kernel
theorem dX3_readSecond_29 : decode cX3_readSecond 29 = .ok (.if_icmp .eq 11, 3) := by decide +kernel
theorem dX3_readSecond_32 : decode cX3_readSecond 32 = .ok (.iload 4, 2) := by decide +kernel
theorem dX3_readSecond_34 : decode cX3_readSecond 34 = .ok (.invokestatic 141, 3) := by decide +kernel
theorem dX3_readSecond_37 : decode cX3_readSecond 37 = .ok (.ifCond .eq 15, 3) := by decide +kernel
theorem dX3_readSecond_40 : decode cX3_readSecond 40 = .ok (.aload_n 0, 1) := by decide +kernel
theorem dX3_readSecond_41 : decode cX3_readSecond 41 = .ok (.iconst 1, 1) := by decide +kernel
theorem dX3_readSecond_42 : decode cX3_readSecond 42 = .ok (.aload_n 0, 1) := by decide +kernel
theorem dX3_readSecond_43 : decode cX3_readSecond 43 = .ok (.getfield 19, 3) := by decide +kernel
theorem dX3_readSecond_46 : decode cX3_readSecond 46 = .ok (.invokevirtual 101, 3) := by decide +kernel
theorem dX3_readSecond_49 : decode cX3_readSecond 49 = .ok (.goto 30, 3) := by decide +kernel
theorem dX3_readSecond_52 : decode cX3_readSecond 52 = .ok (.aload_n 0, 1) := by decide +kernel
theorem dX3_readSecond_53 : decode cX3_readSecond 53 = .ok (.dup, 1) := by decide +kernel
theorem dX3_readSecond_54 : decode cX3_readSecond 54 = .ok (.getfield 19, 3) := by decide +kernel
theorem dX3_readSecond_57 : decode cX3_readSecond 57 = .ok (.iconst 1, 1) := by decide +kernel
theorem dX3_readSecond_58 : decode cX3_readSecond 58 = .ok (.iadd, 1) := by decide +kernel
theorem dX3_readSecond_59 : decode cX3_readSecond 59 = .ok (.putfield 19, 3) := by decide +kernel
theorem dX3_readSecond_62 : decode cX3_readSecond 62 = .ok (.aload_n 0, 1) := by decide +kernel
theorem dX3_readSecond_63 : decode cX3_readSecond 63 = .ok (.getfield 28, 3) := by decide +kernel
theorem dX3_readSecond_66 : decode cX3_readSecond 66 = .ok (.getfield 145, 3) := by decide +kernel
theorem dX3_readSecond_69 : decode cX3_readSecond 69 = .ok (.iload_n 1, 1) := by decide +kernel
theorem dX3_readSecond_70 : decode cX3_readSecond 70 = .ok (.iload 4, 2) := by decide +kernel
theorem dX3_readSecond_72 : decode cX3_readSecond 72 = .ok (.iastore, 1) := by decide +kernel
theorem dX3_readSecond_73 : decode cX3_readSecond 73 = .ok (.aload_n 0, 1) := by decide +kernel
theorem dX3_readSecond_74 : decode cX3_readSecond 74 = .ok (.iload_n 1, 1) := by decide +kernel
theorem dX3_readSecond_75 : decode cX3_readSecond 75 = .ok (.iconst 1, 1) := by decide +kernel
theorem dX3_readSecond_76 : decode cX3_readSecond 76 = .ok (.invokevirtual 118, 3) := by decide +kernel
theorem dX3_readSecond_79 : decode cX3_readSecond 79 = .ok (.goto 38, 3) := by decide +kernel
theorem dX3_readSecond_82 : decode cX3_readSecond 82 = .ok (.aload_n 0, 1) := by decide +kernel
theorem dX3_readSecond_83 : decode cX3_readSecond 83 = .ok (.getfield 46, 3) := by decide +kernel
theorem dX3_readSecond_86 : decode cX3_readSecond 86 = .ok (.getfield 148, 3) := by decide +kernel
theorem dX3_readSecond_89 : decode cX3_readSecond 89 = .ok (.iload_n 3, 1) := by decide +kernel
theorem dX3_readSecond_90 : decode cX3_readSecond 90 = .ok (.iaload, 1) := by decide +kernel
theorem dX3_readSecond_91 : decode cX3_readSecond 91 = .ok (.iconst 2, 1) := by decide +kernel
theorem dX3_readSecond_92 : decode cX3_readSecond 92 = .ok (.if_icmp .ne 25, 3) := by decide +kernel
theorem dX3_readSecond_95 : decode cX3_readSecond 95 = .ok (.iload_n 2, 1) := by decide +kernel
theorem dX3_readSecond_96 : decode cX3_readSecond 96 = .ok (.bipush 58, 2) := by decide +kernel
theorem dX3_readSecond_98 : decode cX3_readSecond 98 = .ok (.if_icmp .ne 19, 3) := by decide +kernel
theorem dX3_readSecond_101 : decode cX3_readSecond 101 = .ok (.aload_n 0, 1) := by decide +kernel
theorem dX3_readSecond_102 : decode cX3_readSecond 102 = .ok (.dup, 1) := by decide +kernel
theorem dX3_readSecond_103 : decode cX3_readSecond 103 = .ok (.getfield 19, 3) := by decide +kernel
theorem dX3_readSecond_106 : decode cX3_readSecond 106 = .ok (.iconst 1, 1) := by decide +kernel
theorem dX3_readSecond_107 : decode cX3_readSecond 107 = .ok (.iadd, 1) := by decide +kernel
theorem dX3_readSecond_108 : decode cX3_readSecond 108 = .ok (.putfield 19, 3) := by decide +kernel
theorem dX3_readSecond_111 : decode cX3_readSecond 111 = .ok (.aload_n 0, 1) := by decide +kernel
theorem dX3_readSecond_112 : decode cX3_readSecond 112 = .ok (.iload_n 1, 1) := by decide +kernel
theorem dX3_readSecond_113 : decode cX3_readSecond 113 = .ok (.iconst 1, 1) := by decide +kernel
theorem dX3_readSecond_114 : decode cX3_readSecond 114 = .ok (.invokevirtual 118, 3) := by decide +kernel
theorem dX3_readSecond_117 : decode cX3_readSecond 117 = .ok (.return_, 1) := by decide +kernel
theorem dX3_readStatement_0 : decode cX3_readStatement 0 = .ok (.iload_n 1, 1) := by decide +kernel
theorem dX3_readStatement_1 : decode cX3_readStatement 1 = .ok (.invokestatic 160, 3) := by decide +kernel
theorem dX3_readStatement_4 : decode cX3_readStatement 4 = .ok (.istore_n 2, 1) := by decide +kernel
theorem dX3_readStatement_5 : decode cX3_readStatement 5 = .ok (.iload_n 2, 1) := by decide +kernel
theorem dX3_readStatement_6 : decode cX3_readStatement 6 = .ok (.iconst (-1), 1) := by decide +kernel
theorem dX3_readStatement_7 : decode cX3_readStatement 7 = .ok (.if_icmp .ne 13, 3) := by decide +kernel
theorem dX3_readStatement_10 : decode cX3_readStatement 10 = .ok (.aload_n 0, 1) := by decide +kernel
theorem dX3_readStatement_11 : decode cX3_readStatement 11 = .ok (.iconst 1, 1) := by decide +kernel
theorem dX3_readStatement_12 : decode cX3_readStatement 12 = .ok (.aload_n 0, 1) := by decide +kernel
theorem dX3_readStatement_13 : decode cX3_readStatement 13 = .ok (.getfield 19, 3) := by decide +kernel
theorem dX3_readStatement_16 : decode cX3_readStatement 16 = .ok (.invokevirtual 101, 3) := by decide +kernel
theorem dX3_readStatement_19 : decode cX3_readStatement 19 = .ok (.return_, 1) := by decide +kernel
theorem dX3_readStatement_20 : decode cX3_readStatement 20 = .ok (.aload_n 0, 1) := by decide +kernel
theorem dX3_readStatement_21 : decode cX3_readStatement 21 = .ok (.getfield 46, 3) := by decide +kernel
theorem dX3_readStatement_24 : decode cX3_readStatement 24 = .ok (.getfield 163, 3) := by decide +kernel
theorem dX3_readStatement_27 : decode cX3_readStatement 27 = .ok (.bipush 40, 2) := by decide +kernel
theorem dX3_readStatement_29 : decode cX3_readStatement 29 = .ok (.if_icmp .lt 13, 3) := by decide +kernel
theorem dX3_readStatement_32 : decode cX3_readStatement 32 = .ok (.aload_n 0, 1) := by decide +kernel
theorem dX3_readStatement_33 : decode cX3_readStatement 33 = .ok (.iconst 4, 1) := by decide +kernel
theorem dX3_readStatement_34 : decode cX3_readStatement 34 = .ok (.aload_n 0, 1) := by decide +kernel
theorem dX3_readStatement_35 : decode cX3_readStatement 35 = .ok (.getfield 19, 3) := by decide +kernel
theorem dX3_readStatement_38 : decode cX3_readStatement 38 = .ok (.invokevirtual 101, 3) := by decide +kernel
theorem dX3_readStatement_41 : decode cX3_readStatement 41 = .ok (.return_, 1) := by decide +kernel
theorem dX3_readStatement_42 : decode cX3_readStatement 42 = .ok (.aload_n 0, 1) := by decide +kernel
theorem dX3_readStatement_43 : decode cX3_readStatement 43 = .ok (.getfield 46, 3) := by decide +kernel
theorem dX3_readStatement_46 : decode cX3_readStatement 46 = .ok (.iload_n 2, 1) := by decide +kernel
theorem dX3_readStatement_47 : decode cX3_readStatement 47 = .ok (.aload_n 0, 1) := by decide +kernel
theorem dX3_readStatement_48 : decode cX3_readStatement 48 = .ok (.getfield 46, 3) := by decide +kernel
theorem dX3_readStatement_51 : decode cX3_readStatement 51 = .ok (.getfield 115, 3) := by decide +kernel
theorem dX3_readStatement_54 : decode cX3_readStatement 54 = .ok (.iconst 1, 1) := by decide +kernel
theorem dX3_readStatement_55 : decode cX3_readStatement 55 = .ok (.isub, 1) := by decide +kernel
theorem dX3_readStatement_56 : decode cX3_readStatement 56 = .ok (.aload_n 0, 1) := by decide +kernel
theorem dX3_readStatement_57 : decode cX3_readStatement 57 = .ok (.getfield 32, 3) := by decide +kernel
theorem dX3_readStatement_60 : decode cX3_readStatement 60 = .ok (.iconst 1, 1) := by decide +kernel
theorem dX3_readStatement_61 : decode cX3_readStatement 61 = .ok (.isub, 1) := by decide +kernel
theorem dX3_readStatement_62 : decode cX3_readStatement 62 = .ok (.aload_n 0, 1) := by decide +kernel
theorem dX3_readStatement_63 : decode cX3_readStatement 63 = .ok (.getfield 19, 3) := by decide +kernel
theorem dX3_readStatement_66 : decode cX3_readStatement 66 = .ok (.invokevirtual 166, 3) := by decide +kernel
theorem dX3_readStatement_69 : decode cX3_readStatement 69 = .ok (.istore_n 3, 1) := by decide +kernel
theorem dX3_readStatement_70 : decode cX3_readStatement 70 = .ok (.aload_n 0, 1) := by decide +kernel
theorem dX3_readStatement_71 : decode cX3_readStatement 71 = .ok (.iload_n 3, 1) := by decide +kernel
theorem dX3_readStatement_72 : decode cX3_readStatement 72 = .ok (.invokevirtual 157, 3) := by decide +kernel
theorem dX3_readStatement_75 : decode cX3_readStatement 75 = .ok (.istore 4, 2) := by decide +kernel
theorem dX3_readStatement_77 : decode cX3_readStatement 77 = .ok (.aload_n 0, 1) := by decide +kernel
theorem dX3_readStatement_78 : decode cX3_readStatement 78 = .ok (.dup, 1) := by decide +kernel
theorem dX3_readStatement_79 : decode cX3_readStatement 79 = .ok (.getfield 19, 3) := by decide +kernel
theorem dX3_readStatement_82 : decode cX3_readStatement 82 = .ok (.iconst 1, 1) := by decide +kernel
theorem dX3_readStatement_83 : decode cX3_readStatement 83 = .ok (.iadd, 1) := by decide +kernel
theorem dX3_readStatement_84 : decode cX3_readStatement 84 = .ok (.putfield 19, 3) := by decide +kernel
theorem dX3_readStatement_87 : decode cX3_readStatement 87 = .ok (.iload_n 2, 1) := by decide +kernel
theorem dX3_readStatement_88 : decode cX3_readStatement 88 = .ok (.ifCond .ne 15, 3) := by decide +kernel
theorem dX3_readStatement_91 : decode cX3_readStatement 91 = .ok (.aload_n 0, 1) := by decide +kernel
theorem dX3_readStatement_92 : decode cX3_readStatement 92 = .ok (.iload_n 3, 1) := by decide +kernel
theorem dX3_readStatement_93 : decode cX3_readStatement 93 = .ok (.iload_n 1, 1) := by decide +kernel
theorem dX3_readStatement_94 : decode cX3_readStatement 94 = .ok (.invokestatic 137, 3) := by decide +kernel
theorem dX3_readStatement_97 : decode cX3_readStatement 97 = .ok (.invokevirtual 169, 3) := by decide +kernel
theorem dX3_readStatement_100 : decode cX3_readStatement 100 = .ok (.goto 42, 3) := by decide +kernel
theorem dX3_readStatement_103 : decode cX3_readStatement 103 = .ok (.iload_n 2, 1) := by decide +kernel
theorem dX3_readStatement_104 : decode cX3_readStatement 104 = .ok (.iconst 2, 1) := by decide +kernel
theorem dX3_readStatement_105 : decode cX3_readStatement 105 = .ok (.if_icmp .eq 8, 3) := by decide +kernel
theorem dX3_readStatement_108 : decode cX3_readStatement 108 = .ok (.iload_n 2, 1) := by decide +kernel
theorem dX3_readStatement_109 : decode cX3_readStatement 109 = .ok (.iconst 3, 1) := by decide +kernel
theorem dX3_readStatement_110 : decode cX3_readStatement 110 = .ok (.if_icmp .ne 13, 3) := by decide +kernel
theorem dX3_readStatement_113 : decode cX3_readStatement 113 = .ok (.aload_n 0, 1) := by decide +kernel
theorem dX3_readStatement_114 : decode cX3_readStatement 114 = .ok (.iload_n 3, 1) := by decide +kernel
theorem dX3_readStatement_115 : decode cX3_readStatement 115 = .ok (.iload 4, 2) := by decide +kernel
theorem dX3_readStatement_117 : decode cX3_readStatement 117 = .ok (.invokevirtual 172, 3) := by decide +kernel
theorem dX3_readStatement_120 : decode cX3_readStatement 120 = .ok (.goto 22, 3) := by decide +kernel
theorem dX3_readStatement_123 : decode cX3_readStatement 123 = .ok (.aload_n 0, 1) := by decide +kernel
theorem dX3_readStatement_124 : decode cX3_readStatement 124 = .ok (.getfield 46, 3) := by decide +kernel
theorem dX3_readStatement_127 : decode cX3_readStatement 127 = .ok (.getfield 175, 3) := by decide +kernel
theorem dX3_readStatement_130 : decode cX3_readStatement 130 = .ok (.iload_n 3, 1) := by decide +kernel
theorem dX3_readStatement_131 : decode cX3_readStatement 131 = .ok (.aload_n 0, 1) := by decide +kernel
theorem dX3_readStatement_132 : decode cX3_readStatement 132 = .ok (.invokevirtual 178, 3) := by decide +kernel
theorem dX3_readStatement_135 : decode cX3_readStatement 135 = .ok (.iastore, 1) := by decide +kernel
theorem dX3_readStatement_136 : decode cX3_readStatement 136 = .ok (.aload_n 0, 1) := by decide +kernel
theorem dX3_readStatement_137 : decode cX3_readStatement 137 = .ok (.bipush 59, 2) := by decide +kernel
theorem dX3_readStatement_139 : decode cX3_readStatement 139 = .ok (.invokevirtual 181, 3) := by decide +kernel
theorem dX3_readStatement_142 : decode cX3_readStatement 142 = .ok (.return_, 1) := by decide +kernel
set_option maxHeartbeats 4000000 in
set_option maxRecDepth 100000 in
theorem s_X3_readSecond (l : Launch) (d : Nat) {P : PP} {h : HP} (hv : Iv P h) (a2 : Int32) (a2l : 0 ≤ a2.toInt) (a2u : a2.toInt ≤ 127) : Mt l yX3_readSecond cX3_readSecond 5 none (d + 3) [.ref 34, .int a2] h 0 0 (fun r h' => r = none ∧ Iv P h' ∧ (PR h → PR h')) := by
  refine Mt_iv hv (by decide) (Nat.le_of_ble_eq_true rfl) ?_
  show Go l RX3 cX3_readSecond 5 (g_rm (d + 3) 0 0) "readSecond" none 117 0 0 (fun _ _ => True) (fun r h' => r = none ∧ Iv P h' ∧ (PR h → PR h')) 0 0 [(0, .ref 34), (1, .int a2)] [] h
  have pr : PR h → PR h := id
  have key : ∀ n : Nat, (∀  (hx : HP), Iv P hx → (PR h → PR hx) → (0 : Int) ≤ (hx.2.1 34 2).toInt → (hx.2.1 34 2).toInt ≤ 500 → (3 : Int) < n → Go l RX3 cX3_readSecond 5 (g_rm (d + 3) 0 0) "readSecond" none 117 0 0 (fun _ _ => True) (fun r h' => r = none ∧ Iv P h' ∧ (PR h → PR h')) 0 40 [(0, .ref 34)] [] hx) ∧ (∀  (hx : HP), Iv P hx → (PR h → PR hx) → (0 : Int) ≤ (hx.2.1 34 2).toInt → (hx.2.1 34 2).toInt ≤ 500 → (2 : Int) < n → Go l RX3 cX3_readSecond 5 (g_rm (d + 3) 0 0) "readSecond" none 117 0 0 (fun _ _ => True) (fun r h' => r = none ∧ Iv P h' ∧ (PR h → PR h')) 0 79 [] [] hx) ∧ (∀  (hx : HP), Iv P hx → (PR h → PR hx) → (0 : Int) ≤ (hx.2.1 34 2).toInt → (hx.2.1 34 2).toInt ≤ 500 → (1 : Int) < n → Go l RX3 cX3_readSecond 5 (g_rm (d + 3) 0 0) "readSecond" none 117 0 0 (fun _ _ => True) (fun r h' => r = none ∧ Iv P h' ∧ (PR h → PR h')) 0 117 [] [] hx) := by
    intro n
    induction n with
    | zero => exact ⟨(by intros; omega), (by intros; omega), (by intros; omega)⟩
    | succ n ih =>
      refine ⟨?_, ?_, ?_⟩
      ·
        intro hx hvx prx y0l y0u hm
        refine go_aload_n (pc := 40) rfl dX3_readSecond_40 ?_
        refine go_iconst (pc := 41) (v := 1) (by decide) dX3_readSecond_41 ?_
        refine go_aload_n (pc := 42) rfl dX3_readSecond_42 ?_
        refine gi_get (pc := 43) (lo := 0) (hi := 500) hvx fL_X3_19 rfl (Nat.le_of_ble_eq_true rfl) rfl rfl dX3_readSecond_43 (fun v1 v1l v1u v1w => ?_)
        have g2 : (hx.2.1 34 2).toInt = v1.toInt := by rw [v1w]
        have g3 : (0 : Int) ≤ (hx.2.1 34 2).toInt := (hvx.2.1 34 2).1
        have g4 : (hx.2.1 34 2).toInt ≤ 500 := (hvx.2.1 34 2).2
        have g5 : (hx.2.1 34 2).toInt = v1.toInt := by rw [← (show v1 = hx.2.1 34 2 from v1w)] <;> exact (ti_rfl v1)
        refine go_invV (pc := 46) (sl := 0) (s_X3_blame l (d + 1) hvx 1 (by rw [show (1 : Int32).toInt = 1 from (ti_c (v := 1) (a := 1) (by decide))]; omega) (by rw [show (1 : Int32).toInt = 1 from (ti_c (v := 1) (a := 1) (by decide))]; omega) v1 (by rw [show (v1 : Int32).toInt = v1.toInt from (ti_rfl v1)]; omega) (by rw [show (v1 : Int32).toInt = v1.toInt from (ti_rfl v1)]; omega)) mL_X3_101 iM_X3_blame sM_X3_blame (hvx.sh rfl) rfl rfl rfl (Nat.le_of_ble_eq_true rfl) (show d + 1 + 1 + 1 ≤ d + 3 by omega) (show 8 + (3 + 11) + 40 * (d + 1 + 1) ≤ 40 * (d + 3) by omega) (g_c0 hvx.ln) (Nat.le_of_ble_eq_true rfl) dX3_readSecond_46 ?_
        intro r h6 hq _
        obtain ⟨rfl, hv6, f7, f8, f9, f10, pt6⟩ := hq
        have pr6 : PR h → PR h6 := fun z => pt6 (prx z)
        try rw [show (1 : Int32).toInt = 1 from (ti_c (v := 1) (a := 1) (by decide))] at f7
        try rw [show (1 : Int32).toInt = 1 from (ti_c (v := 1) (a := 1) (by decide))] at f8
        try rw [show (1 : Int32).toInt = 1 from (ti_c (v := 1) (a := 1) (by decide))] at f9
        try rw [show (1 : Int32).toInt = 1 from (ti_c (v := 1) (a := 1) (by decide))] at f10
        obtain ⟨u11, u11w⟩ : ∃ v : Int32, v = h6.2.1 34 2 := ⟨_, rfl⟩
        have u11e : (h6.2.1 34 2).toInt = u11.toInt := by rw [u11w]
        have u11l : 0 ≤ u11.toInt := by rw [u11w]; exact (hv6.2.1 34 2).1
        have u11u : u11.toInt ≤ 500 := by rw [u11w]; exact (hv6.2.1 34 2).2
        refine go_goto (pc := 49) (tgt := 79) (by decide) dX3_readSecond_49 ?_
        have g12 : (0 : Int) ≤ (h6.2.1 34 2).toInt := (hv6.2.1 34 2).1
        have g13 : (h6.2.1 34 2).toInt ≤ 500 := (hv6.2.1 34 2).2
        have g14 : (h6.2.1 34 2).toInt = u11.toInt := by rw [← (show u11 = h6.2.1 34 2 from u11w)] <;> exact (ti_rfl u11)
        exact go_lv rfl (ih.2.1  h6 hv6 pr6 (by omega) (by omega) (by omega))
      ·
        intro hx hvx prx y0l y0u hm
        refine go_goto (pc := 79) (tgt := 117) (by decide) dX3_readSecond_79 ?_
        have g15 : (0 : Int) ≤ (hx.2.1 34 2).toInt := (hvx.2.1 34 2).1
        have g16 : (hx.2.1 34 2).toInt ≤ 500 := (hvx.2.1 34 2).2
        exact go_lv rfl (ih.2.2  hx hvx prx (by omega) (by omega) (by omega))
      ·
        intro hx hvx prx y0l y0u hm
        exact gi_vret (pc := 117) ⟨rfl, hvx, prx⟩ hvx dX3_readSecond_117
  refine go_aload_n (pc := 0) rfl dX3_readSecond_0 ?_
  have g17 : (0 : Int) ≤ (h.2.1 34 2).toInt := (hv.2.1 34 2).1
  have g18 : (h.2.1 34 2).toInt ≤ 500 := (hv.2.1 34 2).2
  refine go_invV (pc := 1) (sl := 0) (s_X3_look l (d + 1) hv ) mL_X3_66 iM_X3_look sM_X3_look (hv.sh rfl) rfl rfl rfl (Nat.le_of_ble_eq_true rfl) (show d + 1 + 1 + 1 ≤ d + 3 by omega) (show 8 + (1 + 11) + 40 * (d + 1 + 1) ≤ 40 * (d + 3) by omega) (g_c0 hv.ln) (Nat.le_of_ble_eq_true rfl) dX3_readSecond_1 ?_
  intro r h19 hq _
  obtain ⟨v23, rfl, v23l, v23u, hv19, f20, f21, f22, pt19⟩ := hq
  have pr19 : PR h → PR h19 := fun z => pt19 (pr z)
  obtain ⟨u24, u24w⟩ : ∃ v : Int32, v = h19.2.1 34 2 := ⟨_, rfl⟩
  have u24e : (h19.2.1 34 2).toInt = u24.toInt := by rw [u24w]
  have u24l : 0 ≤ u24.toInt := by rw [u24w]; exact (hv19.2.1 34 2).1
  have u24u : u24.toInt ≤ 500 := by rw [u24w]; exact (hv19.2.1 34 2).2
  refine go_istore_n (pc := 4) (Nat.le_of_ble_eq_true rfl) dX3_readSecond_4 (go_lv (lv2 := [(0, .ref 34), (1, .int a2), (2, .int v23)]) rfl ?_)
  refine go_aload_n (pc := 5) rfl dX3_readSecond_5 ?_
  refine gi_getF (pc := 6) (q := 36) hv19 fL_X3_28 rfl (Nat.le_of_ble_eq_true rfl) rfl (hv19.rf (by decide)) dX3_readSecond_6 ?_
  refine gi_getF (pc := 9) (q := 37) hv19 fL_X3_134 rfl (Nat.le_of_ble_eq_true rfl) rfl (hv19.rf (by decide)) dX3_readSecond_9 ?_
  refine go_iload_n (pc := 12) rfl dX3_readSecond_12 ?_
  refine gi_iald (pc := 13) (lo := -1) (hi := 39) (len := 128) hv19 (ti_rfl a2) rfl (by omega) (by omega) (fun _ => rfl) dX3_readSecond_13 (fun v25 v25l v25u v25w => ?_)
  refine go_istore_n (pc := 14) (Nat.le_of_ble_eq_true rfl) dX3_readSecond_14 (go_lv (lv2 := [(0, .ref 34), (1, .int a2), (2, .int v23), (3, .int v25)]) rfl ?_)
  refine go_iload_n (pc := 15) rfl dX3_readSecond_15 ?_
  refine go_iconst (pc := 16) (v := (-1)) (by decide) dX3_readSecond_16 ?_
  refine gf_icmp_ne (pc := 17) (tgt := 82) (ti_rfl v25) (ti_c (v := (-1)) (a := (-1)) (by decide)) (by decide) dX3_readSecond_17 (fun q26 => ?_) (fun q26 => ?_)
  ·
    refine go_aload_n (pc := 82) rfl dX3_readSecond_82 ?_
    refine gi_getC (pc := 83) hv19 fL_X3_46 rfl (Nat.le_of_ble_eq_true rfl) rfl (by decide) dX3_readSecond_83 (fun c27 hc27 fc27 => ?_)
    refine gi_getF (pc := 86) (q := c27 + 2) hv19 fL_X3_148 (by rcases hc27 with rfl | rfl <;> rfl) (Nat.le_of_ble_eq_true rfl) rfl (by rcases hc27 with rfl | rfl <;> exact hv19.rf (by decide)) dX3_readSecond_86 ?_
    refine go_iload_n (pc := 89) rfl dX3_readSecond_89 ?_
    refine gi_iald (pc := 90) (lo := 0) (hi := 5) (len := 40) hv19 (ti_rfl v25) (by rcases hc27 with rfl | rfl <;> rfl) (by omega) (by omega) (fun _ => by rcases hc27 with rfl | rfl <;> rfl) dX3_readSecond_90 (fun v28 v28l v28u v28w => ?_)
    refine go_iconst (pc := 91) (v := 2) (by decide) dX3_readSecond_91 ?_
    refine gf_icmp_ne (pc := 92) (tgt := 117) (ti_rfl v28) (ti_c (v := 2) (a := 2) (by decide)) (by decide) dX3_readSecond_92 (fun q29 => ?_) (fun q29 => ?_)
    ·
      have g30 : (0 : Int) ≤ (h19.2.1 34 2).toInt := (hv19.2.1 34 2).1
      have g31 : (h19.2.1 34 2).toInt ≤ 500 := (hv19.2.1 34 2).2
      have g32 : (h19.2.1 34 2).toInt = u24.toInt := by rw [← (show u24 = h19.2.1 34 2 from u24w)] <;> exact (ti_rfl u24)
      exact go_lv rfl ((key 16).2.2  h19 hv19 pr19 (by omega) (by omega) (by omega))
    ·
      refine go_iload_n (pc := 95) rfl dX3_readSecond_95 ?_
      refine go_bipush (pc := 96) (v := 58) (by decide) dX3_readSecond_96 ?_
      refine gf_icmp_ne (pc := 98) (tgt := 117) (ti_rfl v23) (ti_c (v := 58) (a := 58) (by decide)) (by decide) dX3_readSecond_98 (fun q33 => ?_) (fun q33 => ?_)
      ·
        have g34 : (0 : Int) ≤ (h19.2.1 34 2).toInt := (hv19.2.1 34 2).1
        have g35 : (h19.2.1 34 2).toInt ≤ 500 := (hv19.2.1 34 2).2
        have g36 : (h19.2.1 34 2).toInt = u24.toInt := by rw [← (show u24 = h19.2.1 34 2 from u24w)] <;> exact (ti_rfl u24)
        exact go_lv rfl ((key 16).2.2  h19 hv19 pr19 (by omega) (by omega) (by omega))
      ·
        refine go_aload_n (pc := 101) rfl dX3_readSecond_101 ?_
        refine go_dup (pc := 102) rfl dX3_readSecond_102 ?_
        refine gi_get (pc := 103) (lo := 0) (hi := 500) hv19 fL_X3_19 rfl (Nat.le_of_ble_eq_true rfl) rfl rfl dX3_readSecond_103 (fun v37 v37l v37u v37w => ?_)
        have v37r : u24 = h19.2.1 34 2 := u24w
        have v37q : TI v37 u24.toInt := by rw [v37w.trans v37r.symm]; exact (ti_rfl u24)
        refine go_iconst (pc := 106) (v := 1) (by decide) dX3_readSecond_106 ?_
        refine gf_iadd (pc := 107) v37q (ti_c (v := 1) (a := 1) (by decide)) (by omega) (by omega) dX3_readSecond_107 (fun v38 e39 => ?_)
        refine gi_put (pc := 108) (lo := 0) (hi := 500) hv19 e39 (fP_X3_19 _) rfl (Nat.le_of_ble_eq_true rfl) rfl rfl (by omega) (by omega) rfl rfl (by decide) (by decide) (by decide) (by decide) dX3_readSecond_108 (fun h40 hv40 hv40e => ?_)
        have pr40 : PR h → PR h40 := fun z => by rw [hv40e]; exact PR.put hv19 (pr19 z) (by omega)
        refine go_aload_n (pc := 111) rfl dX3_readSecond_111 ?_
        refine go_iload_n (pc := 112) rfl dX3_readSecond_112 ?_
        refine go_iconst (pc := 113) (v := 1) (by decide) dX3_readSecond_113 ?_
        refine go_invV (pc := 114) (sl := 0) (s_X3_openBlock l (d + 0) hv40 a2 (by rw [show (a2 : Int32).toInt = a2.toInt from (ti_rfl a2)]; omega) (by rw [show (a2 : Int32).toInt = a2.toInt from (ti_rfl a2)]; omega) 1 (by rw [show (1 : Int32).toInt = 1 from (ti_c (v := 1) (a := 1) (by decide))]; omega) (by rw [show (1 : Int32).toInt = 1 from (ti_c (v := 1) (a := 1) (by decide))]; omega)) mL_X3_118 iM_X3_openBlock sM_X3_openBlock (hv40.sh rfl) rfl rfl rfl (Nat.le_of_ble_eq_true rfl) (show d + 0 + 2 + 1 ≤ d + 3 by omega) (show 8 + (3 + 11) + 40 * (d + 0 + 2) ≤ 40 * (d + 3) by omega) (g_c0 hv40.ln) (Nat.le_of_ble_eq_true rfl) dX3_readSecond_114 ?_
        intro r h41 hq _
        obtain ⟨rfl, hv41, pt41⟩ := hq
        have pr41 : PR h → PR h41 := fun z => pt41 (pr40 z)
        obtain ⟨u42, u42w⟩ : ∃ v : Int32, v = h41.2.1 34 2 := ⟨_, rfl⟩
        have u42e : (h41.2.1 34 2).toInt = u42.toInt := by rw [u42w]
        have u42l : 0 ≤ u42.toInt := by rw [u42w]; exact (hv41.2.1 34 2).1
        have u42u : u42.toInt ≤ 500 := by rw [u42w]; exact (hv41.2.1 34 2).2
        have g43 : (0 : Int) ≤ (h41.2.1 34 2).toInt := (hv41.2.1 34 2).1
        have g44 : (h41.2.1 34 2).toInt ≤ 500 := (hv41.2.1 34 2).2
        have g45 : (h41.2.1 34 2).toInt = u42.toInt := by rw [← (show u42 = h41.2.1 34 2 from u42w)] <;> exact (ti_rfl u42)
        exact go_lv rfl ((key 16).2.2  h41 hv41 pr41 (by omega) (by omega) (by omega))
  ·
    refine go_iload_n (pc := 20) rfl dX3_readSecond_20 ?_
    refine go_invS (pc := 21) (sl := 0) (s_X3_nameOf l (d + 1) hv19 v23) mL_X3_137 iM_X3_nameOf rfl rfl (Nat.le_of_ble_eq_true rfl) (show d + 1 + 1 + 1 ≤ d + 3 by omega) (show 8 + (1 + 11) + 40 * (d + 1 + 1) ≤ 40 * (d + 3) by omega) (g_c0 hv19.ln) (Nat.le_of_ble_eq_true rfl) dX3_readSecond_21 ?_
    intro r h46 hq _
    obtain ⟨v48, rfl, v48l, v48u, rfl, f47⟩ := hq
    refine go_istore (pc := 24) (Nat.le_of_ble_eq_true rfl) dX3_readSecond_24 (go_lv (lv2 := [(0, .ref 34), (1, .int a2), (2, .int v23), (3, .int v25), (4, .int v48)]) rfl ?_)
    refine go_iload (pc := 26) rfl dX3_readSecond_26 ?_
    refine go_iconst (pc := 28) (v := (-1)) (by decide) dX3_readSecond_28 ?_
    refine gf_icmp_eq (pc := 29) (tgt := 40) (ti_rfl v48) (ti_c (v := (-1)) (a := (-1)) (by decide)) (by decide) dX3_readSecond_29 (fun q49 => ?_) (fun q49 => ?_)
    ·
      have g50 : (0 : Int) ≤ (h19.2.1 34 2).toInt := (hv19.2.1 34 2).1
      have g51 : (h19.2.1 34 2).toInt ≤ 500 := (hv19.2.1 34 2).2
      have g52 : (h19.2.1 34 2).toInt = u24.toInt := by rw [← (show u24 = h19.2.1 34 2 from u24w)] <;> exact (ti_rfl u24)
      exact go_lv rfl ((key 16).1  h19 hv19 pr19 (by omega) (by omega) (by omega))
    ·
      refine go_iload (pc := 32) rfl dX3_readSecond_32 ?_
      refine go_invS (pc := 34) (sl := 0) (s_X7_isField l (d + 1) hv19 v48) mL_X3_141 iM_X7_isField rfl rfl (Nat.le_of_ble_eq_true rfl) (show d + 1 + 1 + 1 ≤ d + 3 by omega) (show 8 + (1 + 11) + 40 * (d + 1 + 1) ≤ 40 * (d + 3) by omega) (g_c0 hv19.ln) (Nat.le_of_ble_eq_true rfl) dX3_readSecond_34 ?_
      intro r h53 hq _
      obtain ⟨v55, rfl, v55l, v55u, rfl, f56, f54⟩ := hq
      refine gf_if_eq (pc := 37) (tgt := 52) (ti_rfl v55) (by decide) dX3_readSecond_37 (fun q57 => ?_) (fun q57 => ?_)
      ·
        refine go_aload_n (pc := 52) rfl dX3_readSecond_52 ?_
        refine go_dup (pc := 53) rfl dX3_readSecond_53 ?_
        refine gi_get (pc := 54) (lo := 0) (hi := 500) hv19 fL_X3_19 rfl (Nat.le_of_ble_eq_true rfl) rfl rfl dX3_readSecond_54 (fun v58 v58l v58u v58w => ?_)
        have v58r : u24 = h19.2.1 34 2 := u24w
        have v58q : TI v58 u24.toInt := by rw [v58w.trans v58r.symm]; exact (ti_rfl u24)
        refine go_iconst (pc := 57) (v := 1) (by decide) dX3_readSecond_57 ?_
        refine gf_iadd (pc := 58) v58q (ti_c (v := 1) (a := 1) (by decide)) (by omega) (by omega) dX3_readSecond_58 (fun v59 e60 => ?_)
        refine gi_put (pc := 59) (lo := 0) (hi := 500) hv19 e60 (fP_X3_19 _) rfl (Nat.le_of_ble_eq_true rfl) rfl rfl (by omega) (by omega) rfl rfl (by decide) (by decide) (by decide) (by decide) dX3_readSecond_59 (fun h61 hv61 hv61e => ?_)
        have pr61 : PR h → PR h61 := fun z => by rw [hv61e]; exact PR.put hv19 (pr19 z) (by omega)
        refine go_aload_n (pc := 62) rfl dX3_readSecond_62 ?_
        refine gi_getF (pc := 63) (q := 36) hv61 fL_X3_28 rfl (Nat.le_of_ble_eq_true rfl) rfl (hv61.rf (by decide)) dX3_readSecond_63 ?_
        refine gi_getF (pc := 66) (q := 41) hv61 fL_X3_145 rfl (Nat.le_of_ble_eq_true rfl) rfl (hv61.rf (by decide)) dX3_readSecond_66 ?_
        refine go_iload_n (pc := 69) rfl dX3_readSecond_69 ?_
        refine go_iload (pc := 70) rfl dX3_readSecond_70 ?_
        refine gi_iast (pc := 72) (lo := -1) (hi := 5) (len := 128) hv61 (ti_rfl a2) (ti_rfl v48) rfl (by omega) (by omega) (fun _ => rfl) (by omega) (by omega) (by decide) dX3_readSecond_72 (fun h62 hv62 hv62e => ?_)
        have pr62 : PR h → PR h62 := fun z => by rw [hv62e]; exact PR.put hv61 (pr61 z) (by omega)
        refine go_aload_n (pc := 73) rfl dX3_readSecond_73 ?_
        refine go_iload_n (pc := 74) rfl dX3_readSecond_74 ?_
        refine go_iconst (pc := 75) (v := 1) (by decide) dX3_readSecond_75 ?_
        refine go_invV (pc := 76) (sl := 0) (s_X3_openBlock l (d + 0) hv62 a2 (by rw [show (a2 : Int32).toInt = a2.toInt from (ti_rfl a2)]; omega) (by rw [show (a2 : Int32).toInt = a2.toInt from (ti_rfl a2)]; omega) 1 (by rw [show (1 : Int32).toInt = 1 from (ti_c (v := 1) (a := 1) (by decide))]; omega) (by rw [show (1 : Int32).toInt = 1 from (ti_c (v := 1) (a := 1) (by decide))]; omega)) mL_X3_118 iM_X3_openBlock sM_X3_openBlock (hv62.sh rfl) rfl rfl rfl (Nat.le_of_ble_eq_true rfl) (show d + 0 + 2 + 1 ≤ d + 3 by omega) (show 8 + (3 + 11) + 40 * (d + 0 + 2) ≤ 40 * (d + 3) by omega) (g_c0 hv62.ln) (Nat.le_of_ble_eq_true rfl) dX3_readSecond_76 ?_
        intro r h63 hq _
        obtain ⟨rfl, hv63, pt63⟩ := hq
        have pr63 : PR h → PR h63 := fun z => pt63 (pr62 z)
        obtain ⟨u64, u64w⟩ : ∃ v : Int32, v = h63.2.1 34 2 := ⟨_, rfl⟩
        have u64e : (h63.2.1 34 2).toInt = u64.toInt := by rw [u64w]
        have u64l : 0 ≤ u64.toInt := by rw [u64w]; exact (hv63.2.1 34 2).1
        have u64u : u64.toInt ≤ 500 := by rw [u64w]; exact (hv63.2.1 34 2).2
        have g65 : (0 : Int) ≤ (h63.2.1 34 2).toInt := (hv63.2.1 34 2).1
        have g66 : (h63.2.1 34 2).toInt ≤ 500 := (hv63.2.1 34 2).2
        have g67 : (h63.2.1 34 2).toInt = u64.toInt := by rw [← (show u64 = h63.2.1 34 2 from u64w)] <;> exact (ti_rfl u64)
        exact go_lv rfl ((key 16).2.1  h63 hv63 pr63 (by omega) (by omega) (by omega))
      ·
        have g68 : (0 : Int) ≤ (h19.2.1 34 2).toInt := (hv19.2.1 34 2).1
        have g69 : (h19.2.1 34 2).toInt ≤ 500 := (hv19.2.1 34 2).2
        have g70 : (h19.2.1 34 2).toInt = u24.toInt := by rw [← (show u24 = h19.2.1 34 2 from u24w)] <;> exact (ti_rfl u24)
        exact go_lv rfl ((key 16).1  h19 hv19 pr19 (by omega) (by omega) (by omega))
set_option maxHeartbeats 4000000 in
set_option maxRecDepth 100000 in
theorem s_X3_readCall (l : Launch) (d : Nat) {P : PP} {h : HP} (hv : Iv P h) (a2 : Int32) (a2l : 0 ≤ a2.toInt) (a2u : a2.toInt ≤ 39) (a3 : Int32) (a3l : 65 ≤ a3.toInt) (a3u : a3.toInt ≤ 69) (hp2 : (h.2.1 34 2).toInt ≤ 499) : Mt l yX3_readCall cX3_readCall 3 none (d + 4) [.ref 34, .int a2, .int a3] h 0 0 (fun r h' => r = none ∧ (∃ Q : PP, Iv Q h' ∧ ((0 : Int) = 0) ∧ Q.1 = P.1 ∧ Q.2.1 = P.2.1 ∧ Q.2.2.2 = P.2.2.2) ∧ ((h'.2.1 34 1).toInt = (h.2.1 34 1).toInt) ∧ ((h'.2.1 34 7).toInt = (h.2.1 34 7).toInt) ∧ (PR h → PR h')) := by
  refine Mt_iv hv (by decide) (Nat.le_of_ble_eq_true rfl) ?_
  show Go l RX3 cX3_readCall 3 (g_rm (d + 4) 0 0) "readCall" none 117 0 0 (fun _ _ => True) (fun r h' => r = none ∧ (∃ Q : PP, Iv Q h' ∧ ((0 : Int) = 0) ∧ Q.1 = P.1 ∧ Q.2.1 = P.2.1 ∧ Q.2.2.2 = P.2.2.2) ∧ ((h'.2.1 34 1).toInt = (h.2.1 34 1).toInt) ∧ ((h'.2.1 34 7).toInt = (h.2.1 34 7).toInt) ∧ (PR h → PR h')) 0 0 [(0, .ref 34), (1, .int a2), (2, .int a3)] [] h
  have pr : PR h → PR h := id
  obtain ⟨u34_2, u34_2w⟩ : ∃ v : Int32, v = h.2.1 34 2 := ⟨_, rfl⟩
  have u34_2e : (h.2.1 34 2).toInt = u34_2.toInt := by rw [u34_2w]
  have u34_2l : 0 ≤ u34_2.toInt := by rw [u34_2w]; exact (hv.2.1 34 2).1
  have u34_2u : u34_2.toInt ≤ 500 := by rw [u34_2w]; exact (hv.2.1 34 2).2
  obtain ⟨u34_1, u34_1w⟩ : ∃ v : Int32, v = h.2.1 34 1 := ⟨_, rfl⟩
  have u34_1e : (h.2.1 34 1).toInt = u34_1.toInt := by rw [u34_1w]
  have u34_1l : 0 ≤ u34_1.toInt := by rw [u34_1w]; exact (hv.2.1 34 1).1
  have u34_1u : u34_1.toInt ≤ 500 := by rw [u34_1w]; exact (hv.2.1 34 1).2
  obtain ⟨u34_7, u34_7w⟩ : ∃ v : Int32, v = h.2.1 34 7 := ⟨_, rfl⟩
  have u34_7e : (h.2.1 34 7).toInt = u34_7.toInt := by rw [u34_7w]
  have u34_7l : 0 ≤ u34_7.toInt := by rw [u34_7w]; exact (hv.2.1 34 7).1
  have u34_7u : u34_7.toInt ≤ 7 := by rw [u34_7w]; exact (hv.2.1 34 7).2
  refine go_aload_n (pc := 0) rfl dX3_readCall_0 ?_
  refine go_dup (pc := 1) rfl dX3_readCall_1 ?_
  refine gi_get (pc := 2) (lo := 0) (hi := 500) hv fL_X3_19 rfl (Nat.le_of_ble_eq_true rfl) rfl rfl dX3_readCall_2 (fun v1 v1l v1u v1w => ?_)
  have v1r : u34_2 = h.2.1 34 2 := u34_2w
  have v1q : TI v1 u34_2.toInt := by rw [v1w.trans v1r.symm]; exact (ti_rfl u34_2)
  refine go_iconst (pc := 5) (v := 1) (by decide) dX3_readCall_5 ?_
  refine gf_iadd (pc := 6) v1q (ti_c (v := 1) (a := 1) (by decide)) (by omega) (by omega) dX3_readCall_6 (fun v2 e3 => ?_)
  refine gi_put (pc := 7) (lo := 0) (hi := 500) hv e3 (fP_X3_19 _) rfl (Nat.le_of_ble_eq_true rfl) rfl rfl (by omega) (by omega) rfl rfl (by decide) (by decide) (by decide) (by decide) dX3_readCall_7 (fun h4 hv4 hv4e => ?_)
  have pr4 : PR h → PR h4 := fun z => by rw [hv4e]; exact PR.put hv (pr z) (by omega)
  refine go_aload_n (pc := 10) rfl dX3_readCall_10 ?_
  refine gi_getC (pc := 11) hv4 fL_X3_46 rfl (Nat.le_of_ble_eq_true rfl) rfl (by decide) dX3_readCall_11 (fun c5 hc5 fc5 => ?_)
  refine gi_getF (pc := 14) (q := c5 + 2) hv4 fL_X3_148 (by rcases hc5 with rfl | rfl <;> rfl) (Nat.le_of_ble_eq_true rfl) rfl (by rcases hc5 with rfl | rfl <;> exact hv4.rf (by decide)) dX3_readCall_14 ?_
  refine go_iload_n (pc := 17) rfl dX3_readCall_17 ?_
  refine go_iconst (pc := 18) (v := 1) (by decide) dX3_readCall_18 ?_
  have ei := (ti_rfl a2)
  have ex : TI 1 1 := ti_c (by decide)
  refine go_iast (pc := 19) (len := 40) (hv4.sh (by rcases hc5 with rfl | rfl <;> rfl)) (ti_in ei (by omega) (by omega)) dX3_readCall_19 ?_
  rw [ti_ix ei (by omega)]
  refine go_aload_n (pc := 20) rfl dX3_readCall_20 ?_
  refine go_getR (pc := 21) (v := .ref c5) fL_X3_46 (g_shI (hv4.sh rfl)) (Nat.le_of_ble_eq_true rfl) rfl (g_rI fc5) dX3_readCall_21 ?_
  refine go_getR (pc := 24) (v := .ref (c5 + 7)) fL_X3_196 (g_shI (hv4.sh (by rcases hc5 with rfl | rfl <;> rfl))) (Nat.le_of_ble_eq_true rfl) rfl (g_rI (by rcases hc5 with rfl | rfl <;> exact hv4.rf (by decide))) dX3_readCall_24 ?_
  refine go_iload_n (pc := 27) rfl dX3_readCall_27 ?_
  refine go_iload_n (pc := 28) rfl dX3_readCall_28 ?_
  refine go_bipush (pc := 29) (v := 65) (by decide) dX3_readCall_29 ?_
  refine gf_isub (pc := 31) (ti_rfl a3) (ti_c (v := 65) (a := 65) (by decide)) (by omega) (by omega) dX3_readCall_31 (fun v6 e7 => ?_)
  refine go_iast (pc := 32) (len := 40) (g_shI (hv4.sh (by rcases hc5 with rfl | rfl <;> rfl))) (ti_in ei (by omega) (by omega)) dX3_readCall_32 ?_
  rw [ti_ix ei (by omega)]
  obtain ⟨h8, hv8e⟩ : ∃ g : HP, g = hI (hI h4 (c5 + 2) (a2.toInt).toNat 1) (c5 + 7) (a2.toInt).toNat v6 := ⟨_, rfl⟩
  have hv8 := hv4.putKE (j := (a2.toInt).toNat) hc5 ex e7 (by omega) (by omega)
  rw [← hv8e] at hv8 ⊢
  have pr8 : PR h → PR h8 := fun z => by rw [hv8e]; exact PR.put2 hv4 (pr4 z) (by omega) (by omega)
  refine go_aload_n (pc := 33) rfl dX3_readCall_33 ?_
  refine gi_getC (pc := 34) hv8 fL_X3_46 rfl (Nat.le_of_ble_eq_true rfl) rfl (by decide) dX3_readCall_34 (fun c9 hc9 fc9 => ?_)
  refine go_dup (pc := 37) rfl dX3_readCall_37 ?_
  refine gi_getL (pc := 38) hv8 fL_X3_199 (by rcases hc9 with rfl | rfl <;> rfl) (Nat.le_of_ble_eq_true rfl) rfl dX3_readCall_38 (fun v10 => ?_)
  refine go_iload_n (pc := 41) rfl dX3_readCall_41 ?_
  refine go_invS (pc := 42) (sl := 0) (s_X7_bit l (d + 2) hv8 a2) mL_X3_203 iM_X7_bit rfl rfl (Nat.le_of_ble_eq_true rfl) (show d + 2 + 1 + 1 ≤ d + 4 by omega) (show 8 + (1 + 11) + 40 * (d + 2 + 1) ≤ 40 * (d + 4) by omega) (g_c0 hv8.ln) (Nat.le_of_ble_eq_true rfl) dX3_readCall_42 ?_
  intro r h11 hq _
  obtain ⟨v12, rfl, rfl⟩ := hq
  refine gu_lor (pc := 45) dX3_readCall_45 (fun v13 => ?_)
  refine gi_putL (pc := 46) hv8 (fP_X3_199 _) (by rcases hc9 with rfl | rfl <;> rfl) (Nat.le_of_ble_eq_true rfl) rfl rfl rfl dX3_readCall_46 (fun h14 hv14 hv14e => ?_)
  have pr14 : PR h → PR h14 := fun z => by rw [hv14e]; exact pr8 z
  refine go_aload_n (pc := 49) rfl dX3_readCall_49 ?_
  refine go_bipush (pc := 50) (v := 40) (by decide) dX3_readCall_50 ?_
  have g15 : (0 : Int) ≤ (h14.2.1 34 1).toInt := (hv14.2.1 34 1).1
  have g16 : (h14.2.1 34 1).toInt ≤ 500 := (hv14.2.1 34 1).2
  have g17 : (0 : Int) ≤ (h14.2.1 34 2).toInt := (hv14.2.1 34 2).1
  have g18 : (h14.2.1 34 2).toInt ≤ 500 := (hv14.2.1 34 2).2
  have g19 : (0 : Int) ≤ (h14.2.1 34 7).toInt := (hv14.2.1 34 7).1
  have g20 : (h14.2.1 34 7).toInt ≤ 7 := (hv14.2.1 34 7).2
  have g21 : (h14.2.1 34 1).toInt = u34_1.toInt := by rw [← (show u34_1 = h14.2.1 34 1 from (show u34_1 = h14.2.1 34 1 from by rw [hv14e]; exact (show u34_1 = h8.2.1 34 1 from by rw [hv8e]; exact (g_iIc (by omega) (by decide) (g_iIc (by omega) (by decide) (show u34_1 = h4.2.1 34 1 from by rw [hv4e]; exact (g_iI rfl u34_1w.symm).symm).symm)).symm)))] <;> exact (ti_rfl u34_1)
  have g22 : (h14.2.1 34 7).toInt = u34_7.toInt := by rw [← (show u34_7 = h14.2.1 34 7 from (show u34_7 = h14.2.1 34 7 from by rw [hv14e]; exact (show u34_7 = h8.2.1 34 7 from by rw [hv8e]; exact (g_iIc (by omega) (by decide) (g_iIc (by omega) (by decide) (show u34_7 = h4.2.1 34 7 from by rw [hv4e]; exact (g_iI rfl u34_7w.symm).symm).symm)).symm)))] <;> exact (ti_rfl u34_7)
  have g23 : (h14.2.1 34 2).toInt = (u34_2.toInt + 1) := by rw [← (show v2 = h14.2.1 34 2 from (show v2 = h14.2.1 34 2 from by rw [hv14e]; exact (show v2 = h8.2.1 34 2 from by rw [hv8e]; exact (g_iIc (by omega) (by decide) (g_iIc (by omega) (by decide) (show v2 = h4.2.1 34 2 from by rw [hv4e]; exact g_iS.symm).symm)).symm)))] <;> exact e3
  refine go_invV (pc := 52) (sl := 0) (s_X3_take l (d + 1) hv14 40 (by rw [show (40 : Int32).toInt = 40 from (ti_c (v := 40) (a := 40) (by decide))]; omega) (by rw [show (40 : Int32).toInt = 40 from (ti_c (v := 40) (a := 40) (by decide))]; omega)) mL_X3_181 iM_X3_take sM_X3_take (hv14.sh rfl) rfl rfl rfl (Nat.le_of_ble_eq_true rfl) (show d + 1 + 2 + 1 ≤ d + 4 by omega) (show 8 + (2 + 11) + 40 * (d + 1 + 2) ≤ 40 * (d + 4) by omega) (g_c0 hv14.ln) (Nat.le_of_ble_eq_true rfl) dX3_readCall_52 ?_
  intro r h24 hq _
  obtain ⟨rfl, hv24, f25, f26, pt24⟩ := hq
  have pr24 : PR h → PR h24 := fun z => pt24 (pr14 z)
  try rw [show (40 : Int32).toInt = 40 from (ti_c (v := 40) (a := 40) (by decide))] at f25
  try rw [show (40 : Int32).toInt = 40 from (ti_c (v := 40) (a := 40) (by decide))] at f26
  obtain ⟨u27, u27w⟩ : ∃ v : Int32, v = h24.2.1 34 1 := ⟨_, rfl⟩
  have u27e : (h24.2.1 34 1).toInt = u27.toInt := by rw [u27w]
  have u27l : 0 ≤ u27.toInt := by rw [u27w]; exact (hv24.2.1 34 1).1
  have u27u : u27.toInt ≤ 500 := by rw [u27w]; exact (hv24.2.1 34 1).2
  obtain ⟨u28, u28w⟩ : ∃ v : Int32, v = h24.2.1 34 2 := ⟨_, rfl⟩
  have u28e : (h24.2.1 34 2).toInt = u28.toInt := by rw [u28w]
  have u28l : 0 ≤ u28.toInt := by rw [u28w]; exact (hv24.2.1 34 2).1
  have u28u : u28.toInt ≤ 500 := by rw [u28w]; exact (hv24.2.1 34 2).2
  obtain ⟨u29, u29w⟩ : ∃ v : Int32, v = h24.2.1 34 7 := ⟨_, rfl⟩
  have u29e : (h24.2.1 34 7).toInt = u29.toInt := by rw [u29w]
  have u29l : 0 ≤ u29.toInt := by rw [u29w]; exact (hv24.2.1 34 7).1
  have u29u : u29.toInt ≤ 7 := by rw [u29w]; exact (hv24.2.1 34 7).2
  refine go_aload_n (pc := 55) rfl dX3_readCall_55 ?_
  refine gi_getC (pc := 56) hv24 fL_X3_46 rfl (Nat.le_of_ble_eq_true rfl) rfl (by decide) dX3_readCall_56 (fun c30 hc30 fc30 => ?_)
  refine gi_getF (pc := 59) (q := c30 + 9) hv24 fL_X3_175 (by rcases hc30 with rfl | rfl <;> rfl) (Nat.le_of_ble_eq_true rfl) rfl (by rcases hc30 with rfl | rfl <;> exact hv24.rf (by decide)) dX3_readCall_59 ?_
  refine go_iload_n (pc := 62) rfl dX3_readCall_62 ?_
  refine go_aload_n (pc := 63) rfl dX3_readCall_63 ?_
  have g31 : (0 : Int) ≤ (h24.2.1 34 1).toInt := (hv24.2.1 34 1).1
  have g32 : (h24.2.1 34 1).toInt ≤ 500 := (hv24.2.1 34 1).2
  have g33 : (0 : Int) ≤ (h24.2.1 34 2).toInt := (hv24.2.1 34 2).1
  have g34 : (h24.2.1 34 2).toInt ≤ 500 := (hv24.2.1 34 2).2
  have g35 : (0 : Int) ≤ (h24.2.1 34 7).toInt := (hv24.2.1 34 7).1
  have g36 : (h24.2.1 34 7).toInt ≤ 7 := (hv24.2.1 34 7).2
  have g37 : (h24.2.1 34 1).toInt = u27.toInt := by rw [← (show u27 = h24.2.1 34 1 from u27w)] <;> exact (ti_rfl u27)
  have g38 : (h24.2.1 34 2).toInt = u28.toInt := by rw [← (show u28 = h24.2.1 34 2 from u28w)] <;> exact (ti_rfl u28)
  have g39 : (h24.2.1 34 7).toInt = u29.toInt := by rw [← (show u29 = h24.2.1 34 7 from u29w)] <;> exact (ti_rfl u29)
  refine go_invV (pc := 64) (sl := 0) (s_X3_readOperand l (d + 0) hv24 ) mL_X3_178 iM_X3_readOperand sM_X3_readOperand (hv24.sh rfl) rfl rfl rfl (Nat.le_of_ble_eq_true rfl) (show d + 0 + 3 + 1 ≤ d + 4 by omega) (show 8 + (3 + 11) + 40 * (d + 0 + 3) ≤ 40 * (d + 4) by omega) (g_c0 hv24.ln) (Nat.le_of_ble_eq_true rfl) dX3_readCall_64 ?_
  intro r h40 hq _
  obtain ⟨v43, rfl, v43l, v43u, hv40, f41, f42, pt40⟩ := hq
  have pr40 : PR h → PR h40 := fun z => pt40 (pr24 z)
  obtain ⟨u44, u44w⟩ : ∃ v : Int32, v = h40.2.1 34 1 := ⟨_, rfl⟩
  have u44e : (h40.2.1 34 1).toInt = u44.toInt := by rw [u44w]
  have u44l : 0 ≤ u44.toInt := by rw [u44w]; exact (hv40.2.1 34 1).1
  have u44u : u44.toInt ≤ 500 := by rw [u44w]; exact (hv40.2.1 34 1).2
  obtain ⟨u45, u45w⟩ : ∃ v : Int32, v = h40.2.1 34 2 := ⟨_, rfl⟩
  have u45e : (h40.2.1 34 2).toInt = u45.toInt := by rw [u45w]
  have u45l : 0 ≤ u45.toInt := by rw [u45w]; exact (hv40.2.1 34 2).1
  have u45u : u45.toInt ≤ 500 := by rw [u45w]; exact (hv40.2.1 34 2).2
  obtain ⟨u46, u46w⟩ : ∃ v : Int32, v = h40.2.1 34 7 := ⟨_, rfl⟩
  have u46e : (h40.2.1 34 7).toInt = u46.toInt := by rw [u46w]
  have u46l : 0 ≤ u46.toInt := by rw [u46w]; exact (hv40.2.1 34 7).1
  have u46u : u46.toInt ≤ 7 := by rw [u46w]; exact (hv40.2.1 34 7).2
  refine gi_iast (pc := 67) (lo := -2147483648) (hi := 2147483647) (len := 40) hv40 (ti_rfl a2) (ti_rfl v43) (by rcases hc30 with rfl | rfl <;> rfl) (by omega) (by omega) (fun _ => by rcases hc30 with rfl | rfl <;> rfl) (ti_ge (ti_rfl v43)) (ti_le2 (ti_rfl v43)) (by rcases hc30 with rfl | rfl <;> decide) dX3_readCall_67 (fun h47 hv47 hv47e => ?_)
  have pr47 : PR h → PR h47 := fun z => by rw [hv47e]; exact PR.put hv40 (pr40 z) (by omega)
  refine go_aload_n (pc := 68) rfl dX3_readCall_68 ?_
  refine go_bipush (pc := 69) (v := 44) (by decide) dX3_readCall_69 ?_
  have g48 : (0 : Int) ≤ (h47.2.1 34 1).toInt := (hv47.2.1 34 1).1
  have g49 : (h47.2.1 34 1).toInt ≤ 500 := (hv47.2.1 34 1).2
  have g50 : (0 : Int) ≤ (h47.2.1 34 2).toInt := (hv47.2.1 34 2).1
  have g51 : (h47.2.1 34 2).toInt ≤ 500 := (hv47.2.1 34 2).2
  have g52 : (0 : Int) ≤ (h47.2.1 34 7).toInt := (hv47.2.1 34 7).1
  have g53 : (h47.2.1 34 7).toInt ≤ 7 := (hv47.2.1 34 7).2
  have g54 : (h47.2.1 34 1).toInt = u44.toInt := by rw [← (show u44 = h47.2.1 34 1 from (show u44 = h47.2.1 34 1 from by rw [hv47e]; exact (g_iIc (by omega) (by decide) u44w.symm).symm))] <;> exact (ti_rfl u44)
  have g55 : (h47.2.1 34 2).toInt = u45.toInt := by rw [← (show u45 = h47.2.1 34 2 from (show u45 = h47.2.1 34 2 from by rw [hv47e]; exact (g_iIc (by omega) (by decide) u45w.symm).symm))] <;> exact (ti_rfl u45)
  have g56 : (h47.2.1 34 7).toInt = u46.toInt := by rw [← (show u46 = h47.2.1 34 7 from (show u46 = h47.2.1 34 7 from by rw [hv47e]; exact (g_iIc (by omega) (by decide) u46w.symm).symm))] <;> exact (ti_rfl u46)
  refine go_invV (pc := 71) (sl := 0) (s_X3_take l (d + 1) hv47 44 (by rw [show (44 : Int32).toInt = 44 from (ti_c (v := 44) (a := 44) (by decide))]; omega) (by rw [show (44 : Int32).toInt = 44 from (ti_c (v := 44) (a := 44) (by decide))]; omega)) mL_X3_181 iM_X3_take sM_X3_take (hv47.sh rfl) rfl rfl rfl (Nat.le_of_ble_eq_true rfl) (show d + 1 + 2 + 1 ≤ d + 4 by omega) (show 8 + (2 + 11) + 40 * (d + 1 + 2) ≤ 40 * (d + 4) by omega) (g_c0 hv47.ln) (Nat.le_of_ble_eq_true rfl) dX3_readCall_71 ?_
  intro r h57 hq _
  obtain ⟨rfl, hv57, f58, f59, pt57⟩ := hq
  have pr57 : PR h → PR h57 := fun z => pt57 (pr47 z)
  try rw [show (44 : Int32).toInt = 44 from (ti_c (v := 44) (a := 44) (by decide))] at f58
  try rw [show (44 : Int32).toInt = 44 from (ti_c (v := 44) (a := 44) (by decide))] at f59
  obtain ⟨u60, u60w⟩ : ∃ v : Int32, v = h57.2.1 34 1 := ⟨_, rfl⟩
  have u60e : (h57.2.1 34 1).toInt = u60.toInt := by rw [u60w]
  have u60l : 0 ≤ u60.toInt := by rw [u60w]; exact (hv57.2.1 34 1).1
  have u60u : u60.toInt ≤ 500 := by rw [u60w]; exact (hv57.2.1 34 1).2
  obtain ⟨u61, u61w⟩ : ∃ v : Int32, v = h57.2.1 34 2 := ⟨_, rfl⟩
  have u61e : (h57.2.1 34 2).toInt = u61.toInt := by rw [u61w]
  have u61l : 0 ≤ u61.toInt := by rw [u61w]; exact (hv57.2.1 34 2).1
  have u61u : u61.toInt ≤ 500 := by rw [u61w]; exact (hv57.2.1 34 2).2
  obtain ⟨u62, u62w⟩ : ∃ v : Int32, v = h57.2.1 34 7 := ⟨_, rfl⟩
  have u62e : (h57.2.1 34 7).toInt = u62.toInt := by rw [u62w]
  have u62l : 0 ≤ u62.toInt := by rw [u62w]; exact (hv57.2.1 34 7).1
  have u62u : u62.toInt ≤ 7 := by rw [u62w]; exact (hv57.2.1 34 7).2
  refine go_aload_n (pc := 74) rfl dX3_readCall_74 ?_
  refine gi_getC (pc := 75) hv57 fL_X3_46 rfl (Nat.le_of_ble_eq_true rfl) rfl (by decide) dX3_readCall_75 (fun c63 hc63 fc63 => ?_)
  refine gi_getF (pc := 78) (q := c63 + 10) hv57 fL_X3_184 (by rcases hc63 with rfl | rfl <;> rfl) (Nat.le_of_ble_eq_true rfl) rfl (by rcases hc63 with rfl | rfl <;> exact hv57.rf (by decide)) dX3_readCall_78 ?_
  refine go_iload_n (pc := 81) rfl dX3_readCall_81 ?_
  refine go_aload_n (pc := 82) rfl dX3_readCall_82 ?_
  have g64 : (0 : Int) ≤ (h57.2.1 34 1).toInt := (hv57.2.1 34 1).1
  have g65 : (h57.2.1 34 1).toInt ≤ 500 := (hv57.2.1 34 1).2
  have g66 : (0 : Int) ≤ (h57.2.1 34 2).toInt := (hv57.2.1 34 2).1
  have g67 : (h57.2.1 34 2).toInt ≤ 500 := (hv57.2.1 34 2).2
  have g68 : (0 : Int) ≤ (h57.2.1 34 7).toInt := (hv57.2.1 34 7).1
  have g69 : (h57.2.1 34 7).toInt ≤ 7 := (hv57.2.1 34 7).2
  have g70 : (h57.2.1 34 1).toInt = u60.toInt := by rw [← (show u60 = h57.2.1 34 1 from u60w)] <;> exact (ti_rfl u60)
  have g71 : (h57.2.1 34 2).toInt = u61.toInt := by rw [← (show u61 = h57.2.1 34 2 from u61w)] <;> exact (ti_rfl u61)
  have g72 : (h57.2.1 34 7).toInt = u62.toInt := by rw [← (show u62 = h57.2.1 34 7 from u62w)] <;> exact (ti_rfl u62)
  refine go_invV (pc := 83) (sl := 0) (s_X3_readOperand l (d + 0) hv57 ) mL_X3_178 iM_X3_readOperand sM_X3_readOperand (hv57.sh rfl) rfl rfl rfl (Nat.le_of_ble_eq_true rfl) (show d + 0 + 3 + 1 ≤ d + 4 by omega) (show 8 + (3 + 11) + 40 * (d + 0 + 3) ≤ 40 * (d + 4) by omega) (g_c0 hv57.ln) (Nat.le_of_ble_eq_true rfl) dX3_readCall_83 ?_
  intro r h73 hq _
  obtain ⟨v76, rfl, v76l, v76u, hv73, f74, f75, pt73⟩ := hq
  have pr73 : PR h → PR h73 := fun z => pt73 (pr57 z)
  obtain ⟨u77, u77w⟩ : ∃ v : Int32, v = h73.2.1 34 1 := ⟨_, rfl⟩
  have u77e : (h73.2.1 34 1).toInt = u77.toInt := by rw [u77w]
  have u77l : 0 ≤ u77.toInt := by rw [u77w]; exact (hv73.2.1 34 1).1
  have u77u : u77.toInt ≤ 500 := by rw [u77w]; exact (hv73.2.1 34 1).2
  obtain ⟨u78, u78w⟩ : ∃ v : Int32, v = h73.2.1 34 2 := ⟨_, rfl⟩
  have u78e : (h73.2.1 34 2).toInt = u78.toInt := by rw [u78w]
  have u78l : 0 ≤ u78.toInt := by rw [u78w]; exact (hv73.2.1 34 2).1
  have u78u : u78.toInt ≤ 500 := by rw [u78w]; exact (hv73.2.1 34 2).2
  obtain ⟨u79, u79w⟩ : ∃ v : Int32, v = h73.2.1 34 7 := ⟨_, rfl⟩
  have u79e : (h73.2.1 34 7).toInt = u79.toInt := by rw [u79w]
  have u79l : 0 ≤ u79.toInt := by rw [u79w]; exact (hv73.2.1 34 7).1
  have u79u : u79.toInt ≤ 7 := by rw [u79w]; exact (hv73.2.1 34 7).2
  refine gi_iast (pc := 86) (lo := -2147483648) (hi := 2147483647) (len := 40) hv73 (ti_rfl a2) (ti_rfl v76) (by rcases hc63 with rfl | rfl <;> rfl) (by omega) (by omega) (fun _ => by rcases hc63 with rfl | rfl <;> rfl) (ti_ge (ti_rfl v76)) (ti_le2 (ti_rfl v76)) (by rcases hc63 with rfl | rfl <;> decide) dX3_readCall_86 (fun h80 hv80 hv80e => ?_)
  have pr80 : PR h → PR h80 := fun z => by rw [hv80e]; exact PR.put hv73 (pr73 z) (by omega)
  refine go_aload_n (pc := 87) rfl dX3_readCall_87 ?_
  refine go_bipush (pc := 88) (v := 41) (by decide) dX3_readCall_88 ?_
  have g81 : (0 : Int) ≤ (h80.2.1 34 1).toInt := (hv80.2.1 34 1).1
  have g82 : (h80.2.1 34 1).toInt ≤ 500 := (hv80.2.1 34 1).2
  have g83 : (0 : Int) ≤ (h80.2.1 34 2).toInt := (hv80.2.1 34 2).1
  have g84 : (h80.2.1 34 2).toInt ≤ 500 := (hv80.2.1 34 2).2
  have g85 : (0 : Int) ≤ (h80.2.1 34 7).toInt := (hv80.2.1 34 7).1
  have g86 : (h80.2.1 34 7).toInt ≤ 7 := (hv80.2.1 34 7).2
  have g87 : (h80.2.1 34 1).toInt = u77.toInt := by rw [← (show u77 = h80.2.1 34 1 from (show u77 = h80.2.1 34 1 from by rw [hv80e]; exact (g_iIc (by omega) (by decide) u77w.symm).symm))] <;> exact (ti_rfl u77)
  have g88 : (h80.2.1 34 2).toInt = u78.toInt := by rw [← (show u78 = h80.2.1 34 2 from (show u78 = h80.2.1 34 2 from by rw [hv80e]; exact (g_iIc (by omega) (by decide) u78w.symm).symm))] <;> exact (ti_rfl u78)
  have g89 : (h80.2.1 34 7).toInt = u79.toInt := by rw [← (show u79 = h80.2.1 34 7 from (show u79 = h80.2.1 34 7 from by rw [hv80e]; exact (g_iIc (by omega) (by decide) u79w.symm).symm))] <;> exact (ti_rfl u79)
  refine go_invV (pc := 90) (sl := 0) (s_X3_take l (d + 1) hv80 41 (by rw [show (41 : Int32).toInt = 41 from (ti_c (v := 41) (a := 41) (by decide))]; omega) (by rw [show (41 : Int32).toInt = 41 from (ti_c (v := 41) (a := 41) (by decide))]; omega)) mL_X3_181 iM_X3_take sM_X3_take (hv80.sh rfl) rfl rfl rfl (Nat.le_of_ble_eq_true rfl) (show d + 1 + 2 + 1 ≤ d + 4 by omega) (show 8 + (2 + 11) + 40 * (d + 1 + 2) ≤ 40 * (d + 4) by omega) (g_c0 hv80.ln) (Nat.le_of_ble_eq_true rfl) dX3_readCall_90 ?_
  intro r h90 hq _
  obtain ⟨rfl, hv90, f91, f92, pt90⟩ := hq
  have pr90 : PR h → PR h90 := fun z => pt90 (pr80 z)
  try rw [show (41 : Int32).toInt = 41 from (ti_c (v := 41) (a := 41) (by decide))] at f91
  try rw [show (41 : Int32).toInt = 41 from (ti_c (v := 41) (a := 41) (by decide))] at f92
  obtain ⟨u93, u93w⟩ : ∃ v : Int32, v = h90.2.1 34 1 := ⟨_, rfl⟩
  have u93e : (h90.2.1 34 1).toInt = u93.toInt := by rw [u93w]
  have u93l : 0 ≤ u93.toInt := by rw [u93w]; exact (hv90.2.1 34 1).1
  have u93u : u93.toInt ≤ 500 := by rw [u93w]; exact (hv90.2.1 34 1).2
  obtain ⟨u94, u94w⟩ : ∃ v : Int32, v = h90.2.1 34 2 := ⟨_, rfl⟩
  have u94e : (h90.2.1 34 2).toInt = u94.toInt := by rw [u94w]
  have u94l : 0 ≤ u94.toInt := by rw [u94w]; exact (hv90.2.1 34 2).1
  have u94u : u94.toInt ≤ 500 := by rw [u94w]; exact (hv90.2.1 34 2).2
  obtain ⟨u95, u95w⟩ : ∃ v : Int32, v = h90.2.1 34 7 := ⟨_, rfl⟩
  have u95e : (h90.2.1 34 7).toInt = u95.toInt := by rw [u95w]
  have u95l : 0 ≤ u95.toInt := by rw [u95w]; exact (hv90.2.1 34 7).1
  have u95u : u95.toInt ≤ 7 := by rw [u95w]; exact (hv90.2.1 34 7).2
  have g96 : (0 : Int) ≤ (h90.2.1 34 1).toInt := (hv90.2.1 34 1).1
  have g97 : (h90.2.1 34 1).toInt ≤ 500 := (hv90.2.1 34 1).2
  have g98 : (0 : Int) ≤ (h90.2.1 34 2).toInt := (hv90.2.1 34 2).1
  have g99 : (h90.2.1 34 2).toInt ≤ 500 := (hv90.2.1 34 2).2
  have g100 : (0 : Int) ≤ (h90.2.1 34 7).toInt := (hv90.2.1 34 7).1
  have g101 : (h90.2.1 34 7).toInt ≤ 7 := (hv90.2.1 34 7).2
  have g102 : (h90.2.1 34 1).toInt = u93.toInt := by rw [← (show u93 = h90.2.1 34 1 from u93w)] <;> exact (ti_rfl u93)
  have g103 : (h90.2.1 34 2).toInt = u94.toInt := by rw [← (show u94 = h90.2.1 34 2 from u94w)] <;> exact (ti_rfl u94)
  have g104 : (h90.2.1 34 7).toInt = u95.toInt := by rw [← (show u95 = h90.2.1 34 7 from u95w)] <;> exact (ti_rfl u95)
  exact gi_vret (pc := 93) ⟨rfl, ⟨(P.1, P.2.1, h8.2.1, P.2.2.2), hv90, (by show (0 : Int) = 0; omega), rfl, rfl, rfl⟩, (by omega), (by omega), pr90⟩ hv90 dX3_readCall_93
set_option maxHeartbeats 4000000 in
set_option maxRecDepth 100000 in
theorem s_X3_readAssignment (l : Launch) (d : Nat) {P : PP} {h : HP} (hv : Iv P h) (a2 : Int32) (a2l : 0 ≤ a2.toInt) (a2u : a2.toInt ≤ 39) (a3 : Int32) (a3l : -1 ≤ a3.toInt) (a3u : a3.toInt ≤ 9) : Mt l yX3_readAssignment cX3_readAssignment 4 none (d + 5) [.ref 34, .int a2, .int a3] h 0 0 (fun r h' => r = none ∧ (∃ Q : PP, Iv Q h' ∧ ((0 : Int) = 0) ∧ Q.1 = P.1 ∧ Q.2.1 = P.2.1 ∧ Q.2.2.2 = P.2.2.2) ∧ ((h'.2.1 34 1).toInt = (h.2.1 34 1).toInt) ∧ ((h'.2.1 34 7).toInt = (h.2.1 34 7).toInt) ∧ (PR h → PR h')) := by
  refine Mt_iv hv (by decide) (Nat.le_of_ble_eq_true rfl) ?_
  show Go l RX3 cX3_readAssignment 4 (g_rm (d + 5) 0 0) "readAssignment" none 117 0 0 (fun _ _ => True) (fun r h' => r = none ∧ (∃ Q : PP, Iv Q h' ∧ ((0 : Int) = 0) ∧ Q.1 = P.1 ∧ Q.2.1 = P.2.1 ∧ Q.2.2.2 = P.2.2.2) ∧ ((h'.2.1 34 1).toInt = (h.2.1 34 1).toInt) ∧ ((h'.2.1 34 7).toInt = (h.2.1 34 7).toInt) ∧ (PR h → PR h')) 0 0 [(0, .ref 34), (1, .int a2), (2, .int a3)] [] h
  have pr : PR h → PR h := id
  obtain ⟨u34_2, u34_2w⟩ : ∃ v : Int32, v = h.2.1 34 2 := ⟨_, rfl⟩
  have u34_2e : (h.2.1 34 2).toInt = u34_2.toInt := by rw [u34_2w]
  have u34_2l : 0 ≤ u34_2.toInt := by rw [u34_2w]; exact (hv.2.1 34 2).1
  have u34_2u : u34_2.toInt ≤ 500 := by rw [u34_2w]; exact (hv.2.1 34 2).2
  obtain ⟨u34_1, u34_1w⟩ : ∃ v : Int32, v = h.2.1 34 1 := ⟨_, rfl⟩
  have u34_1e : (h.2.1 34 1).toInt = u34_1.toInt := by rw [u34_1w]
  have u34_1l : 0 ≤ u34_1.toInt := by rw [u34_1w]; exact (hv.2.1 34 1).1
  have u34_1u : u34_1.toInt ≤ 500 := by rw [u34_1w]; exact (hv.2.1 34 1).2
  obtain ⟨u34_7, u34_7w⟩ : ∃ v : Int32, v = h.2.1 34 7 := ⟨_, rfl⟩
  have u34_7e : (h.2.1 34 7).toInt = u34_7.toInt := by rw [u34_7w]
  have u34_7l : 0 ≤ u34_7.toInt := by rw [u34_7w]; exact (hv.2.1 34 7).1
  have u34_7u : u34_7.toInt ≤ 7 := by rw [u34_7w]; exact (hv.2.1 34 7).2
  refine go_aload_n (pc := 0) rfl dX3_readAssignment_0 ?_
  refine gi_getC (pc := 1) hv fL_X3_46 rfl (Nat.le_of_ble_eq_true rfl) rfl (by decide) dX3_readAssignment_1 (fun c1 hc1 fc1 => ?_)
  refine gi_getF (pc := 4) (q := c1 + 6) hv fL_X3_187 (by rcases hc1 with rfl | rfl <;> rfl) (Nat.le_of_ble_eq_true rfl) rfl (by rcases hc1 with rfl | rfl <;> exact hv.rf (by decide)) dX3_readAssignment_4 ?_
  refine go_iload_n (pc := 7) rfl dX3_readAssignment_7 ?_
  refine go_iload_n (pc := 8) rfl dX3_readAssignment_8 ?_
  refine gi_iast (pc := 9) (lo := -1) (hi := 9) (len := 40) hv (ti_rfl a2) (ti_rfl a3) (by rcases hc1 with rfl | rfl <;> rfl) (by omega) (by omega) (fun _ => by rcases hc1 with rfl | rfl <;> rfl) (by omega) (by omega) (by rcases hc1 with rfl | rfl <;> decide) dX3_readAssignment_9 (fun h2 hv2 hv2e => ?_)
  have pr2 : PR h → PR h2 := fun z => by rw [hv2e]; exact PR.put hv (pr z) (by omega)
  refine go_aload_n (pc := 10) rfl dX3_readAssignment_10 ?_
  refine go_bipush (pc := 11) (v := 61) (by decide) dX3_readAssignment_11 ?_
  have g3 : (0 : Int) ≤ (h2.2.1 34 1).toInt := (hv2.2.1 34 1).1
  have g4 : (h2.2.1 34 1).toInt ≤ 500 := (hv2.2.1 34 1).2
  have g5 : (0 : Int) ≤ (h2.2.1 34 2).toInt := (hv2.2.1 34 2).1
  have g6 : (h2.2.1 34 2).toInt ≤ 500 := (hv2.2.1 34 2).2
  have g7 : (0 : Int) ≤ (h2.2.1 34 7).toInt := (hv2.2.1 34 7).1
  have g8 : (h2.2.1 34 7).toInt ≤ 7 := (hv2.2.1 34 7).2
  have g9 : (h2.2.1 34 2).toInt = u34_2.toInt := by rw [← (show u34_2 = h2.2.1 34 2 from (show u34_2 = h2.2.1 34 2 from by rw [hv2e]; exact (g_iIc (by omega) (by decide) u34_2w.symm).symm))] <;> exact (ti_rfl u34_2)
  have g10 : (h2.2.1 34 1).toInt = u34_1.toInt := by rw [← (show u34_1 = h2.2.1 34 1 from (show u34_1 = h2.2.1 34 1 from by rw [hv2e]; exact (g_iIc (by omega) (by decide) u34_1w.symm).symm))] <;> exact (ti_rfl u34_1)
  have g11 : (h2.2.1 34 7).toInt = u34_7.toInt := by rw [← (show u34_7 = h2.2.1 34 7 from (show u34_7 = h2.2.1 34 7 from by rw [hv2e]; exact (g_iIc (by omega) (by decide) u34_7w.symm).symm))] <;> exact (ti_rfl u34_7)
  refine go_invV (pc := 13) (sl := 0) (s_X3_take l (d + 2) hv2 61 (by rw [show (61 : Int32).toInt = 61 from (ti_c (v := 61) (a := 61) (by decide))]; omega) (by rw [show (61 : Int32).toInt = 61 from (ti_c (v := 61) (a := 61) (by decide))]; omega)) mL_X3_181 iM_X3_take sM_X3_take (hv2.sh rfl) rfl rfl rfl (Nat.le_of_ble_eq_true rfl) (show d + 2 + 2 + 1 ≤ d + 5 by omega) (show 8 + (2 + 11) + 40 * (d + 2 + 2) ≤ 40 * (d + 5) by omega) (g_c0 hv2.ln) (Nat.le_of_ble_eq_true rfl) dX3_readAssignment_13 ?_
  intro r h12 hq _
  obtain ⟨rfl, hv12, f13, f14, pt12⟩ := hq
  have pr12 : PR h → PR h12 := fun z => pt12 (pr2 z)
  try rw [show (61 : Int32).toInt = 61 from (ti_c (v := 61) (a := 61) (by decide))] at f13
  try rw [show (61 : Int32).toInt = 61 from (ti_c (v := 61) (a := 61) (by decide))] at f14
  obtain ⟨u15, u15w⟩ : ∃ v : Int32, v = h12.2.1 34 1 := ⟨_, rfl⟩
  have u15e : (h12.2.1 34 1).toInt = u15.toInt := by rw [u15w]
  have u15l : 0 ≤ u15.toInt := by rw [u15w]; exact (hv12.2.1 34 1).1
  have u15u : u15.toInt ≤ 500 := by rw [u15w]; exact (hv12.2.1 34 1).2
  obtain ⟨u16, u16w⟩ : ∃ v : Int32, v = h12.2.1 34 2 := ⟨_, rfl⟩
  have u16e : (h12.2.1 34 2).toInt = u16.toInt := by rw [u16w]
  have u16l : 0 ≤ u16.toInt := by rw [u16w]; exact (hv12.2.1 34 2).1
  have u16u : u16.toInt ≤ 500 := by rw [u16w]; exact (hv12.2.1 34 2).2
  obtain ⟨u17, u17w⟩ : ∃ v : Int32, v = h12.2.1 34 7 := ⟨_, rfl⟩
  have u17e : (h12.2.1 34 7).toInt = u17.toInt := by rw [u17w]
  have u17l : 0 ≤ u17.toInt := by rw [u17w]; exact (hv12.2.1 34 7).1
  have u17u : u17.toInt ≤ 7 := by rw [u17w]; exact (hv12.2.1 34 7).2
  refine go_aload_n (pc := 16) rfl dX3_readAssignment_16 ?_
  have g18 : (0 : Int) ≤ (h12.2.1 34 1).toInt := (hv12.2.1 34 1).1
  have g19 : (h12.2.1 34 1).toInt ≤ 500 := (hv12.2.1 34 1).2
  have g20 : (0 : Int) ≤ (h12.2.1 34 2).toInt := (hv12.2.1 34 2).1
  have g21 : (h12.2.1 34 2).toInt ≤ 500 := (hv12.2.1 34 2).2
  have g22 : (0 : Int) ≤ (h12.2.1 34 7).toInt := (hv12.2.1 34 7).1
  have g23 : (h12.2.1 34 7).toInt ≤ 7 := (hv12.2.1 34 7).2
  have g24 : (h12.2.1 34 1).toInt = u15.toInt := by rw [← (show u15 = h12.2.1 34 1 from u15w)] <;> exact (ti_rfl u15)
  have g25 : (h12.2.1 34 2).toInt = u16.toInt := by rw [← (show u16 = h12.2.1 34 2 from u16w)] <;> exact (ti_rfl u16)
  have g26 : (h12.2.1 34 7).toInt = u17.toInt := by rw [← (show u17 = h12.2.1 34 7 from u17w)] <;> exact (ti_rfl u17)
  refine go_invV (pc := 17) (sl := 0) (s_X3_look l (d + 3) hv12 ) mL_X3_66 iM_X3_look sM_X3_look (hv12.sh rfl) rfl rfl rfl (Nat.le_of_ble_eq_true rfl) (show d + 3 + 1 + 1 ≤ d + 5 by omega) (show 8 + (1 + 11) + 40 * (d + 3 + 1) ≤ 40 * (d + 5) by omega) (g_c0 hv12.ln) (Nat.le_of_ble_eq_true rfl) dX3_readAssignment_17 ?_
  intro r h27 hq _
  obtain ⟨v31, rfl, v31l, v31u, hv27, f28, f29, f30, pt27⟩ := hq
  have pr27 : PR h → PR h27 := fun z => pt27 (pr12 z)
  obtain ⟨u32, u32w⟩ : ∃ v : Int32, v = h27.2.1 34 1 := ⟨_, rfl⟩
  have u32e : (h27.2.1 34 1).toInt = u32.toInt := by rw [u32w]
  have u32l : 0 ≤ u32.toInt := by rw [u32w]; exact (hv27.2.1 34 1).1
  have u32u : u32.toInt ≤ 500 := by rw [u32w]; exact (hv27.2.1 34 1).2
  obtain ⟨u33, u33w⟩ : ∃ v : Int32, v = h27.2.1 34 2 := ⟨_, rfl⟩
  have u33e : (h27.2.1 34 2).toInt = u33.toInt := by rw [u33w]
  have u33l : 0 ≤ u33.toInt := by rw [u33w]; exact (hv27.2.1 34 2).1
  have u33u : u33.toInt ≤ 500 := by rw [u33w]; exact (hv27.2.1 34 2).2
  obtain ⟨u34, u34w⟩ : ∃ v : Int32, v = h27.2.1 34 7 := ⟨_, rfl⟩
  have u34e : (h27.2.1 34 7).toInt = u34.toInt := by rw [u34w]
  have u34l : 0 ≤ u34.toInt := by rw [u34w]; exact (hv27.2.1 34 7).1
  have u34u : u34.toInt ≤ 7 := by rw [u34w]; exact (hv27.2.1 34 7).2
  refine go_istore_n (pc := 20) (Nat.le_of_ble_eq_true rfl) dX3_readAssignment_20 (go_lv (lv2 := [(0, .ref 34), (1, .int a2), (2, .int a3), (3, .int v31)]) rfl ?_)
  refine go_iload_n (pc := 21) rfl dX3_readAssignment_21 ?_
  refine go_bipush (pc := 22) (v := 65) (by decide) dX3_readAssignment_22 ?_
  refine gf_icmp_lt (pc := 24) (tgt := 49) (ti_rfl v31) (ti_c (v := 65) (a := 65) (by decide)) (by decide) dX3_readAssignment_24 (fun q35 => ?_) (fun q35 => ?_)
  ·
    refine go_aload_n (pc := 49) rfl dX3_readAssignment_49 ?_
    refine go_iload_n (pc := 50) rfl dX3_readAssignment_50 ?_
    have g36 : (0 : Int) ≤ (h27.2.1 34 1).toInt := (hv27.2.1 34 1).1
    have g37 : (h27.2.1 34 1).toInt ≤ 500 := (hv27.2.1 34 1).2
    have g38 : (0 : Int) ≤ (h27.2.1 34 2).toInt := (hv27.2.1 34 2).1
    have g39 : (h27.2.1 34 2).toInt ≤ 500 := (hv27.2.1 34 2).2
    have g40 : (0 : Int) ≤ (h27.2.1 34 7).toInt := (hv27.2.1 34 7).1
    have g41 : (h27.2.1 34 7).toInt ≤ 7 := (hv27.2.1 34 7).2
    have g42 : (h27.2.1 34 1).toInt = u32.toInt := by rw [← (show u32 = h27.2.1 34 1 from u32w)] <;> exact (ti_rfl u32)
    have g43 : (h27.2.1 34 2).toInt = u33.toInt := by rw [← (show u33 = h27.2.1 34 2 from u33w)] <;> exact (ti_rfl u33)
    have g44 : (h27.2.1 34 7).toInt = u34.toInt := by rw [← (show u34 = h27.2.1 34 7 from u34w)] <;> exact (ti_rfl u34)
    refine go_invV (pc := 51) (sl := 0) (s_X3_readNumbers l (d + 0) hv27 a2 (by rw [show (a2 : Int32).toInt = a2.toInt from (ti_rfl a2)]; omega) (by rw [show (a2 : Int32).toInt = a2.toInt from (ti_rfl a2)]; omega)) mL_X3_193 iM_X3_readNumbers sM_X3_readNumbers (hv27.sh rfl) rfl rfl rfl (Nat.le_of_ble_eq_true rfl) (show d + 0 + 4 + 1 ≤ d + 5 by omega) (show 8 + (3 + 11) + 40 * (d + 0 + 4) ≤ 40 * (d + 5) by omega) (g_c0 hv27.ln) (Nat.le_of_ble_eq_true rfl) dX3_readAssignment_51 ?_
    intro r h45 hq _
    obtain ⟨rfl, hv45, f46, f47, pt45⟩ := hq
    have pr45 : PR h → PR h45 := fun z => pt45 (pr27 z)
    obtain ⟨u48, u48w⟩ : ∃ v : Int32, v = h45.2.1 34 1 := ⟨_, rfl⟩
    have u48e : (h45.2.1 34 1).toInt = u48.toInt := by rw [u48w]
    have u48l : 0 ≤ u48.toInt := by rw [u48w]; exact (hv45.2.1 34 1).1
    have u48u : u48.toInt ≤ 500 := by rw [u48w]; exact (hv45.2.1 34 1).2
    obtain ⟨u49, u49w⟩ : ∃ v : Int32, v = h45.2.1 34 2 := ⟨_, rfl⟩
    have u49e : (h45.2.1 34 2).toInt = u49.toInt := by rw [u49w]
    have u49l : 0 ≤ u49.toInt := by rw [u49w]; exact (hv45.2.1 34 2).1
    have u49u : u49.toInt ≤ 500 := by rw [u49w]; exact (hv45.2.1 34 2).2
    obtain ⟨u50, u50w⟩ : ∃ v : Int32, v = h45.2.1 34 7 := ⟨_, rfl⟩
    have u50e : (h45.2.1 34 7).toInt = u50.toInt := by rw [u50w]
    have u50l : 0 ≤ u50.toInt := by rw [u50w]; exact (hv45.2.1 34 7).1
    have u50u : u50.toInt ≤ 7 := by rw [u50w]; exact (hv45.2.1 34 7).2
    refine go_aload_n (pc := 54) rfl dX3_readAssignment_54 ?_
    refine go_bipush (pc := 55) (v := 59) (by decide) dX3_readAssignment_55 ?_
    have g51 : (0 : Int) ≤ (h45.2.1 34 1).toInt := (hv45.2.1 34 1).1
    have g52 : (h45.2.1 34 1).toInt ≤ 500 := (hv45.2.1 34 1).2
    have g53 : (0 : Int) ≤ (h45.2.1 34 2).toInt := (hv45.2.1 34 2).1
    have g54 : (h45.2.1 34 2).toInt ≤ 500 := (hv45.2.1 34 2).2
    have g55 : (0 : Int) ≤ (h45.2.1 34 7).toInt := (hv45.2.1 34 7).1
    have g56 : (h45.2.1 34 7).toInt ≤ 7 := (hv45.2.1 34 7).2
    have g57 : (h45.2.1 34 1).toInt = u48.toInt := by rw [← (show u48 = h45.2.1 34 1 from u48w)] <;> exact (ti_rfl u48)
    have g58 : (h45.2.1 34 2).toInt = u49.toInt := by rw [← (show u49 = h45.2.1 34 2 from u49w)] <;> exact (ti_rfl u49)
    have g59 : (h45.2.1 34 7).toInt = u50.toInt := by rw [← (show u50 = h45.2.1 34 7 from u50w)] <;> exact (ti_rfl u50)
    refine go_invV (pc := 57) (sl := 0) (s_X3_take l (d + 2) hv45 59 (by rw [show (59 : Int32).toInt = 59 from (ti_c (v := 59) (a := 59) (by decide))]; omega) (by rw [show (59 : Int32).toInt = 59 from (ti_c (v := 59) (a := 59) (by decide))]; omega)) mL_X3_181 iM_X3_take sM_X3_take (hv45.sh rfl) rfl rfl rfl (Nat.le_of_ble_eq_true rfl) (show d + 2 + 2 + 1 ≤ d + 5 by omega) (show 8 + (2 + 11) + 40 * (d + 2 + 2) ≤ 40 * (d + 5) by omega) (g_c0 hv45.ln) (Nat.le_of_ble_eq_true rfl) dX3_readAssignment_57 ?_
    intro r h60 hq _
    obtain ⟨rfl, hv60, f61, f62, pt60⟩ := hq
    have pr60 : PR h → PR h60 := fun z => pt60 (pr45 z)
    try rw [show (59 : Int32).toInt = 59 from (ti_c (v := 59) (a := 59) (by decide))] at f61
    try rw [show (59 : Int32).toInt = 59 from (ti_c (v := 59) (a := 59) (by decide))] at f62
    obtain ⟨u63, u63w⟩ : ∃ v : Int32, v = h60.2.1 34 1 := ⟨_, rfl⟩
    have u63e : (h60.2.1 34 1).toInt = u63.toInt := by rw [u63w]
    have u63l : 0 ≤ u63.toInt := by rw [u63w]; exact (hv60.2.1 34 1).1
    have u63u : u63.toInt ≤ 500 := by rw [u63w]; exact (hv60.2.1 34 1).2
    obtain ⟨u64, u64w⟩ : ∃ v : Int32, v = h60.2.1 34 2 := ⟨_, rfl⟩
    have u64e : (h60.2.1 34 2).toInt = u64.toInt := by rw [u64w]
    have u64l : 0 ≤ u64.toInt := by rw [u64w]; exact (hv60.2.1 34 2).1
    have u64u : u64.toInt ≤ 500 := by rw [u64w]; exact (hv60.2.1 34 2).2
    obtain ⟨u65, u65w⟩ : ∃ v : Int32, v = h60.2.1 34 7 := ⟨_, rfl⟩
    have u65e : (h60.2.1 34 7).toInt = u65.toInt := by rw [u65w]
    have u65l : 0 ≤ u65.toInt := by rw [u65w]; exact (hv60.2.1 34 7).1
    have u65u : u65.toInt ≤ 7 := by rw [u65w]; exact (hv60.2.1 34 7).2
    have g66 : (0 : Int) ≤ (h60.2.1 34 1).toInt := (hv60.2.1 34 1).1
    have g67 : (h60.2.1 34 1).toInt ≤ 500 := (hv60.2.1 34 1).2
    have g68 : (0 : Int) ≤ (h60.2.1 34 2).toInt := (hv60.2.1 34 2).1
    have g69 : (h60.2.1 34 2).toInt ≤ 500 := (hv60.2.1 34 2).2
    have g70 : (0 : Int) ≤ (h60.2.1 34 7).toInt := (hv60.2.1 34 7).1
    have g71 : (h60.2.1 34 7).toInt ≤ 7 := (hv60.2.1 34 7).2
    have g72 : (h60.2.1 34 1).toInt = u63.toInt := by rw [← (show u63 = h60.2.1 34 1 from u63w)] <;> exact (ti_rfl u63)
    have g73 : (h60.2.1 34 2).toInt = u64.toInt := by rw [← (show u64 = h60.2.1 34 2 from u64w)] <;> exact (ti_rfl u64)
    have g74 : (h60.2.1 34 7).toInt = u65.toInt := by rw [← (show u65 = h60.2.1 34 7 from u65w)] <;> exact (ti_rfl u65)
    exact gi_vret (pc := 60) ⟨rfl, ⟨P, hv60, (by show (0 : Int) = 0; omega), rfl, rfl, rfl⟩, (by omega), (by omega), pr60⟩ hv60 dX3_readAssignment_60
  ·
    refine go_iload_n (pc := 27) rfl dX3_readAssignment_27 ?_
    refine go_bipush (pc := 28) (v := 70) (by decide) dX3_readAssignment_28 ?_
    refine gf_icmp_ge (pc := 30) (tgt := 49) (ti_rfl v31) (ti_c (v := 70) (a := 70) (by decide)) (by decide) dX3_readAssignment_30 (fun q75 => ?_) (fun q75 => ?_)
    ·
      refine go_aload_n (pc := 49) rfl dX3_readAssignment_49 ?_
      refine go_iload_n (pc := 50) rfl dX3_readAssignment_50 ?_
      have g76 : (0 : Int) ≤ (h27.2.1 34 1).toInt := (hv27.2.1 34 1).1
      have g77 : (h27.2.1 34 1).toInt ≤ 500 := (hv27.2.1 34 1).2
      have g78 : (0 : Int) ≤ (h27.2.1 34 2).toInt := (hv27.2.1 34 2).1
      have g79 : (h27.2.1 34 2).toInt ≤ 500 := (hv27.2.1 34 2).2
      have g80 : (0 : Int) ≤ (h27.2.1 34 7).toInt := (hv27.2.1 34 7).1
      have g81 : (h27.2.1 34 7).toInt ≤ 7 := (hv27.2.1 34 7).2
      have g82 : (h27.2.1 34 1).toInt = u32.toInt := by rw [← (show u32 = h27.2.1 34 1 from u32w)] <;> exact (ti_rfl u32)
      have g83 : (h27.2.1 34 2).toInt = u33.toInt := by rw [← (show u33 = h27.2.1 34 2 from u33w)] <;> exact (ti_rfl u33)
      have g84 : (h27.2.1 34 7).toInt = u34.toInt := by rw [← (show u34 = h27.2.1 34 7 from u34w)] <;> exact (ti_rfl u34)
      refine go_invV (pc := 51) (sl := 0) (s_X3_readNumbers l (d + 0) hv27 a2 (by rw [show (a2 : Int32).toInt = a2.toInt from (ti_rfl a2)]; omega) (by rw [show (a2 : Int32).toInt = a2.toInt from (ti_rfl a2)]; omega)) mL_X3_193 iM_X3_readNumbers sM_X3_readNumbers (hv27.sh rfl) rfl rfl rfl (Nat.le_of_ble_eq_true rfl) (show d + 0 + 4 + 1 ≤ d + 5 by omega) (show 8 + (3 + 11) + 40 * (d + 0 + 4) ≤ 40 * (d + 5) by omega) (g_c0 hv27.ln) (Nat.le_of_ble_eq_true rfl) dX3_readAssignment_51 ?_
      intro r h85 hq _
      obtain ⟨rfl, hv85, f86, f87, pt85⟩ := hq
      have pr85 : PR h → PR h85 := fun z => pt85 (pr27 z)
      obtain ⟨u88, u88w⟩ : ∃ v : Int32, v = h85.2.1 34 1 := ⟨_, rfl⟩
      have u88e : (h85.2.1 34 1).toInt = u88.toInt := by rw [u88w]
      have u88l : 0 ≤ u88.toInt := by rw [u88w]; exact (hv85.2.1 34 1).1
      have u88u : u88.toInt ≤ 500 := by rw [u88w]; exact (hv85.2.1 34 1).2
      obtain ⟨u89, u89w⟩ : ∃ v : Int32, v = h85.2.1 34 2 := ⟨_, rfl⟩
      have u89e : (h85.2.1 34 2).toInt = u89.toInt := by rw [u89w]
      have u89l : 0 ≤ u89.toInt := by rw [u89w]; exact (hv85.2.1 34 2).1
      have u89u : u89.toInt ≤ 500 := by rw [u89w]; exact (hv85.2.1 34 2).2
      obtain ⟨u90, u90w⟩ : ∃ v : Int32, v = h85.2.1 34 7 := ⟨_, rfl⟩
      have u90e : (h85.2.1 34 7).toInt = u90.toInt := by rw [u90w]
      have u90l : 0 ≤ u90.toInt := by rw [u90w]; exact (hv85.2.1 34 7).1
      have u90u : u90.toInt ≤ 7 := by rw [u90w]; exact (hv85.2.1 34 7).2
      refine go_aload_n (pc := 54) rfl dX3_readAssignment_54 ?_
      refine go_bipush (pc := 55) (v := 59) (by decide) dX3_readAssignment_55 ?_
      have g91 : (0 : Int) ≤ (h85.2.1 34 1).toInt := (hv85.2.1 34 1).1
      have g92 : (h85.2.1 34 1).toInt ≤ 500 := (hv85.2.1 34 1).2
      have g93 : (0 : Int) ≤ (h85.2.1 34 2).toInt := (hv85.2.1 34 2).1
      have g94 : (h85.2.1 34 2).toInt ≤ 500 := (hv85.2.1 34 2).2
      have g95 : (0 : Int) ≤ (h85.2.1 34 7).toInt := (hv85.2.1 34 7).1
      have g96 : (h85.2.1 34 7).toInt ≤ 7 := (hv85.2.1 34 7).2
      have g97 : (h85.2.1 34 1).toInt = u88.toInt := by rw [← (show u88 = h85.2.1 34 1 from u88w)] <;> exact (ti_rfl u88)
      have g98 : (h85.2.1 34 2).toInt = u89.toInt := by rw [← (show u89 = h85.2.1 34 2 from u89w)] <;> exact (ti_rfl u89)
      have g99 : (h85.2.1 34 7).toInt = u90.toInt := by rw [← (show u90 = h85.2.1 34 7 from u90w)] <;> exact (ti_rfl u90)
      refine go_invV (pc := 57) (sl := 0) (s_X3_take l (d + 2) hv85 59 (by rw [show (59 : Int32).toInt = 59 from (ti_c (v := 59) (a := 59) (by decide))]; omega) (by rw [show (59 : Int32).toInt = 59 from (ti_c (v := 59) (a := 59) (by decide))]; omega)) mL_X3_181 iM_X3_take sM_X3_take (hv85.sh rfl) rfl rfl rfl (Nat.le_of_ble_eq_true rfl) (show d + 2 + 2 + 1 ≤ d + 5 by omega) (show 8 + (2 + 11) + 40 * (d + 2 + 2) ≤ 40 * (d + 5) by omega) (g_c0 hv85.ln) (Nat.le_of_ble_eq_true rfl) dX3_readAssignment_57 ?_
      intro r h100 hq _
      obtain ⟨rfl, hv100, f101, f102, pt100⟩ := hq
      have pr100 : PR h → PR h100 := fun z => pt100 (pr85 z)
      try rw [show (59 : Int32).toInt = 59 from (ti_c (v := 59) (a := 59) (by decide))] at f101
      try rw [show (59 : Int32).toInt = 59 from (ti_c (v := 59) (a := 59) (by decide))] at f102
      obtain ⟨u103, u103w⟩ : ∃ v : Int32, v = h100.2.1 34 1 := ⟨_, rfl⟩
      have u103e : (h100.2.1 34 1).toInt = u103.toInt := by rw [u103w]
      have u103l : 0 ≤ u103.toInt := by rw [u103w]; exact (hv100.2.1 34 1).1
      have u103u : u103.toInt ≤ 500 := by rw [u103w]; exact (hv100.2.1 34 1).2
      obtain ⟨u104, u104w⟩ : ∃ v : Int32, v = h100.2.1 34 2 := ⟨_, rfl⟩
      have u104e : (h100.2.1 34 2).toInt = u104.toInt := by rw [u104w]
      have u104l : 0 ≤ u104.toInt := by rw [u104w]; exact (hv100.2.1 34 2).1
      have u104u : u104.toInt ≤ 500 := by rw [u104w]; exact (hv100.2.1 34 2).2
      obtain ⟨u105, u105w⟩ : ∃ v : Int32, v = h100.2.1 34 7 := ⟨_, rfl⟩
      have u105e : (h100.2.1 34 7).toInt = u105.toInt := by rw [u105w]
      have u105l : 0 ≤ u105.toInt := by rw [u105w]; exact (hv100.2.1 34 7).1
      have u105u : u105.toInt ≤ 7 := by rw [u105w]; exact (hv100.2.1 34 7).2
      have g106 : (0 : Int) ≤ (h100.2.1 34 1).toInt := (hv100.2.1 34 1).1
      have g107 : (h100.2.1 34 1).toInt ≤ 500 := (hv100.2.1 34 1).2
      have g108 : (0 : Int) ≤ (h100.2.1 34 2).toInt := (hv100.2.1 34 2).1
      have g109 : (h100.2.1 34 2).toInt ≤ 500 := (hv100.2.1 34 2).2
      have g110 : (0 : Int) ≤ (h100.2.1 34 7).toInt := (hv100.2.1 34 7).1
      have g111 : (h100.2.1 34 7).toInt ≤ 7 := (hv100.2.1 34 7).2
      have g112 : (h100.2.1 34 1).toInt = u103.toInt := by rw [← (show u103 = h100.2.1 34 1 from u103w)] <;> exact (ti_rfl u103)
      have g113 : (h100.2.1 34 2).toInt = u104.toInt := by rw [← (show u104 = h100.2.1 34 2 from u104w)] <;> exact (ti_rfl u104)
      have g114 : (h100.2.1 34 7).toInt = u105.toInt := by rw [← (show u105 = h100.2.1 34 7 from u105w)] <;> exact (ti_rfl u105)
      exact gi_vret (pc := 60) ⟨rfl, ⟨P, hv100, (by show (0 : Int) = 0; omega), rfl, rfl, rfl⟩, (by omega), (by omega), pr100⟩ hv100 dX3_readAssignment_60
    ·
      refine go_iload_n (pc := 33) rfl dX3_readAssignment_33 ?_
      refine go_invS (pc := 34) (sl := 0) (s_X7_isField l (d + 3) hv27 a3) mL_X3_141 iM_X7_isField rfl rfl (Nat.le_of_ble_eq_true rfl) (show d + 3 + 1 + 1 ≤ d + 5 by omega) (show 8 + (1 + 11) + 40 * (d + 3 + 1) ≤ 40 * (d + 5) by omega) (g_c0 hv27.ln) (Nat.le_of_ble_eq_true rfl) dX3_readAssignment_34 ?_
      intro r h115 hq _
      obtain ⟨v117, rfl, v117l, v117u, rfl, f118, f116⟩ := hq
      refine gf_if_ne (pc := 37) (tgt := 49) (ti_rfl v117) (by decide) dX3_readAssignment_37 (fun q119 => ?_) (fun q119 => ?_)
      ·
        refine go_aload_n (pc := 49) rfl dX3_readAssignment_49 ?_
        refine go_iload_n (pc := 50) rfl dX3_readAssignment_50 ?_
        have g120 : (0 : Int) ≤ (h27.2.1 34 1).toInt := (hv27.2.1 34 1).1
        have g121 : (h27.2.1 34 1).toInt ≤ 500 := (hv27.2.1 34 1).2
        have g122 : (0 : Int) ≤ (h27.2.1 34 2).toInt := (hv27.2.1 34 2).1
        have g123 : (h27.2.1 34 2).toInt ≤ 500 := (hv27.2.1 34 2).2
        have g124 : (0 : Int) ≤ (h27.2.1 34 7).toInt := (hv27.2.1 34 7).1
        have g125 : (h27.2.1 34 7).toInt ≤ 7 := (hv27.2.1 34 7).2
        have g126 : (h27.2.1 34 1).toInt = u32.toInt := by rw [← (show u32 = h27.2.1 34 1 from u32w)] <;> exact (ti_rfl u32)
        have g127 : (h27.2.1 34 2).toInt = u33.toInt := by rw [← (show u33 = h27.2.1 34 2 from u33w)] <;> exact (ti_rfl u33)
        have g128 : (h27.2.1 34 7).toInt = u34.toInt := by rw [← (show u34 = h27.2.1 34 7 from u34w)] <;> exact (ti_rfl u34)
        refine go_invV (pc := 51) (sl := 0) (s_X3_readNumbers l (d + 0) hv27 a2 (by rw [show (a2 : Int32).toInt = a2.toInt from (ti_rfl a2)]; omega) (by rw [show (a2 : Int32).toInt = a2.toInt from (ti_rfl a2)]; omega)) mL_X3_193 iM_X3_readNumbers sM_X3_readNumbers (hv27.sh rfl) rfl rfl rfl (Nat.le_of_ble_eq_true rfl) (show d + 0 + 4 + 1 ≤ d + 5 by omega) (show 8 + (3 + 11) + 40 * (d + 0 + 4) ≤ 40 * (d + 5) by omega) (g_c0 hv27.ln) (Nat.le_of_ble_eq_true rfl) dX3_readAssignment_51 ?_
        intro r h129 hq _
        obtain ⟨rfl, hv129, f130, f131, pt129⟩ := hq
        have pr129 : PR h → PR h129 := fun z => pt129 (pr27 z)
        obtain ⟨u132, u132w⟩ : ∃ v : Int32, v = h129.2.1 34 1 := ⟨_, rfl⟩
        have u132e : (h129.2.1 34 1).toInt = u132.toInt := by rw [u132w]
        have u132l : 0 ≤ u132.toInt := by rw [u132w]; exact (hv129.2.1 34 1).1
        have u132u : u132.toInt ≤ 500 := by rw [u132w]; exact (hv129.2.1 34 1).2
        obtain ⟨u133, u133w⟩ : ∃ v : Int32, v = h129.2.1 34 2 := ⟨_, rfl⟩
        have u133e : (h129.2.1 34 2).toInt = u133.toInt := by rw [u133w]
        have u133l : 0 ≤ u133.toInt := by rw [u133w]; exact (hv129.2.1 34 2).1
        have u133u : u133.toInt ≤ 500 := by rw [u133w]; exact (hv129.2.1 34 2).2
        obtain ⟨u134, u134w⟩ : ∃ v : Int32, v = h129.2.1 34 7 := ⟨_, rfl⟩
        have u134e : (h129.2.1 34 7).toInt = u134.toInt := by rw [u134w]
        have u134l : 0 ≤ u134.toInt := by rw [u134w]; exact (hv129.2.1 34 7).1
        have u134u : u134.toInt ≤ 7 := by rw [u134w]; exact (hv129.2.1 34 7).2
        refine go_aload_n (pc := 54) rfl dX3_readAssignment_54 ?_
        refine go_bipush (pc := 55) (v := 59) (by decide) dX3_readAssignment_55 ?_
        have g135 : (0 : Int) ≤ (h129.2.1 34 1).toInt := (hv129.2.1 34 1).1
        have g136 : (h129.2.1 34 1).toInt ≤ 500 := (hv129.2.1 34 1).2
        have g137 : (0 : Int) ≤ (h129.2.1 34 2).toInt := (hv129.2.1 34 2).1
        have g138 : (h129.2.1 34 2).toInt ≤ 500 := (hv129.2.1 34 2).2
        have g139 : (0 : Int) ≤ (h129.2.1 34 7).toInt := (hv129.2.1 34 7).1
        have g140 : (h129.2.1 34 7).toInt ≤ 7 := (hv129.2.1 34 7).2
        have g141 : (h129.2.1 34 1).toInt = u132.toInt := by rw [← (show u132 = h129.2.1 34 1 from u132w)] <;> exact (ti_rfl u132)
        have g142 : (h129.2.1 34 2).toInt = u133.toInt := by rw [← (show u133 = h129.2.1 34 2 from u133w)] <;> exact (ti_rfl u133)
        have g143 : (h129.2.1 34 7).toInt = u134.toInt := by rw [← (show u134 = h129.2.1 34 7 from u134w)] <;> exact (ti_rfl u134)
        refine go_invV (pc := 57) (sl := 0) (s_X3_take l (d + 2) hv129 59 (by rw [show (59 : Int32).toInt = 59 from (ti_c (v := 59) (a := 59) (by decide))]; omega) (by rw [show (59 : Int32).toInt = 59 from (ti_c (v := 59) (a := 59) (by decide))]; omega)) mL_X3_181 iM_X3_take sM_X3_take (hv129.sh rfl) rfl rfl rfl (Nat.le_of_ble_eq_true rfl) (show d + 2 + 2 + 1 ≤ d + 5 by omega) (show 8 + (2 + 11) + 40 * (d + 2 + 2) ≤ 40 * (d + 5) by omega) (g_c0 hv129.ln) (Nat.le_of_ble_eq_true rfl) dX3_readAssignment_57 ?_
        intro r h144 hq _
        obtain ⟨rfl, hv144, f145, f146, pt144⟩ := hq
        have pr144 : PR h → PR h144 := fun z => pt144 (pr129 z)
        try rw [show (59 : Int32).toInt = 59 from (ti_c (v := 59) (a := 59) (by decide))] at f145
        try rw [show (59 : Int32).toInt = 59 from (ti_c (v := 59) (a := 59) (by decide))] at f146
        obtain ⟨u147, u147w⟩ : ∃ v : Int32, v = h144.2.1 34 1 := ⟨_, rfl⟩
        have u147e : (h144.2.1 34 1).toInt = u147.toInt := by rw [u147w]
        have u147l : 0 ≤ u147.toInt := by rw [u147w]; exact (hv144.2.1 34 1).1
        have u147u : u147.toInt ≤ 500 := by rw [u147w]; exact (hv144.2.1 34 1).2
        obtain ⟨u148, u148w⟩ : ∃ v : Int32, v = h144.2.1 34 2 := ⟨_, rfl⟩
        have u148e : (h144.2.1 34 2).toInt = u148.toInt := by rw [u148w]
        have u148l : 0 ≤ u148.toInt := by rw [u148w]; exact (hv144.2.1 34 2).1
        have u148u : u148.toInt ≤ 500 := by rw [u148w]; exact (hv144.2.1 34 2).2
        obtain ⟨u149, u149w⟩ : ∃ v : Int32, v = h144.2.1 34 7 := ⟨_, rfl⟩
        have u149e : (h144.2.1 34 7).toInt = u149.toInt := by rw [u149w]
        have u149l : 0 ≤ u149.toInt := by rw [u149w]; exact (hv144.2.1 34 7).1
        have u149u : u149.toInt ≤ 7 := by rw [u149w]; exact (hv144.2.1 34 7).2
        have g150 : (0 : Int) ≤ (h144.2.1 34 1).toInt := (hv144.2.1 34 1).1
        have g151 : (h144.2.1 34 1).toInt ≤ 500 := (hv144.2.1 34 1).2
        have g152 : (0 : Int) ≤ (h144.2.1 34 2).toInt := (hv144.2.1 34 2).1
        have g153 : (h144.2.1 34 2).toInt ≤ 500 := (hv144.2.1 34 2).2
        have g154 : (0 : Int) ≤ (h144.2.1 34 7).toInt := (hv144.2.1 34 7).1
        have g155 : (h144.2.1 34 7).toInt ≤ 7 := (hv144.2.1 34 7).2
        have g156 : (h144.2.1 34 1).toInt = u147.toInt := by rw [← (show u147 = h144.2.1 34 1 from u147w)] <;> exact (ti_rfl u147)
        have g157 : (h144.2.1 34 2).toInt = u148.toInt := by rw [← (show u148 = h144.2.1 34 2 from u148w)] <;> exact (ti_rfl u148)
        have g158 : (h144.2.1 34 7).toInt = u149.toInt := by rw [← (show u149 = h144.2.1 34 7 from u149w)] <;> exact (ti_rfl u149)
        exact gi_vret (pc := 60) ⟨rfl, ⟨P, hv144, (by show (0 : Int) = 0; omega), rfl, rfl, rfl⟩, (by omega), (by omega), pr144⟩ hv144 dX3_readAssignment_60
      ·
        refine go_aload_n (pc := 40) rfl dX3_readAssignment_40 ?_
        refine go_iload_n (pc := 41) rfl dX3_readAssignment_41 ?_
        refine go_iload_n (pc := 42) rfl dX3_readAssignment_42 ?_
        have g159 : (0 : Int) ≤ (h27.2.1 34 1).toInt := (hv27.2.1 34 1).1
        have g160 : (h27.2.1 34 1).toInt ≤ 500 := (hv27.2.1 34 1).2
        have g161 : (0 : Int) ≤ (h27.2.1 34 2).toInt := (hv27.2.1 34 2).1
        have g162 : (h27.2.1 34 2).toInt ≤ 500 := (hv27.2.1 34 2).2
        have g163 : (0 : Int) ≤ (h27.2.1 34 7).toInt := (hv27.2.1 34 7).1
        have g164 : (h27.2.1 34 7).toInt ≤ 7 := (hv27.2.1 34 7).2
        have g165 : (h27.2.1 34 1).toInt = u32.toInt := by rw [← (show u32 = h27.2.1 34 1 from u32w)] <;> exact (ti_rfl u32)
        have g166 : (h27.2.1 34 2).toInt = u33.toInt := by rw [← (show u33 = h27.2.1 34 2 from u33w)] <;> exact (ti_rfl u33)
        have g167 : (h27.2.1 34 7).toInt = u34.toInt := by rw [← (show u34 = h27.2.1 34 7 from u34w)] <;> exact (ti_rfl u34)
        refine go_invV (pc := 43) (sl := 0) (s_X3_readCall l (d + 0) hv27 a2 (by rw [show (a2 : Int32).toInt = a2.toInt from (ti_rfl a2)]; omega) (by rw [show (a2 : Int32).toInt = a2.toInt from (ti_rfl a2)]; omega) v31 (by rw [show (v31 : Int32).toInt = v31.toInt from (ti_rfl v31)]; omega) (by rw [show (v31 : Int32).toInt = v31.toInt from (ti_rfl v31)]; omega) (by omega)) mL_X3_190 iM_X3_readCall sM_X3_readCall (hv27.sh rfl) rfl rfl rfl (Nat.le_of_ble_eq_true rfl) (show d + 0 + 4 + 1 ≤ d + 5 by omega) (show 8 + (3 + 11) + 40 * (d + 0 + 4) ≤ 40 * (d + 5) by omega) (g_c0 hv27.ln) (Nat.le_of_ble_eq_true rfl) dX3_readAssignment_43 ?_
        intro r h168 hq _
        obtain ⟨rfl, ⟨Q169, hv168, r170, r171, r172, r173⟩, f174, f175, pt168⟩ := hq
        have pr168 : PR h → PR h168 := fun z => pt168 (pr27 z)
        have r170 : (0 : Int) = 0 := r170
        obtain ⟨u176, u176w⟩ : ∃ v : Int32, v = h168.2.1 34 1 := ⟨_, rfl⟩
        have u176e : (h168.2.1 34 1).toInt = u176.toInt := by rw [u176w]
        have u176l : 0 ≤ u176.toInt := by rw [u176w]; exact (hv168.2.1 34 1).1
        have u176u : u176.toInt ≤ 500 := by rw [u176w]; exact (hv168.2.1 34 1).2
        obtain ⟨u177, u177w⟩ : ∃ v : Int32, v = h168.2.1 34 2 := ⟨_, rfl⟩
        have u177e : (h168.2.1 34 2).toInt = u177.toInt := by rw [u177w]
        have u177l : 0 ≤ u177.toInt := by rw [u177w]; exact (hv168.2.1 34 2).1
        have u177u : u177.toInt ≤ 500 := by rw [u177w]; exact (hv168.2.1 34 2).2
        obtain ⟨u178, u178w⟩ : ∃ v : Int32, v = h168.2.1 34 7 := ⟨_, rfl⟩
        have u178e : (h168.2.1 34 7).toInt = u178.toInt := by rw [u178w]
        have u178l : 0 ≤ u178.toInt := by rw [u178w]; exact (hv168.2.1 34 7).1
        have u178u : u178.toInt ≤ 7 := by rw [u178w]; exact (hv168.2.1 34 7).2
        refine go_goto (pc := 46) (tgt := 54) (by decide) dX3_readAssignment_46 ?_
        refine go_aload_n (pc := 54) rfl dX3_readAssignment_54 ?_
        refine go_bipush (pc := 55) (v := 59) (by decide) dX3_readAssignment_55 ?_
        have g179 : (0 : Int) ≤ (h168.2.1 34 1).toInt := (hv168.2.1 34 1).1
        have g180 : (h168.2.1 34 1).toInt ≤ 500 := (hv168.2.1 34 1).2
        have g181 : (0 : Int) ≤ (h168.2.1 34 2).toInt := (hv168.2.1 34 2).1
        have g182 : (h168.2.1 34 2).toInt ≤ 500 := (hv168.2.1 34 2).2
        have g183 : (0 : Int) ≤ (h168.2.1 34 7).toInt := (hv168.2.1 34 7).1
        have g184 : (h168.2.1 34 7).toInt ≤ 7 := (hv168.2.1 34 7).2
        have g185 : (h168.2.1 34 1).toInt = u176.toInt := by rw [← (show u176 = h168.2.1 34 1 from u176w)] <;> exact (ti_rfl u176)
        have g186 : (h168.2.1 34 2).toInt = u177.toInt := by rw [← (show u177 = h168.2.1 34 2 from u177w)] <;> exact (ti_rfl u177)
        have g187 : (h168.2.1 34 7).toInt = u178.toInt := by rw [← (show u178 = h168.2.1 34 7 from u178w)] <;> exact (ti_rfl u178)
        refine go_invV (pc := 57) (sl := 0) (s_X3_take l (d + 2) hv168 59 (by rw [show (59 : Int32).toInt = 59 from (ti_c (v := 59) (a := 59) (by decide))]; omega) (by rw [show (59 : Int32).toInt = 59 from (ti_c (v := 59) (a := 59) (by decide))]; omega)) mL_X3_181 iM_X3_take sM_X3_take (hv168.sh rfl) rfl rfl rfl (Nat.le_of_ble_eq_true rfl) (show d + 2 + 2 + 1 ≤ d + 5 by omega) (show 8 + (2 + 11) + 40 * (d + 2 + 2) ≤ 40 * (d + 5) by omega) (g_c0 hv168.ln) (Nat.le_of_ble_eq_true rfl) dX3_readAssignment_57 ?_
        intro r h188 hq _
        obtain ⟨rfl, hv188, f189, f190, pt188⟩ := hq
        have pr188 : PR h → PR h188 := fun z => pt188 (pr168 z)
        try rw [show (59 : Int32).toInt = 59 from (ti_c (v := 59) (a := 59) (by decide))] at f189
        try rw [show (59 : Int32).toInt = 59 from (ti_c (v := 59) (a := 59) (by decide))] at f190
        obtain ⟨u191, u191w⟩ : ∃ v : Int32, v = h188.2.1 34 1 := ⟨_, rfl⟩
        have u191e : (h188.2.1 34 1).toInt = u191.toInt := by rw [u191w]
        have u191l : 0 ≤ u191.toInt := by rw [u191w]; exact (hv188.2.1 34 1).1
        have u191u : u191.toInt ≤ 500 := by rw [u191w]; exact (hv188.2.1 34 1).2
        obtain ⟨u192, u192w⟩ : ∃ v : Int32, v = h188.2.1 34 2 := ⟨_, rfl⟩
        have u192e : (h188.2.1 34 2).toInt = u192.toInt := by rw [u192w]
        have u192l : 0 ≤ u192.toInt := by rw [u192w]; exact (hv188.2.1 34 2).1
        have u192u : u192.toInt ≤ 500 := by rw [u192w]; exact (hv188.2.1 34 2).2
        obtain ⟨u193, u193w⟩ : ∃ v : Int32, v = h188.2.1 34 7 := ⟨_, rfl⟩
        have u193e : (h188.2.1 34 7).toInt = u193.toInt := by rw [u193w]
        have u193l : 0 ≤ u193.toInt := by rw [u193w]; exact (hv188.2.1 34 7).1
        have u193u : u193.toInt ≤ 7 := by rw [u193w]; exact (hv188.2.1 34 7).2
        have g194 : (0 : Int) ≤ (h188.2.1 34 1).toInt := (hv188.2.1 34 1).1
        have g195 : (h188.2.1 34 1).toInt ≤ 500 := (hv188.2.1 34 1).2
        have g196 : (0 : Int) ≤ (h188.2.1 34 2).toInt := (hv188.2.1 34 2).1
        have g197 : (h188.2.1 34 2).toInt ≤ 500 := (hv188.2.1 34 2).2
        have g198 : (0 : Int) ≤ (h188.2.1 34 7).toInt := (hv188.2.1 34 7).1
        have g199 : (h188.2.1 34 7).toInt ≤ 7 := (hv188.2.1 34 7).2
        have g200 : (h188.2.1 34 1).toInt = u191.toInt := by rw [← (show u191 = h188.2.1 34 1 from u191w)] <;> exact (ti_rfl u191)
        have g201 : (h188.2.1 34 2).toInt = u192.toInt := by rw [← (show u192 = h188.2.1 34 2 from u192w)] <;> exact (ti_rfl u192)
        have g202 : (h188.2.1 34 7).toInt = u193.toInt := by rw [← (show u193 = h188.2.1 34 7 from u193w)] <;> exact (ti_rfl u193)
        exact gi_vret (pc := 60) ⟨rfl, ⟨Q169, hv188, (by show (0 : Int) = 0; omega), (by first | rfl | (simp only [r173, r172, r171])), (by first | rfl | (simp only [r173, r172, r171])), (by first | rfl | (simp only [r173, r172, r171]))⟩, (by omega), (by omega), pr188⟩ hv188 dX3_readAssignment_60
set_option maxHeartbeats 4000000 in
set_option maxRecDepth 100000 in
theorem s_X3_readStatement (l : Launch) (d : Nat) {P : PP} {h : HP} (hv : Iv P h) (a2 : Int32) (a2l : -1 ≤ a2.toInt) (a2u : a2.toInt ≤ 255) (hp : 1 ≤ (h.2.1 34 7).toInt) (hp2 : 0 ≤ a2.toInt → (h.2.1 34 2).toInt ≤ 499) : Mt l yX3_readStatement cX3_readStatement 5 none (d + 6) [.ref 34, .int a2] h 0 0 (fun r h' => r = none ∧ (∃ Q : PP, Iv Q h' ∧ ((0 : Int) = 0) ∧ Q.1 = P.1 ∧ Q.2.1 = P.2.1 ∧ Q.2.2.2 = P.2.2.2) ∧ (PR h → PR h')) := by
  refine Mt_iv hv (by decide) (Nat.le_of_ble_eq_true rfl) ?_
  show Go l RX3 cX3_readStatement 5 (g_rm (d + 6) 0 0) "readStatement" none 117 0 0 (fun _ _ => True) (fun r h' => r = none ∧ (∃ Q : PP, Iv Q h' ∧ ((0 : Int) = 0) ∧ Q.1 = P.1 ∧ Q.2.1 = P.2.1 ∧ Q.2.2.2 = P.2.2.2) ∧ (PR h → PR h')) 0 0 [(0, .ref 34), (1, .int a2)] [] h
  have pr : PR h → PR h := id
  obtain ⟨u34_2, u34_2w⟩ : ∃ v : Int32, v = h.2.1 34 2 := ⟨_, rfl⟩
  have u34_2e : (h.2.1 34 2).toInt = u34_2.toInt := by rw [u34_2w]
  have u34_2l : 0 ≤ u34_2.toInt := by rw [u34_2w]; exact (hv.2.1 34 2).1
  have u34_2u : u34_2.toInt ≤ 500 := by rw [u34_2w]; exact (hv.2.1 34 2).2
  obtain ⟨u34_7, u34_7w⟩ : ∃ v : Int32, v = h.2.1 34 7 := ⟨_, rfl⟩
  have u34_7e : (h.2.1 34 7).toInt = u34_7.toInt := by rw [u34_7w]
  have u34_7l : 0 ≤ u34_7.toInt := by rw [u34_7w]; exact (hv.2.1 34 7).1
  have u34_7u : u34_7.toInt ≤ 7 := by rw [u34_7w]; exact (hv.2.1 34 7).2
  refine go_iload_n (pc := 0) rfl dX3_readStatement_0 ?_
  refine go_invS (pc := 1) (sl := 0) (s_X3_kindBegunBy l (d + 3) hv a2) mL_X3_160 iM_X3_kindBegunBy rfl rfl (Nat.le_of_ble_eq_true rfl) (show d + 3 + 2 + 1 ≤ d + 6 by omega) (show 8 + (1 + 11) + 40 * (d + 3 + 2) ≤ 40 * (d + 6) by omega) (g_c0 hv.ln) (Nat.le_of_ble_eq_true rfl) dX3_readStatement_1 ?_
  intro r h1 hq _
  obtain ⟨v4, rfl, v4l, v4u, rfl, f2, f3⟩ := hq
  refine go_istore_n (pc := 4) (Nat.le_of_ble_eq_true rfl) dX3_readStatement_4 (go_lv (lv2 := [(0, .ref 34), (1, .int a2), (2, .int v4)]) rfl ?_)
  refine go_iload_n (pc := 5) rfl dX3_readStatement_5 ?_
  refine go_iconst (pc := 6) (v := (-1)) (by decide) dX3_readStatement_6 ?_
  refine gf_icmp_ne (pc := 7) (tgt := 20) (ti_rfl v4) (ti_c (v := (-1)) (a := (-1)) (by decide)) (by decide) dX3_readStatement_7 (fun q5 => ?_) (fun q5 => ?_)
  ·
    refine go_aload_n (pc := 20) rfl dX3_readStatement_20 ?_
    refine gi_getC (pc := 21) hv fL_X3_46 rfl (Nat.le_of_ble_eq_true rfl) rfl (by decide) dX3_readStatement_21 (fun c6 hc6 fc6 => ?_)
    refine gi_get (pc := 24) (lo := 0) (hi := 40) hv fL_X3_163 (by rcases hc6 with rfl | rfl <;> rfl) (Nat.le_of_ble_eq_true rfl) rfl (by rcases hc6 with rfl | rfl <;> rfl) dX3_readStatement_24 (fun v7 v7l v7u v7w => ?_)
    refine go_bipush (pc := 27) (v := 40) (by decide) dX3_readStatement_27 ?_
    refine gf_icmp_lt (pc := 29) (tgt := 42) (ti_rfl v7) (ti_c (v := 40) (a := 40) (by decide)) (by decide) dX3_readStatement_29 (fun q8 => ?_) (fun q8 => ?_)
    ·
      refine go_aload_n (pc := 42) rfl dX3_readStatement_42 ?_
      refine gi_getC (pc := 43) hv fL_X3_46 rfl (Nat.le_of_ble_eq_true rfl) rfl (by decide) dX3_readStatement_43 (fun c9 hc9 fc9 => ?_)
      refine go_iload_n (pc := 46) rfl dX3_readStatement_46 ?_
      refine go_aload_n (pc := 47) rfl dX3_readStatement_47 ?_
      refine gi_getC (pc := 48) hv fL_X3_46 rfl (Nat.le_of_ble_eq_true rfl) rfl (by decide) dX3_readStatement_48 (fun c10 hc10 fc10 => ?_)
      refine gi_get (pc := 51) (lo := 0) (hi := 5) hv fL_X3_115 (by rcases hc10 with rfl | rfl <;> rfl) (Nat.le_of_ble_eq_true rfl) rfl (by rcases hc10 with rfl | rfl <;> rfl) dX3_readStatement_51 (fun v11 v11l v11u v11w => ?_)
      refine go_iconst (pc := 54) (v := 1) (by decide) dX3_readStatement_54 ?_
      refine gf_isub (pc := 55) (ti_rfl v11) (ti_c (v := 1) (a := 1) (by decide)) (by omega) (by omega) dX3_readStatement_55 (fun v12 e13 => ?_)
      refine go_aload_n (pc := 56) rfl dX3_readStatement_56 ?_
      refine gi_get (pc := 57) (lo := 0) (hi := 7) hv fL_X3_32 rfl (Nat.le_of_ble_eq_true rfl) rfl rfl dX3_readStatement_57 (fun v14 v14l v14u v14w => ?_)
      have v14r : u34_7 = h.2.1 34 7 := u34_7w
      have v14q : TI v14 u34_7.toInt := by rw [v14w.trans v14r.symm]; exact (ti_rfl u34_7)
      refine go_iconst (pc := 60) (v := 1) (by decide) dX3_readStatement_60 ?_
      refine gf_isub (pc := 61) v14q (ti_c (v := 1) (a := 1) (by decide)) (by omega) (by omega) dX3_readStatement_61 (fun v15 e16 => ?_)
      refine go_aload_n (pc := 62) rfl dX3_readStatement_62 ?_
      refine gi_get (pc := 63) (lo := 0) (hi := 500) hv fL_X3_19 rfl (Nat.le_of_ble_eq_true rfl) rfl rfl dX3_readStatement_63 (fun v17 v17l v17u v17w => ?_)
      have v17r : u34_2 = h.2.1 34 2 := u34_2w
      have v17q : TI v17 u34_2.toInt := by rw [v17w.trans v17r.symm]; exact (ti_rfl u34_2)
      have g18 : (0 : Int) ≤ (h.2.1 34 2).toInt := (hv.2.1 34 2).1
      have g19 : (h.2.1 34 2).toInt ≤ 500 := (hv.2.1 34 2).2
      have g20 : (0 : Int) ≤ (h.2.1 34 7).toInt := (hv.2.1 34 7).1
      have g21 : (h.2.1 34 7).toInt ≤ 7 := (hv.2.1 34 7).2
      have g22 : (h.2.1 34 2).toInt = u34_2.toInt := by rw [← (show u34_2 = h.2.1 34 2 from u34_2w)] <;> exact (ti_rfl u34_2)
      have g23 : (h.2.1 34 7).toInt = u34_7.toInt := by rw [← (show u34_7 = h.2.1 34 7 from u34_7w)] <;> exact (ti_rfl u34_7)
      refine go_invV (pc := 66) (sl := 0) (s_X0_add l (d + 4) hv c9 hc9 v4 (by rw [show (v4 : Int32).toInt = v4.toInt from (ti_rfl v4)]; omega) (by rw [show (v4 : Int32).toInt = v4.toInt from (ti_rfl v4)]; omega) v12 (by rw [show (v12 : Int32).toInt = (v11.toInt - 1) from e13]; omega) (by rw [show (v12 : Int32).toInt = (v11.toInt - 1) from e13]; omega) v15 v17 (by omega) (by have e := fc6.symm.trans fc9; cases e; rw [← v7w]; omega)) mL_X3_166 iM_X0_add sM_X0_add (hv.sh (by rcases hc9 with rfl | rfl <;> rfl)) rfl rfl rfl (Nat.le_of_ble_eq_true rfl) (show d + 4 + 1 + 1 ≤ d + 6 by omega) (show 8 + (6 + 11) + 40 * (d + 4 + 1) ≤ 40 * (d + 6) by omega) (g_c0 hv.ln) (Nat.le_of_ble_eq_true rfl) dX3_readStatement_66 ?_
      intro r h24 hq _
      obtain ⟨v33, rfl, v33l, v33u, ⟨Q25, hv24, r26, r27, r28, r29⟩, f30, f31, f32, pt24⟩ := hq
      have pr24 : PR h → PR h24 := fun z => pt24 (pr z)
      try rw [show (v12 : Int32).toInt = (v11.toInt - 1) from e13] at f30
      try rw [show (v15 : Int32).toInt = (u34_7.toInt - 1) from e16] at f30
      try rw [show (v17 : Int32).toInt = u34_2.toInt from v17q] at f30
      try rw [show (v12 : Int32).toInt = (v11.toInt - 1) from e13] at f31
      try rw [show (v15 : Int32).toInt = (u34_7.toInt - 1) from e16] at f31
      try rw [show (v17 : Int32).toInt = u34_2.toInt from v17q] at f31
      try rw [show (v12 : Int32).toInt = (v11.toInt - 1) from e13] at f32
      try rw [show (v15 : Int32).toInt = (u34_7.toInt - 1) from e16] at f32
      try rw [show (v17 : Int32).toInt = u34_2.toInt from v17q] at f32
      have r26 : (0 : Int) = 0 := r26
      obtain ⟨u34, u34w⟩ : ∃ v : Int32, v = h24.2.1 34 2 := ⟨_, rfl⟩
      have u34e : (h24.2.1 34 2).toInt = u34.toInt := by rw [u34w]
      have u34l : 0 ≤ u34.toInt := by rw [u34w]; exact (hv24.2.1 34 2).1
      have u34u : u34.toInt ≤ 500 := by rw [u34w]; exact (hv24.2.1 34 2).2
      obtain ⟨u35, u35w⟩ : ∃ v : Int32, v = h24.2.1 34 7 := ⟨_, rfl⟩
      have u35e : (h24.2.1 34 7).toInt = u35.toInt := by rw [u35w]
      have u35l : 0 ≤ u35.toInt := by rw [u35w]; exact (hv24.2.1 34 7).1
      have u35u : u35.toInt ≤ 7 := by rw [u35w]; exact (hv24.2.1 34 7).2
      refine go_istore_n (pc := 69) (Nat.le_of_ble_eq_true rfl) dX3_readStatement_69 (go_lv (lv2 := [(0, .ref 34), (1, .int a2), (2, .int v4), (3, .int v33)]) rfl ?_)
      refine go_aload_n (pc := 70) rfl dX3_readStatement_70 ?_
      refine go_iload_n (pc := 71) rfl dX3_readStatement_71 ?_
      have g36 : (0 : Int) ≤ (h24.2.1 34 2).toInt := (hv24.2.1 34 2).1
      have g37 : (h24.2.1 34 2).toInt ≤ 500 := (hv24.2.1 34 2).2
      have g38 : (0 : Int) ≤ (h24.2.1 34 7).toInt := (hv24.2.1 34 7).1
      have g39 : (h24.2.1 34 7).toInt ≤ 7 := (hv24.2.1 34 7).2
      have g40 : (h24.2.1 34 2).toInt = u34.toInt := by rw [← (show u34 = h24.2.1 34 2 from u34w)] <;> exact (ti_rfl u34)
      have g41 : (h24.2.1 34 7).toInt = u35.toInt := by rw [← (show u35 = h24.2.1 34 7 from u35w)] <;> exact (ti_rfl u35)
      refine go_invV (pc := 72) (sl := 0) (s_X3_addItem l (d + 3) hv24 v33 (by rw [show (v33 : Int32).toInt = v33.toInt from (ti_rfl v33)]; omega) (by rw [show (v33 : Int32).toInt = v33.toInt from (ti_rfl v33)]; omega) (by omega)) mL_X3_157 iM_X3_addItem sM_X3_addItem (hv24.sh rfl) rfl rfl rfl (Nat.le_of_ble_eq_true rfl) (show d + 3 + 2 + 1 ≤ d + 6 by omega) (show 8 + (3 + 11) + 40 * (d + 3 + 2) ≤ 40 * (d + 6) by omega) (g_c0 hv24.ln) (Nat.le_of_ble_eq_true rfl) dX3_readStatement_72 ?_
      intro r h42 hq _
      obtain ⟨v46, rfl, v46l, v46u, hv42, f43, f44, f45, pt42⟩ := hq
      have pr42 : PR h → PR h42 := fun z => pt42 (pr24 z)
      obtain ⟨u47, u47w⟩ : ∃ v : Int32, v = h42.2.1 34 2 := ⟨_, rfl⟩
      have u47e : (h42.2.1 34 2).toInt = u47.toInt := by rw [u47w]
      have u47l : 0 ≤ u47.toInt := by rw [u47w]; exact (hv42.2.1 34 2).1
      have u47u : u47.toInt ≤ 500 := by rw [u47w]; exact (hv42.2.1 34 2).2
      obtain ⟨u48, u48w⟩ : ∃ v : Int32, v = h42.2.1 34 7 := ⟨_, rfl⟩
      have u48e : (h42.2.1 34 7).toInt = u48.toInt := by rw [u48w]
      have u48l : 0 ≤ u48.toInt := by rw [u48w]; exact (hv42.2.1 34 7).1
      have u48u : u48.toInt ≤ 7 := by rw [u48w]; exact (hv42.2.1 34 7).2
      refine go_istore (pc := 75) (Nat.le_of_ble_eq_true rfl) dX3_readStatement_75 (go_lv (lv2 := [(0, .ref 34), (1, .int a2), (2, .int v4), (3, .int v33), (4, .int v46)]) rfl ?_)
      refine go_aload_n (pc := 77) rfl dX3_readStatement_77 ?_
      refine go_dup (pc := 78) rfl dX3_readStatement_78 ?_
      refine gi_get (pc := 79) (lo := 0) (hi := 500) hv42 fL_X3_19 rfl (Nat.le_of_ble_eq_true rfl) rfl rfl dX3_readStatement_79 (fun v49 v49l v49u v49w => ?_)
      have v49r : u47 = h42.2.1 34 2 := u47w
      have v49q : TI v49 u47.toInt := by rw [v49w.trans v49r.symm]; exact (ti_rfl u47)
      refine go_iconst (pc := 82) (v := 1) (by decide) dX3_readStatement_82 ?_
      refine gf_iadd (pc := 83) v49q (ti_c (v := 1) (a := 1) (by decide)) (by omega) (by omega) dX3_readStatement_83 (fun v50 e51 => ?_)
      refine gi_put (pc := 84) (lo := 0) (hi := 500) hv42 e51 (fP_X3_19 _) rfl (Nat.le_of_ble_eq_true rfl) rfl rfl (by omega) (by omega) rfl rfl (by decide) (by decide) (by decide) (by decide) dX3_readStatement_84 (fun h52 hv52 hv52e => ?_)
      have pr52 : PR h → PR h52 := fun z => by rw [hv52e]; exact PR.put hv42 (pr42 z) (by omega)
      refine go_iload_n (pc := 87) rfl dX3_readStatement_87 ?_
      refine gf_if_ne (pc := 88) (tgt := 103) (ti_rfl v4) (by decide) dX3_readStatement_88 (fun q53 => ?_) (fun q53 => ?_)
      ·
        refine go_iload_n (pc := 103) rfl dX3_readStatement_103 ?_
        refine go_iconst (pc := 104) (v := 2) (by decide) dX3_readStatement_104 ?_
        refine gf_icmp_eq (pc := 105) (tgt := 113) (ti_rfl v4) (ti_c (v := 2) (a := 2) (by decide)) (by decide) dX3_readStatement_105 (fun q54 => ?_) (fun q54 => ?_)
        ·
          refine go_aload_n (pc := 113) rfl dX3_readStatement_113 ?_
          refine go_iload_n (pc := 114) rfl dX3_readStatement_114 ?_
          refine go_iload (pc := 115) rfl dX3_readStatement_115 ?_
          refine go_invV (pc := 117) (sl := 0) (s_X3_readCondition l (d + 1) hv52 v33 (by rw [show (v33 : Int32).toInt = v33.toInt from (ti_rfl v33)]; omega) (by rw [show (v33 : Int32).toInt = v33.toInt from (ti_rfl v33)]; omega) v46 (by rw [show (v46 : Int32).toInt = v46.toInt from (ti_rfl v46)]; omega) (by rw [show (v46 : Int32).toInt = v46.toInt from (ti_rfl v46)]; omega)) mL_X3_172 iM_X3_readCondition sM_X3_readCondition (hv52.sh rfl) rfl rfl rfl (Nat.le_of_ble_eq_true rfl) (show d + 1 + 4 + 1 ≤ d + 6 by omega) (show 8 + (3 + 11) + 40 * (d + 1 + 4) ≤ 40 * (d + 6) by omega) (g_c0 hv52.ln) (Nat.le_of_ble_eq_true rfl) dX3_readStatement_117 ?_
          intro r h55 hq _
          obtain ⟨rfl, hv55, pt55⟩ := hq
          have pr55 : PR h → PR h55 := fun z => pt55 (pr52 z)
          obtain ⟨u56, u56w⟩ : ∃ v : Int32, v = h55.2.1 34 2 := ⟨_, rfl⟩
          have u56e : (h55.2.1 34 2).toInt = u56.toInt := by rw [u56w]
          have u56l : 0 ≤ u56.toInt := by rw [u56w]; exact (hv55.2.1 34 2).1
          have u56u : u56.toInt ≤ 500 := by rw [u56w]; exact (hv55.2.1 34 2).2
          obtain ⟨u57, u57w⟩ : ∃ v : Int32, v = h55.2.1 34 7 := ⟨_, rfl⟩
          have u57e : (h55.2.1 34 7).toInt = u57.toInt := by rw [u57w]
          have u57l : 0 ≤ u57.toInt := by rw [u57w]; exact (hv55.2.1 34 7).1
          have u57u : u57.toInt ≤ 7 := by rw [u57w]; exact (hv55.2.1 34 7).2
          refine go_goto (pc := 120) (tgt := 142) (by decide) dX3_readStatement_120 ?_
          exact gi_vret (pc := 142) ⟨rfl, ⟨Q25, hv55, (by show (0 : Int) = 0; omega), (by first | rfl | (simp only [r29, r28, r27])), (by first | rfl | (simp only [r29, r28, r27])), (by first | rfl | (simp only [r29, r28, r27]))⟩, pr55⟩ hv55 dX3_readStatement_142
        ·
          refine go_iload_n (pc := 108) rfl dX3_readStatement_108 ?_
          refine go_iconst (pc := 109) (v := 3) (by decide) dX3_readStatement_109 ?_
          refine gf_icmp_ne (pc := 110) (tgt := 123) (ti_rfl v4) (ti_c (v := 3) (a := 3) (by decide)) (by decide) dX3_readStatement_110 (fun q58 => ?_) (fun q58 => ?_)
          ·
            refine go_aload_n (pc := 123) rfl dX3_readStatement_123 ?_
            refine gi_getC (pc := 124) hv52 fL_X3_46 rfl (Nat.le_of_ble_eq_true rfl) rfl (by decide) dX3_readStatement_124 (fun c59 hc59 fc59 => ?_)
            refine gi_getF (pc := 127) (q := c59 + 9) hv52 fL_X3_175 (by rcases hc59 with rfl | rfl <;> rfl) (Nat.le_of_ble_eq_true rfl) rfl (by rcases hc59 with rfl | rfl <;> exact hv52.rf (by decide)) dX3_readStatement_127 ?_
            refine go_iload_n (pc := 130) rfl dX3_readStatement_130 ?_
            refine go_aload_n (pc := 131) rfl dX3_readStatement_131 ?_
            have g60 : (0 : Int) ≤ (h52.2.1 34 2).toInt := (hv52.2.1 34 2).1
            have g61 : (h52.2.1 34 2).toInt ≤ 500 := (hv52.2.1 34 2).2
            have g62 : (0 : Int) ≤ (h52.2.1 34 7).toInt := (hv52.2.1 34 7).1
            have g63 : (h52.2.1 34 7).toInt ≤ 7 := (hv52.2.1 34 7).2
            have g64 : (h52.2.1 34 7).toInt = u48.toInt := by rw [← (show u48 = h52.2.1 34 7 from (show u48 = h52.2.1 34 7 from by rw [hv52e]; exact (g_iI rfl u48w.symm).symm))] <;> exact (ti_rfl u48)
            have g65 : (h52.2.1 34 2).toInt = (u47.toInt + 1) := by rw [← (show v50 = h52.2.1 34 2 from (show v50 = h52.2.1 34 2 from by rw [hv52e]; exact g_iS.symm))] <;> exact e51
            refine go_invV (pc := 132) (sl := 0) (s_X3_readOperand l (d + 2) hv52 ) mL_X3_178 iM_X3_readOperand sM_X3_readOperand (hv52.sh rfl) rfl rfl rfl (Nat.le_of_ble_eq_true rfl) (show d + 2 + 3 + 1 ≤ d + 6 by omega) (show 8 + (3 + 11) + 40 * (d + 2 + 3) ≤ 40 * (d + 6) by omega) (g_c0 hv52.ln) (Nat.le_of_ble_eq_true rfl) dX3_readStatement_132 ?_
            intro r h66 hq _
            obtain ⟨v69, rfl, v69l, v69u, hv66, f67, f68, pt66⟩ := hq
            have pr66 : PR h → PR h66 := fun z => pt66 (pr52 z)
            obtain ⟨u70, u70w⟩ : ∃ v : Int32, v = h66.2.1 34 2 := ⟨_, rfl⟩
            have u70e : (h66.2.1 34 2).toInt = u70.toInt := by rw [u70w]
            have u70l : 0 ≤ u70.toInt := by rw [u70w]; exact (hv66.2.1 34 2).1
            have u70u : u70.toInt ≤ 500 := by rw [u70w]; exact (hv66.2.1 34 2).2
            obtain ⟨u71, u71w⟩ : ∃ v : Int32, v = h66.2.1 34 7 := ⟨_, rfl⟩
            have u71e : (h66.2.1 34 7).toInt = u71.toInt := by rw [u71w]
            have u71l : 0 ≤ u71.toInt := by rw [u71w]; exact (hv66.2.1 34 7).1
            have u71u : u71.toInt ≤ 7 := by rw [u71w]; exact (hv66.2.1 34 7).2
            refine gi_iast (pc := 135) (lo := -2147483648) (hi := 2147483647) (len := 40) hv66 (ti_rfl v33) (ti_rfl v69) (by rcases hc59 with rfl | rfl <;> rfl) (by omega) (by omega) (fun _ => by rcases hc59 with rfl | rfl <;> rfl) (ti_ge (ti_rfl v69)) (ti_le2 (ti_rfl v69)) (by rcases hc59 with rfl | rfl <;> decide) dX3_readStatement_135 (fun h72 hv72 hv72e => ?_)
            have pr72 : PR h → PR h72 := fun z => by rw [hv72e]; exact PR.put hv66 (pr66 z) (by omega)
            refine go_aload_n (pc := 136) rfl dX3_readStatement_136 ?_
            refine go_bipush (pc := 137) (v := 59) (by decide) dX3_readStatement_137 ?_
            have g73 : (0 : Int) ≤ (h72.2.1 34 2).toInt := (hv72.2.1 34 2).1
            have g74 : (h72.2.1 34 2).toInt ≤ 500 := (hv72.2.1 34 2).2
            have g75 : (0 : Int) ≤ (h72.2.1 34 7).toInt := (hv72.2.1 34 7).1
            have g76 : (h72.2.1 34 7).toInt ≤ 7 := (hv72.2.1 34 7).2
            have g77 : (h72.2.1 34 2).toInt = u70.toInt := by rw [← (show u70 = h72.2.1 34 2 from (show u70 = h72.2.1 34 2 from by rw [hv72e]; exact (g_iIc (by omega) (by decide) u70w.symm).symm))] <;> exact (ti_rfl u70)
            have g78 : (h72.2.1 34 7).toInt = u71.toInt := by rw [← (show u71 = h72.2.1 34 7 from (show u71 = h72.2.1 34 7 from by rw [hv72e]; exact (g_iIc (by omega) (by decide) u71w.symm).symm))] <;> exact (ti_rfl u71)
            refine go_invV (pc := 139) (sl := 0) (s_X3_take l (d + 3) hv72 59 (by rw [show (59 : Int32).toInt = 59 from (ti_c (v := 59) (a := 59) (by decide))]; omega) (by rw [show (59 : Int32).toInt = 59 from (ti_c (v := 59) (a := 59) (by decide))]; omega)) mL_X3_181 iM_X3_take sM_X3_take (hv72.sh rfl) rfl rfl rfl (Nat.le_of_ble_eq_true rfl) (show d + 3 + 2 + 1 ≤ d + 6 by omega) (show 8 + (2 + 11) + 40 * (d + 3 + 2) ≤ 40 * (d + 6) by omega) (g_c0 hv72.ln) (Nat.le_of_ble_eq_true rfl) dX3_readStatement_139 ?_
            intro r h79 hq _
            obtain ⟨rfl, hv79, f80, f81, pt79⟩ := hq
            have pr79 : PR h → PR h79 := fun z => pt79 (pr72 z)
            try rw [show (59 : Int32).toInt = 59 from (ti_c (v := 59) (a := 59) (by decide))] at f80
            try rw [show (59 : Int32).toInt = 59 from (ti_c (v := 59) (a := 59) (by decide))] at f81
            obtain ⟨u82, u82w⟩ : ∃ v : Int32, v = h79.2.1 34 2 := ⟨_, rfl⟩
            have u82e : (h79.2.1 34 2).toInt = u82.toInt := by rw [u82w]
            have u82l : 0 ≤ u82.toInt := by rw [u82w]; exact (hv79.2.1 34 2).1
            have u82u : u82.toInt ≤ 500 := by rw [u82w]; exact (hv79.2.1 34 2).2
            obtain ⟨u83, u83w⟩ : ∃ v : Int32, v = h79.2.1 34 7 := ⟨_, rfl⟩
            have u83e : (h79.2.1 34 7).toInt = u83.toInt := by rw [u83w]
            have u83l : 0 ≤ u83.toInt := by rw [u83w]; exact (hv79.2.1 34 7).1
            have u83u : u83.toInt ≤ 7 := by rw [u83w]; exact (hv79.2.1 34 7).2
            exact gi_vret (pc := 142) ⟨rfl, ⟨Q25, hv79, (by show (0 : Int) = 0; omega), (by first | rfl | (simp only [r29, r28, r27])), (by first | rfl | (simp only [r29, r28, r27])), (by first | rfl | (simp only [r29, r28, r27]))⟩, pr79⟩ hv79 dX3_readStatement_142
          ·
            refine go_aload_n (pc := 113) rfl dX3_readStatement_113 ?_
            refine go_iload_n (pc := 114) rfl dX3_readStatement_114 ?_
            refine go_iload (pc := 115) rfl dX3_readStatement_115 ?_
            refine go_invV (pc := 117) (sl := 0) (s_X3_readCondition l (d + 1) hv52 v33 (by rw [show (v33 : Int32).toInt = v33.toInt from (ti_rfl v33)]; omega) (by rw [show (v33 : Int32).toInt = v33.toInt from (ti_rfl v33)]; omega) v46 (by rw [show (v46 : Int32).toInt = v46.toInt from (ti_rfl v46)]; omega) (by rw [show (v46 : Int32).toInt = v46.toInt from (ti_rfl v46)]; omega)) mL_X3_172 iM_X3_readCondition sM_X3_readCondition (hv52.sh rfl) rfl rfl rfl (Nat.le_of_ble_eq_true rfl) (show d + 1 + 4 + 1 ≤ d + 6 by omega) (show 8 + (3 + 11) + 40 * (d + 1 + 4) ≤ 40 * (d + 6) by omega) (g_c0 hv52.ln) (Nat.le_of_ble_eq_true rfl) dX3_readStatement_117 ?_
            intro r h84 hq _
            obtain ⟨rfl, hv84, pt84⟩ := hq
            have pr84 : PR h → PR h84 := fun z => pt84 (pr52 z)
            obtain ⟨u85, u85w⟩ : ∃ v : Int32, v = h84.2.1 34 2 := ⟨_, rfl⟩
            have u85e : (h84.2.1 34 2).toInt = u85.toInt := by rw [u85w]
            have u85l : 0 ≤ u85.toInt := by rw [u85w]; exact (hv84.2.1 34 2).1
            have u85u : u85.toInt ≤ 500 := by rw [u85w]; exact (hv84.2.1 34 2).2
            obtain ⟨u86, u86w⟩ : ∃ v : Int32, v = h84.2.1 34 7 := ⟨_, rfl⟩
            have u86e : (h84.2.1 34 7).toInt = u86.toInt := by rw [u86w]
            have u86l : 0 ≤ u86.toInt := by rw [u86w]; exact (hv84.2.1 34 7).1
            have u86u : u86.toInt ≤ 7 := by rw [u86w]; exact (hv84.2.1 34 7).2
            refine go_goto (pc := 120) (tgt := 142) (by decide) dX3_readStatement_120 ?_
            exact gi_vret (pc := 142) ⟨rfl, ⟨Q25, hv84, (by show (0 : Int) = 0; omega), (by first | rfl | (simp only [r29, r28, r27])), (by first | rfl | (simp only [r29, r28, r27])), (by first | rfl | (simp only [r29, r28, r27]))⟩, pr84⟩ hv84 dX3_readStatement_142
      ·
        refine go_aload_n (pc := 91) rfl dX3_readStatement_91 ?_
        refine go_iload_n (pc := 92) rfl dX3_readStatement_92 ?_
        refine go_iload_n (pc := 93) rfl dX3_readStatement_93 ?_
        refine go_invS (pc := 94) (sl := 0) (s_X3_nameOf l (d + 4) hv52 a2) mL_X3_137 iM_X3_nameOf rfl rfl (Nat.le_of_ble_eq_true rfl) (show d + 4 + 1 + 1 ≤ d + 6 by omega) (show 8 + (1 + 11) + 40 * (d + 4 + 1) ≤ 40 * (d + 6) by omega) (g_c0 hv52.ln) (Nat.le_of_ble_eq_true rfl) dX3_readStatement_94 ?_
        intro r h87 hq _
        obtain ⟨v89, rfl, v89l, v89u, rfl, f88⟩ := hq
        have g90 : (0 : Int) ≤ (h52.2.1 34 2).toInt := (hv52.2.1 34 2).1
        have g91 : (h52.2.1 34 2).toInt ≤ 500 := (hv52.2.1 34 2).2
        have g92 : (0 : Int) ≤ (h52.2.1 34 7).toInt := (hv52.2.1 34 7).1
        have g93 : (h52.2.1 34 7).toInt ≤ 7 := (hv52.2.1 34 7).2
        have g94 : (h52.2.1 34 7).toInt = u48.toInt := by rw [← (show u48 = h52.2.1 34 7 from (show u48 = h52.2.1 34 7 from by rw [hv52e]; exact (g_iI rfl u48w.symm).symm))] <;> exact (ti_rfl u48)
        have g95 : (h52.2.1 34 2).toInt = (u47.toInt + 1) := by rw [← (show v50 = h52.2.1 34 2 from (show v50 = h52.2.1 34 2 from by rw [hv52e]; exact g_iS.symm))] <;> exact e51
        refine go_invV (pc := 97) (sl := 0) (s_X3_readAssignment l (d + 0) hv52 v33 (by rw [show (v33 : Int32).toInt = v33.toInt from (ti_rfl v33)]; omega) (by rw [show (v33 : Int32).toInt = v33.toInt from (ti_rfl v33)]; omega) v89 (by rw [show (v89 : Int32).toInt = v89.toInt from (ti_rfl v89)]; omega) (by rw [show (v89 : Int32).toInt = v89.toInt from (ti_rfl v89)]; omega)) mL_X3_169 iM_X3_readAssignment sM_X3_readAssignment (hv52.sh rfl) rfl rfl rfl (Nat.le_of_ble_eq_true rfl) (show d + 0 + 5 + 1 ≤ d + 6 by omega) (show 8 + (4 + 11) + 40 * (d + 0 + 5) ≤ 40 * (d + 6) by omega) (g_c0 hv52.ln) (Nat.le_of_ble_eq_true rfl) dX3_readStatement_97 ?_
        intro r h96 hq _
        obtain ⟨rfl, ⟨Q97, hv96, r98, r99, r100, r101⟩, f102, f103, pt96⟩ := hq
        have pr96 : PR h → PR h96 := fun z => pt96 (pr52 z)
        have r98 : (0 : Int) = 0 := r98
        obtain ⟨u104, u104w⟩ : ∃ v : Int32, v = h96.2.1 34 2 := ⟨_, rfl⟩
        have u104e : (h96.2.1 34 2).toInt = u104.toInt := by rw [u104w]
        have u104l : 0 ≤ u104.toInt := by rw [u104w]; exact (hv96.2.1 34 2).1
        have u104u : u104.toInt ≤ 500 := by rw [u104w]; exact (hv96.2.1 34 2).2
        obtain ⟨u105, u105w⟩ : ∃ v : Int32, v = h96.2.1 34 7 := ⟨_, rfl⟩
        have u105e : (h96.2.1 34 7).toInt = u105.toInt := by rw [u105w]
        have u105l : 0 ≤ u105.toInt := by rw [u105w]; exact (hv96.2.1 34 7).1
        have u105u : u105.toInt ≤ 7 := by rw [u105w]; exact (hv96.2.1 34 7).2
        refine go_goto (pc := 100) (tgt := 142) (by decide) dX3_readStatement_100 ?_
        exact gi_vret (pc := 142) ⟨rfl, ⟨Q97, hv96, (by show (0 : Int) = 0; omega), (by first | rfl | (simp only [r101, r100, r99, r29, r28, r27])), (by first | rfl | (simp only [r101, r100, r99, r29, r28, r27])), (by first | rfl | (simp only [r101, r100, r99, r29, r28, r27]))⟩, pr96⟩ hv96 dX3_readStatement_142
    ·
      refine go_aload_n (pc := 32) rfl dX3_readStatement_32 ?_
      refine go_iconst (pc := 33) (v := 4) (by decide) dX3_readStatement_33 ?_
      refine go_aload_n (pc := 34) rfl dX3_readStatement_34 ?_
      refine gi_get (pc := 35) (lo := 0) (hi := 500) hv fL_X3_19 rfl (Nat.le_of_ble_eq_true rfl) rfl rfl dX3_readStatement_35 (fun v106 v106l v106u v106w => ?_)
      have v106r : u34_2 = h.2.1 34 2 := u34_2w
      have v106q : TI v106 u34_2.toInt := by rw [v106w.trans v106r.symm]; exact (ti_rfl u34_2)
      have g107 : (0 : Int) ≤ (h.2.1 34 2).toInt := (hv.2.1 34 2).1
      have g108 : (h.2.1 34 2).toInt ≤ 500 := (hv.2.1 34 2).2
      have g109 : (0 : Int) ≤ (h.2.1 34 7).toInt := (hv.2.1 34 7).1
      have g110 : (h.2.1 34 7).toInt ≤ 7 := (hv.2.1 34 7).2
      have g111 : (h.2.1 34 2).toInt = u34_2.toInt := by rw [← (show u34_2 = h.2.1 34 2 from u34_2w)] <;> exact (ti_rfl u34_2)
      have g112 : (h.2.1 34 7).toInt = u34_7.toInt := by rw [← (show u34_7 = h.2.1 34 7 from u34_7w)] <;> exact (ti_rfl u34_7)
      refine go_invV (pc := 38) (sl := 0) (s_X3_blame l (d + 4) hv 4 (by rw [show (4 : Int32).toInt = 4 from (ti_c (v := 4) (a := 4) (by decide))]; omega) (by rw [show (4 : Int32).toInt = 4 from (ti_c (v := 4) (a := 4) (by decide))]; omega) v106 (by rw [show (v106 : Int32).toInt = u34_2.toInt from v106q]; omega) (by rw [show (v106 : Int32).toInt = u34_2.toInt from v106q]; omega)) mL_X3_101 iM_X3_blame sM_X3_blame (hv.sh rfl) rfl rfl rfl (Nat.le_of_ble_eq_true rfl) (show d + 4 + 1 + 1 ≤ d + 6 by omega) (show 8 + (3 + 11) + 40 * (d + 4 + 1) ≤ 40 * (d + 6) by omega) (g_c0 hv.ln) (Nat.le_of_ble_eq_true rfl) dX3_readStatement_38 ?_
      intro r h113 hq _
      obtain ⟨rfl, hv113, f114, f115, f116, f117, pt113⟩ := hq
      have pr113 : PR h → PR h113 := fun z => pt113 (pr z)
      try rw [show (4 : Int32).toInt = 4 from (ti_c (v := 4) (a := 4) (by decide))] at f114
      try rw [show (v106 : Int32).toInt = u34_2.toInt from v106q] at f114
      try rw [show (4 : Int32).toInt = 4 from (ti_c (v := 4) (a := 4) (by decide))] at f115
      try rw [show (v106 : Int32).toInt = u34_2.toInt from v106q] at f115
      try rw [show (4 : Int32).toInt = 4 from (ti_c (v := 4) (a := 4) (by decide))] at f116
      try rw [show (v106 : Int32).toInt = u34_2.toInt from v106q] at f116
      try rw [show (4 : Int32).toInt = 4 from (ti_c (v := 4) (a := 4) (by decide))] at f117
      try rw [show (v106 : Int32).toInt = u34_2.toInt from v106q] at f117
      obtain ⟨u118, u118w⟩ : ∃ v : Int32, v = h113.2.1 34 2 := ⟨_, rfl⟩
      have u118e : (h113.2.1 34 2).toInt = u118.toInt := by rw [u118w]
      have u118l : 0 ≤ u118.toInt := by rw [u118w]; exact (hv113.2.1 34 2).1
      have u118u : u118.toInt ≤ 500 := by rw [u118w]; exact (hv113.2.1 34 2).2
      obtain ⟨u119, u119w⟩ : ∃ v : Int32, v = h113.2.1 34 7 := ⟨_, rfl⟩
      have u119e : (h113.2.1 34 7).toInt = u119.toInt := by rw [u119w]
      have u119l : 0 ≤ u119.toInt := by rw [u119w]; exact (hv113.2.1 34 7).1
      have u119u : u119.toInt ≤ 7 := by rw [u119w]; exact (hv113.2.1 34 7).2
      exact gi_vret (pc := 41) ⟨rfl, ⟨P, hv113, (by show (0 : Int) = 0; omega), (by first | rfl | (simp only [r101, r100, r99, r29, r28, r27])), (by first | rfl | (simp only [r101, r100, r99, r29, r28, r27])), (by first | rfl | (simp only [r101, r100, r99, r29, r28, r27]))⟩, pr113⟩ hv113 dX3_readStatement_41
  ·
    refine go_aload_n (pc := 10) rfl dX3_readStatement_10 ?_
    refine go_iconst (pc := 11) (v := 1) (by decide) dX3_readStatement_11 ?_
    refine go_aload_n (pc := 12) rfl dX3_readStatement_12 ?_
    refine gi_get (pc := 13) (lo := 0) (hi := 500) hv fL_X3_19 rfl (Nat.le_of_ble_eq_true rfl) rfl rfl dX3_readStatement_13 (fun v120 v120l v120u v120w => ?_)
    have v120r : u34_2 = h.2.1 34 2 := u34_2w
    have v120q : TI v120 u34_2.toInt := by rw [v120w.trans v120r.symm]; exact (ti_rfl u34_2)
    have g121 : (0 : Int) ≤ (h.2.1 34 2).toInt := (hv.2.1 34 2).1
    have g122 : (h.2.1 34 2).toInt ≤ 500 := (hv.2.1 34 2).2
    have g123 : (0 : Int) ≤ (h.2.1 34 7).toInt := (hv.2.1 34 7).1
    have g124 : (h.2.1 34 7).toInt ≤ 7 := (hv.2.1 34 7).2
    have g125 : (h.2.1 34 2).toInt = u34_2.toInt := by rw [← (show u34_2 = h.2.1 34 2 from u34_2w)] <;> exact (ti_rfl u34_2)
    have g126 : (h.2.1 34 7).toInt = u34_7.toInt := by rw [← (show u34_7 = h.2.1 34 7 from u34_7w)] <;> exact (ti_rfl u34_7)
    refine go_invV (pc := 16) (sl := 0) (s_X3_blame l (d + 4) hv 1 (by rw [show (1 : Int32).toInt = 1 from (ti_c (v := 1) (a := 1) (by decide))]; omega) (by rw [show (1 : Int32).toInt = 1 from (ti_c (v := 1) (a := 1) (by decide))]; omega) v120 (by rw [show (v120 : Int32).toInt = u34_2.toInt from v120q]; omega) (by rw [show (v120 : Int32).toInt = u34_2.toInt from v120q]; omega)) mL_X3_101 iM_X3_blame sM_X3_blame (hv.sh rfl) rfl rfl rfl (Nat.le_of_ble_eq_true rfl) (show d + 4 + 1 + 1 ≤ d + 6 by omega) (show 8 + (3 + 11) + 40 * (d + 4 + 1) ≤ 40 * (d + 6) by omega) (g_c0 hv.ln) (Nat.le_of_ble_eq_true rfl) dX3_readStatement_16 ?_
    intro r h127 hq _
    obtain ⟨rfl, hv127, f128, f129, f130, f131, pt127⟩ := hq
    have pr127 : PR h → PR h127 := fun z => pt127 (pr z)
    try rw [show (1 : Int32).toInt = 1 from (ti_c (v := 1) (a := 1) (by decide))] at f128
    try rw [show (v120 : Int32).toInt = u34_2.toInt from v120q] at f128
    try rw [show (1 : Int32).toInt = 1 from (ti_c (v := 1) (a := 1) (by decide))] at f129
    try rw [show (v120 : Int32).toInt = u34_2.toInt from v120q] at f129
    try rw [show (1 : Int32).toInt = 1 from (ti_c (v := 1) (a := 1) (by decide))] at f130
    try rw [show (v120 : Int32).toInt = u34_2.toInt from v120q] at f130
    try rw [show (1 : Int32).toInt = 1 from (ti_c (v := 1) (a := 1) (by decide))] at f131
    try rw [show (v120 : Int32).toInt = u34_2.toInt from v120q] at f131
    obtain ⟨u132, u132w⟩ : ∃ v : Int32, v = h127.2.1 34 2 := ⟨_, rfl⟩
    have u132e : (h127.2.1 34 2).toInt = u132.toInt := by rw [u132w]
    have u132l : 0 ≤ u132.toInt := by rw [u132w]; exact (hv127.2.1 34 2).1
    have u132u : u132.toInt ≤ 500 := by rw [u132w]; exact (hv127.2.1 34 2).2
    obtain ⟨u133, u133w⟩ : ∃ v : Int32, v = h127.2.1 34 7 := ⟨_, rfl⟩
    have u133e : (h127.2.1 34 7).toInt = u133.toInt := by rw [u133w]
    have u133l : 0 ≤ u133.toInt := by rw [u133w]; exact (hv127.2.1 34 7).1
    have u133u : u133.toInt ≤ 7 := by rw [u133w]; exact (hv127.2.1 34 7).2
    exact gi_vret (pc := 19) ⟨rfl, ⟨P, hv127, (by show (0 : Int) = 0; omega), (by first | rfl | (simp only [r101, r100, r99, r29, r28, r27])), (by first | rfl | (simp only [r101, r100, r99, r29, r28, r27])), (by first | rfl | (simp only [r101, r100, r99, r29, r28, r27]))⟩, pr127⟩ hv127 dX3_readStatement_19
