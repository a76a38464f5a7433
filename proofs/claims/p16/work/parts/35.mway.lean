/-- all items behind i up to x lie deeper -/
def XC (F : FN) (s i x : Int) : Prop := i ≤ x ∧ x < 130 * s + V F 73 s ∧ ∀ k, i < k → k ≤ x → V F 80 i < V F 80 k
theorem XC.self {F : FN} {s i : Int} (h : II F s i) : XC F s i i := ⟨Int.le_refl _, h.2, fun k h1 h2 => by omega⟩
theorem XC.up {F : FN} {s i x : Int} (t : TR F s) (hi : II F s i) (h : XC F s i x) : BB F s (V F 88 i) ∧ (V F 92 (V F 88 i) = -1 ∨ (XC F s (V F 92 (V F 88 i)) x ∧ V F 80 (V F 92 (V F 88 i)) + 1 = V F 80 i)) := by
  have w := t.2.2.1 i hi
  refine ⟨w.1, ?_⟩
  rcases w.2 with q | ⟨q1, q2, q3, q4⟩
  · exact Or.inl q.1
  · refine Or.inr ⟨⟨by have := h.1; omega, h.2.1, fun k h1 h2 => ?_⟩, q3⟩
    by_cases e : k ≤ i
    · have := q4 k h1 e; omega
    · have := h.2.2 k (by omega) h2; omega
theorem XC.next {F : FN} {s i x : Int} (hs : 0 ≤ s) (t : TR F s) (hi : II F s i) (h : XC F s i x) (hn : ¬ V F 87 i = -1) : II F s (V F 87 i) ∧ x < V F 87 i ∧ V F 80 (V F 87 i) = V F 80 i := by
  rcases t.2.1 i hi with q | ⟨q1, q2, q3⟩
  · exact absurd q hn
  · have hj : II F s (V F 87 i) := ⟨by have := hi.1; omega, q2⟩
    have e : V F 80 (V F 87 i) = V F 80 i := by
      have a := (t.2.2.1 i hi).2
      have b := (t.2.2.1 _ hj).2
      rw [q3] at b
      rcases a with a | a <;> rcases b with b | b <;> omega
    refine ⟨hj, ?_, e⟩
    by_cases c : V F 87 i ≤ x
    · have := h.2.2 _ q1 c; omega
    · omega
theorem dX8_behind_0 : decode cX8_behind 0 = .ok (.aload_n 0, 1) := by decide +kernel
theorem dX8_behind_1 : decode cX8_behind 1 = .ok (.getfield 59, 3) := by decide +kernel
theorem dX8_behind_4 : decode cX8_behind 4 = .ok (.iload_n 1, 1) := by decide +kernel
theorem dX8_behind_5 : decode cX8_behind 5 = .ok (.iaload, 1) := by decide +kernel
theorem dX8_behind_6 : decode cX8_behind 6 = .ok (.iconst (-1), 1) := by decide +kernel
theorem dX8_behind_7 : decode cX8_behind 7 = .ok (.if_icmp .ne 16, 3) := by decide +kernel
theorem dX8_behind_10 : decode cX8_behind 10 = .ok (.aload_n 0, 1) := by decide +kernel
theorem dX8_behind_11 : decode cX8_behind 11 = .ok (.aload_n 0, 1) := by decide +kernel
theorem dX8_behind_12 : decode cX8_behind 12 = .ok (.getfield 62, 3) := by decide +kernel
theorem dX8_behind_15 : decode cX8_behind 15 = .ok (.iload_n 1, 1) := by decide +kernel
theorem dX8_behind_16 : decode cX8_behind 16 = .ok (.iaload, 1) := by decide +kernel
theorem dX8_behind_17 : decode cX8_behind 17 = .ok (.invokevirtual 256, 3) := by decide +kernel
theorem dX8_behind_20 : decode cX8_behind 20 = .ok (.goto 13, 3) := by decide +kernel
theorem dX8_behind_23 : decode cX8_behind 23 = .ok (.aload_n 0, 1) := by decide +kernel
theorem dX8_behind_24 : decode cX8_behind 24 = .ok (.aload_n 0, 1) := by decide +kernel
theorem dX8_behind_25 : decode cX8_behind 25 = .ok (.getfield 59, 3) := by decide +kernel
theorem dX8_behind_28 : decode cX8_behind 28 = .ok (.iload_n 1, 1) := by decide +kernel
theorem dX8_behind_29 : decode cX8_behind 29 = .ok (.iaload, 1) := by decide +kernel
theorem dX8_behind_30 : decode cX8_behind 30 = .ok (.invokevirtual 259, 3) := by decide +kernel
theorem dX8_behind_33 : decode cX8_behind 33 = .ok (.ireturn, 1) := by decide +kernel
theorem dX8_endOf_0 : decode cX8_endOf 0 = .ok (.aload_n 0, 1) := by decide +kernel
theorem dX8_endOf_1 : decode cX8_endOf 1 = .ok (.getfield 74, 3) := by decide +kernel
theorem dX8_endOf_4 : decode cX8_endOf 4 = .ok (.iload_n 1, 1) := by decide +kernel
theorem dX8_endOf_5 : decode cX8_endOf 5 = .ok (.iaload, 1) := by decide +kernel
theorem dX8_endOf_6 : decode cX8_endOf 6 = .ok (.iconst (-1), 1) := by decide +kernel
theorem dX8_endOf_7 : decode cX8_endOf 7 = .ok (.if_icmp .ne 7, 3) := by decide +kernel
theorem dX8_endOf_10 : decode cX8_endOf 10 = .ok (.iconst (-1), 1) := by decide +kernel
theorem dX8_endOf_11 : decode cX8_endOf 11 = .ok (.goto 42, 3) := by decide +kernel
theorem dX8_endOf_14 : decode cX8_endOf 14 = .ok (.aload_n 0, 1) := by decide +kernel
theorem dX8_endOf_15 : decode cX8_endOf 15 = .ok (.getfield 29, 3) := by decide +kernel
theorem dX8_endOf_18 : decode cX8_endOf 18 = .ok (.aload_n 0, 1) := by decide +kernel
theorem dX8_endOf_19 : decode cX8_endOf 19 = .ok (.getfield 74, 3) := by decide +kernel
theorem dX8_endOf_22 : decode cX8_endOf 22 = .ok (.iload_n 1, 1) := by decide +kernel
theorem dX8_endOf_23 : decode cX8_endOf 23 = .ok (.iaload, 1) := by decide +kernel
theorem dX8_endOf_24 : decode cX8_endOf 24 = .ok (.iaload, 1) := by decide +kernel
theorem dX8_endOf_25 : decode cX8_endOf 25 = .ok (.iconst 3, 1) := by decide +kernel
theorem dX8_endOf_26 : decode cX8_endOf 26 = .ok (.if_icmp .ne 17, 3) := by decide +kernel
theorem dX8_endOf_29 : decode cX8_endOf 29 = .ok (.aload_n 0, 1) := by decide +kernel
theorem dX8_endOf_30 : decode cX8_endOf 30 = .ok (.getfield 32, 3) := by decide +kernel
theorem dX8_endOf_33 : decode cX8_endOf 33 = .ok (.aload_n 0, 1) := by decide +kernel
theorem dX8_endOf_34 : decode cX8_endOf 34 = .ok (.getfield 74, 3) := by decide +kernel
theorem dX8_endOf_37 : decode cX8_endOf 37 = .ok (.iload_n 1, 1) := by decide +kernel
theorem dX8_endOf_38 : decode cX8_endOf 38 = .ok (.iaload, 1) := by decide +kernel
theorem dX8_endOf_39 : decode cX8_endOf 39 = .ok (.iaload, 1) := by decide +kernel
theorem dX8_endOf_40 : decode cX8_endOf 40 = .ok (.goto 13, 3) := by decide +kernel
theorem dX8_endOf_43 : decode cX8_endOf 43 = .ok (.aload_n 0, 1) := by decide +kernel
theorem dX8_endOf_44 : decode cX8_endOf 44 = .ok (.aload_n 0, 1) := by decide +kernel
theorem dX8_endOf_45 : decode cX8_endOf 45 = .ok (.getfield 74, 3) := by decide +kernel
theorem dX8_endOf_48 : decode cX8_endOf 48 = .ok (.iload_n 1, 1) := by decide +kernel
theorem dX8_endOf_49 : decode cX8_endOf 49 = .ok (.iaload, 1) := by decide +kernel
theorem dX8_endOf_50 : decode cX8_endOf 50 = .ok (.invokevirtual 262, 3) := by decide +kernel
theorem dX8_endOf_53 : decode cX8_endOf 53 = .ok (.ireturn, 1) := by decide +kernel
theorem dX8_entryOf_0 : decode cX8_entryOf 0 = .ok (.aload_n 0, 1) := by decide +kernel
theorem dX8_entryOf_1 : decode cX8_entryOf 1 = .ok (.getfield 29, 3) := by decide +kernel
theorem dX8_entryOf_4 : decode cX8_entryOf 4 = .ok (.iload_n 1, 1) := by decide +kernel
theorem dX8_entryOf_5 : decode cX8_entryOf 5 = .ok (.iaload, 1) := by decide +kernel
theorem dX8_entryOf_6 : decode cX8_entryOf 6 = .ok (.bipush 6, 2) := by decide +kernel
theorem dX8_entryOf_8 : decode cX8_entryOf 8 = .ok (.if_icmp .ne 16, 3) := by decide +kernel
theorem dX8_entryOf_11 : decode cX8_entryOf 11 = .ok (.aload_n 0, 1) := by decide +kernel
theorem dX8_entryOf_12 : decode cX8_entryOf 12 = .ok (.aload_n 0, 1) := by decide +kernel
theorem dX8_entryOf_13 : decode cX8_entryOf 13 = .ok (.getfield 53, 3) := by decide +kernel
theorem dX8_entryOf_16 : decode cX8_entryOf 16 = .ok (.iload_n 1, 1) := by decide +kernel
theorem dX8_entryOf_17 : decode cX8_entryOf 17 = .ok (.iaload, 1) := by decide +kernel
theorem dX8_entryOf_18 : decode cX8_entryOf 18 = .ok (.invokevirtual 253, 3) := by decide +kernel
theorem dX8_entryOf_21 : decode cX8_entryOf 21 = .ok (.goto 9, 3) := by decide +kernel
theorem dX8_entryOf_24 : decode cX8_entryOf 24 = .ok (.aload_n 0, 1) := by decide +kernel
theorem dX8_entryOf_25 : decode cX8_entryOf 25 = .ok (.getfield 32, 3) := by decide +kernel
theorem dX8_entryOf_28 : decode cX8_entryOf 28 = .ok (.iload_n 1, 1) := by decide +kernel
theorem dX8_entryOf_29 : decode cX8_entryOf 29 = .ok (.iaload, 1) := by decide +kernel
theorem dX8_entryOf_30 : decode cX8_entryOf 30 = .ok (.ireturn, 1) := by decide +kernel
theorem dX8_firstOf_0 : decode cX8_firstOf 0 = .ok (.aload_n 0, 1) := by decide +kernel
theorem dX8_firstOf_1 : decode cX8_firstOf 1 = .ok (.getfield 68, 3) := by decide +kernel
theorem dX8_firstOf_4 : decode cX8_firstOf 4 = .ok (.iload_n 1, 1) := by decide +kernel
theorem dX8_firstOf_5 : decode cX8_firstOf 5 = .ok (.iaload, 1) := by decide +kernel
theorem dX8_firstOf_6 : decode cX8_firstOf 6 = .ok (.iconst (-1), 1) := by decide +kernel
theorem dX8_firstOf_7 : decode cX8_firstOf 7 = .ok (.if_icmp .ne 11, 3) := by decide +kernel
theorem dX8_firstOf_10 : decode cX8_firstOf 10 = .ok (.aload_n 0, 1) := by decide +kernel
theorem dX8_firstOf_11 : decode cX8_firstOf 11 = .ok (.iload_n 1, 1) := by decide +kernel
theorem dX8_firstOf_12 : decode cX8_firstOf 12 = .ok (.invokevirtual 256, 3) := by decide +kernel
theorem dX8_firstOf_15 : decode cX8_firstOf 15 = .ok (.goto 13, 3) := by decide +kernel
theorem dX8_firstOf_18 : decode cX8_firstOf 18 = .ok (.aload_n 0, 1) := by decide +kernel
theorem dX8_firstOf_19 : decode cX8_firstOf 19 = .ok (.aload_n 0, 1) := by decide +kernel
theorem dX8_firstOf_20 : decode cX8_firstOf 20 = .ok (.getfield 68, 3) := by decide +kernel
theorem dX8_firstOf_23 : decode cX8_firstOf 23 = .ok (.iload_n 1, 1) := by decide +kernel
theorem dX8_firstOf_24 : decode cX8_firstOf 24 = .ok (.iaload, 1) := by decide +kernel
theorem dX8_firstOf_25 : decode cX8_firstOf 25 = .ok (.invokevirtual 259, 3) := by decide +kernel
theorem dX8_firstOf_28 : decode cX8_firstOf 28 = .ok (.ireturn, 1) := by decide +kernel
