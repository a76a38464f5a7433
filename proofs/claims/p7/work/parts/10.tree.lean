abbrev FN : Type := Nat → Nat → Int32
def V (F : FN) (c : Nat) (i : Int) : Int := (F c i.toNat).toInt
def w1 (F : FN) (c : Nat) (i : Int) (x : Int32) : FN := fun p q => if p = c ∧ q = i.toNat then x else F p q
/-- an item, a block of the side s -/
def II (F : FN) (s i : Int) : Prop := 130 * s ≤ i ∧ i < 130 * s + V F 73 s
def BB (F : FN) (s b : Int) : Prop := 280 * s ≤ b ∧ b < 280 * s + V F 74 s
def T1 (F : FN) (s i : Int) : Prop := V F 87 i = -1 ∨ (i < V F 87 i ∧ V F 87 i < 130 * s + V F 73 s ∧ V F 88 (V F 87 i) = V F 88 i)
def T2 (F : FN) (s i : Int) : Prop := BB F s (V F 88 i) ∧ ((V F 92 (V F 88 i) = -1 ∧ V F 80 i = 0) ∨ (130 * s ≤ V F 92 (V F 88 i) ∧ V F 92 (V F 88 i) < i ∧ V F 80 (V F 92 (V F 88 i)) + 1 = V F 80 i ∧ ∀ k, V F 92 (V F 88 i) < k → k ≤ i → V F 80 i ≤ V F 80 k))
def T3 (F : FN) (s i : Int) : Prop := (¬ V F 77 i = 6 → 0 ≤ V F 78 i ∧ V F 78 i < V F 75 s ∧ V F 93 (40 * s + V F 78 i) = i) ∧ (V F 77 i ≤ 1 → 0 ≤ V F 82 i) ∧ (V F 77 i = 1 → V F 82 i ≤ 5) ∧ V F 89 (2 * i) ≤ 1009 ∧ V F 89 (2 * i + 1) ≤ 1009
def T4 (F : FN) (s i : Int) : Prop := (V F 85 i = -1 ∨ (BB F s (V F 85 i) ∧ V F 92 (V F 85 i) = i)) ∧ (V F 86 i = -1 ∨ (BB F s (V F 86 i) ∧ V F 92 (V F 86 i) = i))
def T5 (F : FN) (s b : Int) : Prop := (V F 90 b = -1 ∨ (II F s (V F 90 b) ∧ V F 88 (V F 90 b) = b)) ∧ (V F 91 b = -1 ∨ (II F s (V F 91 b) ∧ V F 88 (V F 91 b) = b)) ∧ (V F 92 b = -1 ∨ II F s (V F 92 b)) ∧ (¬ V F 90 b = -1 → ¬ V F 91 b = -1)
def TR (F : FN) (s : Int) : Prop := (0 ≤ V F 73 s ∧ 0 ≤ V F 74 s ∧ 0 ≤ V F 75 s) ∧ (∀ i, II F s i → T1 F s i) ∧ (∀ i, II F s i → T2 F s i) ∧ (∀ i, II F s i → T3 F s i) ∧ (∀ i, II F s i → T4 F s i) ∧ (∀ b, BB F s b → T5 F s b) ∧ (∀ k, 0 ≤ k → k < V F 75 s → II F s (V F 93 (40 * s + k)))
/-- a block of o may be read at depth d -/
def OO (F : FN) (s o d : Int) : Prop := (o = -1 ∧ d = 0) ∨ (II F s o ∧ V F 80 o + 1 = d ∧ ∀ k, o < k → k < 130 * s + V F 73 s → d ≤ V F 80 k)
def CC (F : FN) (i : Int) : Prop := (V F 77 i = 6 → 0 ≤ V F 82 i ∧ V F 82 i ≤ 5 ∧ 0 ≤ V F 85 i ∧ 0 ≤ V F 86 i) ∧ (V F 77 i = 2 ∨ V F 77 i = 3 → 0 ≤ V F 85 i)
def CN (F : FN) (s n d : Int) : Prop := ∀ j, n ≤ j → j < 130 * s + V F 73 s → d ≤ V F 80 j ∧ CC F j
/-- all items behind i up to x lie deeper -/
def XC (F : FN) (s i x : Int) : Prop := i ≤ x ∧ x < 130 * s + V F 73 s ∧ ∀ k, i < k → k ≤ x → V F 80 i < V F 80 k
theorem XC.self {F : FN} {s i : Int} (h : II F s i) : XC F s i i := ⟨Int.le_refl _, h.2, fun k h1 h2 => by omega⟩
theorem XC.up {F : FN} {s i x : Int} (t : TR F s) (hi : II F s i) (h : XC F s i x) : BB F s (V F 88 i) ∧ (V F 92 (V F 88 i) = -1 ∨ (XC F s (V F 92 (V F 88 i)) x ∧ V F 80 (V F 92 (V F 88 i)) + 1 = V F 80 i)) := by
  have w := t.2.2.1 i hi
  refine ⟨w.1, ?_⟩
  rcases w.2 with q | ⟨q1, q2, q3, q4⟩
  · exact Or.inl q.1
  · refine Or.inr ⟨⟨by have := h.1; omega, h.2.1, fun k h1 h2 => ?_⟩, q3⟩
    by_cases e : k ≤ i
    · have := q4 k h1 e; omega
    · have := h.2.2 k (by omega) h2; omega
theorem XC.next {F : FN} {s i x : Int} (hs : 0 ≤ s) (t : TR F s) (hi : II F s i) (h : XC F s i x) (hn : ¬ V F 87 i = -1) : II F s (V F 87 i) ∧ x < V F 87 i ∧ V F 80 (V F 87 i) = V F 80 i := by
  rcases t.2.1 i hi with q | ⟨q1, q2, q3⟩
  · exact absurd q hn
  · have hj : II F s (V F 87 i) := ⟨by have := hi.1; omega, q2⟩
    have e : V F 80 (V F 87 i) = V F 80 i := by
      have a := (t.2.2.1 i hi).2
      have b := (t.2.2.1 _ hj).2
      rw [q3] at b
      rcases a with a | a <;> rcases b with b | b <;> omega
    refine ⟨hj, ?_, e⟩
    by_cases c : V F 87 i ≤ x
    · have := h.2.2 _ q1 c; omega
    · omega
