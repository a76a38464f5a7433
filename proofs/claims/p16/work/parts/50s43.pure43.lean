/-! the first statement within the catch: what the class holds, what the reference looks for -/
def UNn (t : ST) (b : Int) : Nat → Int → Prop
  | 0, i => gI t 88 i = b
  | n + 1, i => gI t 88 i = b ∨ (¬ gI t 92 (gI t 88 i) = -1 ∧ UNn t b n (gI t 92 (gI t 88 i)))
def UN (t : ST) (b i : Int) : Prop := ∃ n, UNn t b n i
theorem UN.up {t : ST} {b i : Int} (n : ¬ gI t 92 (gI t 88 i) = -1) (h : UN t b (gI t 92 (gI t 88 i))) : UN t b i := by
  obtain ⟨m, hm⟩ := h
  exact ⟨m + 1, Or.inr ⟨n, hm⟩⟩
theorem UN.tr {t : ST} {b b' x : Int} (hx : gI t 92 b = x) (n : ¬ x = -1) (u : UN t b' x) : ∀ (m : Nat) (y : Int), UNn t b m y → UN t b' y := by
  intro m
  induction m with
  | zero =>
    intro y h
    have e : gI t 88 y = b := h
    refine UN.up ?_ ?_
    · rw [e, hx]; exact n
    · rw [e, hx]; exact u
  | succ m ih =>
    intro y h
    rcases h with e | e
    · refine UN.up ?_ ?_
      · rw [e, hx]; exact n
      · rw [e, hx]; exact u
    · exact UN.up e.1 (ih _ e.2)
/-- each statement's number leads back to its item -/
def SN (t : ST) (S : Int) : Prop := ∀ i, CJ t S i → ¬ gI t 77 i = 6 → 0 ≤ gI t 78 i ∧ gI t 78 i < gI t 75 S ∧ gI t 93 (40 * S + gI t 78 i) = i
theorem cj0 {t : ST} {S i : Int} (S0 : 0 ≤ S) (h : CJ t S i) : 0 ≤ i := by unfold CJ at h; omega
theorem UN.desc {t : ST} {S b o : Int} (S0 : 0 ≤ S) (x : TXR t S) (ho : CJ t S o) (hb : gI t 92 b = o) : ∀ (m : Nat) (y : Int), CJ t S y → UNn t b m y → o < y ∧ ∀ k, o < k → k ≤ y → gI t 80 o < gI t 80 k := by
  have o0 := cj0 S0 ho
  have base : ∀ y, CJ t S y → gI t 88 y = b → o < y ∧ ∀ k, o < k → k ≤ y → gI t 80 o < gI t 80 k := fun y hy e => by
    rcases (x.2.1 y hy).2 with a | a
    · rw [e, hb] at a; omega
    · rw [e, hb] at a
      exact ⟨a.2.1, fun k k1 k2 => by have := a.2.2.2 k k1 k2; omega⟩
  intro m
  induction m with
  | zero => intro y hy h; exact base y hy h
  | succ m ih =>
    intro y hy h
    rcases h with e | e
    · exact base y hy e
    · rcases (x.2.1 y hy).2 with a | a
      · exact absurd a.1 e.1
      · have q := ih _ a.1 e.2
        refine ⟨by omega, fun k k1 k2 => ?_⟩
        by_cases kw : k ≤ gI t 92 (gI t 88 y)
        · exact q.2 k k1 kw
        · have p1 := a.2.2.2 k (by omega) k2
          have p2 := q.2 _ q.1 (Int.le_refl _)
          omega
