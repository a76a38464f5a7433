/-! frames of the class's questions -/
def GQf (s s' : ST) : Prop := s'.2.2 = s.2.2 ∧ (∀ p j, ¬ (p = 51 ∨ p = 54 ∨ (p = 49 ∧ j = 8)) → s'.1 p j = s.1 p j) ∧ (∀ p j : Nat, ¬ (p = 49 ∨ p = 50 ∨ p = 52 ∨ p = 53 ∨ p = 55 ∨ p = 56) → s'.2.1 p j = s.2.1 p j)
def GQfp {α : Type} (s : ST) (z : ST × α) : Prop := GQf s z.1
theorem GQf.rfl {s : ST} : GQf s s := ⟨_root_.rfl, fun _ _ _ => _root_.rfl, fun _ _ _ => _root_.rfl⟩
theorem GQf.tr {s u w : ST} (a : GQf s u) (b : GQf u w) : GQf s w := ⟨b.1.trans a.1, fun p j h => (b.2.1 p j h).trans (a.2.1 p j h), fun p j h => (b.2.2 p j h).trans (a.2.2 p j h)⟩
theorem GQf.trp {α : Type} {s u : ST} {w : ST × α} (a : GQf s u) (b : GQfp u w) : GQfp s w := GQf.tr a b
theorem GQf.I {p j : Nat} {s u : ST} {x : Int} (a : GQf s u) (h : p = 51 ∨ p = 54 ∨ (p = 49 ∧ j = 8)) : GQf s (sI u p j x) := ⟨a.1, fun q i hq => (sI_ne (by rintro ⟨rfl, rfl⟩; exact hq h)).trans (a.2.1 q i hq), a.2.2⟩
theorem GQf.L {p j : Nat} {s u : ST} {x : Int64} (a : GQf s u) (h : p = 49 ∨ p = 50 ∨ p = 52 ∨ p = 53 ∨ p = 55 ∨ p = 56) : GQf s (sL u p j x) := ⟨a.1, a.2.1, fun q i hq => (sL_ne (by rintro ⟨rfl, rfl⟩; exact hq h)).trans (a.2.2 q i hq)⟩

/-- a question to the class: perhaps it makes its tables, then it searches -/
def PQf (s s' : ST) : Prop := ∃ s1, (s1 = s ∨ s1 = f_X4_prepare2 s (s.2.2 0 3)) ∧ GQf s1 s'
theorem PQf.rfl {s : ST} : PQf s s := ⟨s, Or.inl _root_.rfl, GQf.rfl⟩
theorem PQf.t {s u w : ST} (a : PQf s u) (b : GQf u w) : PQf s w := by
  obtain ⟨s1, h1, h2⟩ := a
  exact ⟨s1, h1, h2.tr b⟩

