/-! arrays are filled -/
theorem fl62_n : ∀ (n m : Nat) (a : Int64) (l : Int) (sx : ST), 0 ≤ l → 45 - l < n → EQL 62 sx (f_J7_fill_d0a16_at622_ n m a l 45 sx) ∧ (∀ j : Nat, (j : Int) < l → (f_J7_fill_d0a16_at622_ n m a l 45 sx).2.1 62 j = sx.2.1 62 j) ∧ (∀ j : Nat, l ≤ j → (j : Int) < 45 → (f_J7_fill_d0a16_at622_ n m a l 45 sx).2.1 62 j = a) := by
  intro n
  induction n with
  | zero =>
    intro m a l sx h0 h1
    rw [f_J7_fill_d0a16_at622_]
    exact ⟨EQL.rfl, fun _ _ => rfl, fun j h2 h3 => by omega⟩
  | succ n ih =>
    intro m a l sx h0 h1
    rw [f_J7_fill_d0a16_at622_]
    by_cases z : 45 ≤ l
    · rw [if_pos z]
      exact ⟨EQL.rfl, fun _ _ => rfl, fun j h2 h3 => by omega⟩
    · rw [if_neg z, bd_r]
      have q := ih 6 a (l + 1) (sL sx 62 l.toNat a) (by omega) (by omega)
      refine ⟨EQL.L.tr q.1, fun j h2 => ?_, fun j h2 h3 => ?_⟩
      · rw [q.2.1 j (by omega), sL_ne (by omega)]
      · by_cases y : (j : Int) = l
        · rw [q.2.1 j (by omega), show j = l.toNat by omega, sL_eq]
        · exact q.2.2 j (by omega) h3
theorem fl62 (s : ST) (a : Int64) : EQL 62 s (f_J7_fill_d0a16_at622 s a) ∧ ∀ j : Nat, j < 45 → (f_J7_fill_d0a16_at622 s a).2.1 62 j = a := by
  unfold f_J7_fill_d0a16_at622
  have b := Nat.le_refl 154
  have q := fl62_n 154 6 a 0 s (by omega) (by omega)
  exact ⟨q.1, fun j h => q.2.2 j (by omega) (by omega)⟩
theorem fl58_n : ∀ (n m : Nat) (a : Int64) (l : Int) (sx : ST), 0 ≤ l → 7605 - l < n → EQL 58 sx (f_J7_fill_d0a16_at582_ n m a l 7605 sx) ∧ (∀ j : Nat, (j : Int) < l → (f_J7_fill_d0a16_at582_ n m a l 7605 sx).2.1 58 j = sx.2.1 58 j) ∧ (∀ j : Nat, l ≤ j → (j : Int) < 7605 → (f_J7_fill_d0a16_at582_ n m a l 7605 sx).2.1 58 j = a) := by
  intro n
  induction n with
  | zero =>
    intro m a l sx h0 h1
    rw [f_J7_fill_d0a16_at582_]
    exact ⟨EQL.rfl, fun _ _ => rfl, fun j h2 h3 => by omega⟩
  | succ n ih =>
    intro m a l sx h0 h1
    rw [f_J7_fill_d0a16_at582_]
    by_cases z : 7605 ≤ l
    · rw [if_pos z]
      exact ⟨EQL.rfl, fun _ _ => rfl, fun j h2 h3 => by omega⟩
    · rw [if_neg z, bd_r]
      have q := ih 6 a (l + 1) (sL sx 58 l.toNat a) (by omega) (by omega)
      refine ⟨EQL.L.tr q.1, fun j h2 => ?_, fun j h2 h3 => ?_⟩
      · rw [q.2.1 j (by omega), sL_ne (by omega)]
      · by_cases y : (j : Int) = l
        · rw [q.2.1 j (by omega), show j = l.toNat by omega, sL_eq]
        · exact q.2.2 j (by omega) h3
theorem fl58 (s : ST) (a : Int64) : EQL 58 s (f_J7_fill_d0a16_at582 s a) ∧ ∀ j : Nat, j < 7605 → (f_J7_fill_d0a16_at582 s a).2.1 58 j = a := by
  unfold f_J7_fill_d0a16_at582
  have b := BG_le 22834
  have q := fl58_n (BG 22834) 6 a 0 s (by omega) (by omega)
  exact ⟨q.1, fun j h => q.2.2 j (by omega) (by omega)⟩
theorem fl59_n : ∀ (n m : Nat) (a : Int64) (l : Int) (sx : ST), 0 ≤ l → 40 - l < n → EQL 59 sx (f_J7_fill_d0a16_at592_ n m a l 40 sx) ∧ (∀ j : Nat, (j : Int) < l → (f_J7_fill_d0a16_at592_ n m a l 40 sx).2.1 59 j = sx.2.1 59 j) ∧ (∀ j : Nat, l ≤ j → (j : Int) < 40 → (f_J7_fill_d0a16_at592_ n m a l 40 sx).2.1 59 j = a) := by
  intro n
  induction n with
  | zero =>
    intro m a l sx h0 h1
    rw [f_J7_fill_d0a16_at592_]
    exact ⟨EQL.rfl, fun _ _ => rfl, fun j h2 h3 => by omega⟩
  | succ n ih =>
    intro m a l sx h0 h1
    rw [f_J7_fill_d0a16_at592_]
    by_cases z : 40 ≤ l
    · rw [if_pos z]
      exact ⟨EQL.rfl, fun _ _ => rfl, fun j h2 h3 => by omega⟩
    · rw [if_neg z, bd_r]
      have q := ih 6 a (l + 1) (sL sx 59 l.toNat a) (by omega) (by omega)
      refine ⟨EQL.L.tr q.1, fun j h2 => ?_, fun j h2 h3 => ?_⟩
      · rw [q.2.1 j (by omega), sL_ne (by omega)]
      · by_cases y : (j : Int) = l
        · rw [q.2.1 j (by omega), show j = l.toNat by omega, sL_eq]
        · exact q.2.2 j (by omega) h3
theorem fl59 (s : ST) (a : Int64) : EQL 59 s (f_J7_fill_d0a16_at592 s a) ∧ ∀ j : Nat, j < 40 → (f_J7_fill_d0a16_at592 s a).2.1 59 j = a := by
  unfold f_J7_fill_d0a16_at592
  have b := Nat.le_refl 139
  have q := fl59_n 139 6 a 0 s (by omega) (by omega)
  exact ⟨q.1, fun j h => q.2.2 j (by omega) (by omega)⟩
theorem fl60_n : ∀ (n m : Nat) (a : Int64) (l : Int) (sx : ST), 0 ≤ l → 40 - l < n → EQL 60 sx (f_J7_fill_d0a16_at602_ n m a l 40 sx) ∧ (∀ j : Nat, (j : Int) < l → (f_J7_fill_d0a16_at602_ n m a l 40 sx).2.1 60 j = sx.2.1 60 j) ∧ (∀ j : Nat, l ≤ j → (j : Int) < 40 → (f_J7_fill_d0a16_at602_ n m a l 40 sx).2.1 60 j = a) := by
  intro n
  induction n with
  | zero =>
    intro m a l sx h0 h1
    rw [f_J7_fill_d0a16_at602_]
    exact ⟨EQL.rfl, fun _ _ => rfl, fun j h2 h3 => by omega⟩
  | succ n ih =>
    intro m a l sx h0 h1
    rw [f_J7_fill_d0a16_at602_]
    by_cases z : 40 ≤ l
    · rw [if_pos z]
      exact ⟨EQL.rfl, fun _ _ => rfl, fun j h2 h3 => by omega⟩
    · rw [if_neg z, bd_r]
      have q := ih 6 a (l + 1) (sL sx 60 l.toNat a) (by omega) (by omega)
      refine ⟨EQL.L.tr q.1, fun j h2 => ?_, fun j h2 h3 => ?_⟩
      · rw [q.2.1 j (by omega), sL_ne (by omega)]
      · by_cases y : (j : Int) = l
        · rw [q.2.1 j (by omega), show j = l.toNat by omega, sL_eq]
        · exact q.2.2 j (by omega) h3
theorem fl60 (s : ST) (a : Int64) : EQL 60 s (f_J7_fill_d0a16_at602 s a) ∧ ∀ j : Nat, j < 40 → (f_J7_fill_d0a16_at602 s a).2.1 60 j = a := by
  unfold f_J7_fill_d0a16_at602
  have b := Nat.le_refl 139
  have q := fl60_n 139 6 a 0 s (by omega) (by omega)
  exact ⟨q.1, fun j h => q.2.2 j (by omega) (by omega)⟩
/-- ints of q stay but those of one array -/
def EQI (q : Nat) (s s' : ST) : Prop := s'.2 = s.2 ∧ ∀ p, p ≠ q → s'.1 p = s.1 p
theorem EQI.rfl {q : Nat} {s : ST} : EQI q s s := ⟨_root_.rfl, fun _ _ => _root_.rfl⟩
theorem EQI.tr {q : Nat} {s u w : ST} (a : EQI q s u) (b : EQI q u w) : EQI q s w := ⟨b.1.trans a.1, fun p h => (b.2 p h).trans (a.2 p h)⟩
theorem EQI.I {q j : Nat} {s : ST} {x : Int} : EQI q s (sI s q j x) := ⟨_root_.rfl, fun p h => sI_nc h⟩
