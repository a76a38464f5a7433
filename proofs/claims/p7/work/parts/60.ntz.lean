/-! the lowest bit -/
def LB {w : Nat} (x : BitVec w) (k : Nat) : Prop := k < w ∧ x.getLsbD k = true ∧ ∀ j, j < k → x.getLsbD j = false
theorem low_ex {w : Nat} (x : BitVec w) (h : ¬ x = 0#w) : ∃ k, LB x k := by
  have c : ∀ n, n ≤ w → (∃ k, k < n ∧ x.getLsbD k = true ∧ ∀ j, j < k → x.getLsbD j = false) ∨ (∀ j, j < n → x.getLsbD j = false) := by
    intro n
    induction n with
    | zero => intro _; exact Or.inr (fun j hj => by omega)
    | succ n ih =>
      intro hn
      rcases ih (by omega) with ⟨k, k1, k2, k3⟩ | q
      · exact Or.inl ⟨k, by omega, k2, k3⟩
      · cases b : x.getLsbD n
        · exact Or.inr (fun j hj => by
            by_cases e : j = n
            · rw [e]; exact b
            · exact q j (by omega))
        · exact Or.inl ⟨n, by omega, b, q⟩
  rcases c w (Nat.le_refl _) with ⟨k, k1, k2, k3⟩ | q
  · exact ⟨k, k1, k2, k3⟩
  · refine absurd ?_ h
    apply BitVec.eq_of_getLsbD_eq
    intro i hi
    rw [q i hi, BitVec.getLsbD_zero]
/-- one less: bits above the lowest stay, it falls, those below rise -/
theorem low_sub {w : Nat} {x : BitVec w} {k : Nat} (h : LB x k) (j : Nat) (hj : j < w) : (x - 1#w).getLsbD j = if j < k then true else if j = k then false else x.getLsbD j := by
  obtain ⟨h1, h2, h3⟩ := h
  have hm : x.toNat % 2 ^ (k + 1) = 2 ^ k := by
    apply Nat.eq_of_testBit_eq
    intro i
    rw [Nat.testBit_mod_two_pow, Nat.testBit_two_pow]
    by_cases e : i = k
    · subst e
      have : x.toNat.testBit i = true := h2
      simp [this]
    · by_cases e2 : i < k
      · have : x.toNat.testBit i = false := h3 i e2
        simp [this]; omega
      · have a : decide (i < k + 1) = false := by simp; omega
        rw [a]; simp; omega
  have hx : x.toNat = 2 ^ (k + 1) * (x.toNat / 2 ^ (k + 1)) + 2 ^ k := by
    have := Nat.div_add_mod x.toNat (2 ^ (k + 1))
    rw [hm] at this
    exact this.symm
  have pk : 0 < 2 ^ k := Nat.two_pow_pos k
  have lt1 : 2 ^ k - 1 < 2 ^ (k + 1) := by rw [Nat.pow_succ]; omega
  have lt2 : 2 ^ k < 2 ^ (k + 1) := by rw [Nat.pow_succ]; omega
  have hw : 1 < 2 ^ w ∨ w = 0 := by
    cases w with
    | zero => exact Or.inr rfl
    | succ w => left; rw [Nat.pow_succ]; have := Nat.two_pow_pos w; omega
  have hs : (x - 1#w).toNat = 2 ^ (k + 1) * (x.toNat / 2 ^ (k + 1)) + (2 ^ k - 1) := by
    have l := x.isLt
    have hw1 : 1 < 2 ^ w := by rcases hw with q | q; (exact q); (omega)
    rw [BitVec.toNat_sub, BitVec.toNat_ofNat, Nat.mod_eq_of_lt hw1]
    have e : 2 ^ w - 1 + x.toNat = (x.toNat - 1) + 2 ^ w := by omega
    rw [e, Nat.add_mod_right, Nat.mod_eq_of_lt (by omega)]
    omega
  have g : ∀ n, (x - 1#w).getLsbD n = (x - 1#w).toNat.testBit n := fun n => rfl
  rw [g, hs, Nat.testBit_two_pow_mul_add _ lt1, Nat.testBit_two_pow_sub_one]
  have gx : x.getLsbD j = x.toNat.testBit j := rfl
  by_cases e : j < k + 1
  · rw [if_pos e]
    by_cases e2 : j < k
    · rw [if_pos e2]; simp [e2]
    · rw [if_neg e2, if_pos (by omega)]; simp; omega
  · rw [if_neg e, if_neg (by omega), if_neg (by omega), gx]
    conv => rhs; rw [hx]
    rw [Nat.testBit_two_pow_mul_add _ lt2, if_neg e]
theorem low_msk {w : Nat} {x : BitVec w} {k : Nat} (h : LB x k) (j : Nat) (hj : j < w) : ((x ^^^ BitVec.allOnes w) &&& (x - 1#w)).getLsbD j = decide (j < k) := by
  rw [BitVec.getLsbD_and, BitVec.getLsbD_xor, low_sub h j hj, BitVec.getLsbD_allOnes]
  obtain ⟨h1, h2, h3⟩ := h
  by_cases e : j < k
  · rw [if_pos e, h3 j e]; simp [e, hj]
  · rw [if_neg e]
    by_cases e2 : j = k
    · rw [if_pos e2]; simp [e]
    · rw [if_neg e2]
      cases x.getLsbD j <;> simp [e, hj]
theorem low_and {w : Nat} {x : BitVec w} {k : Nat} (h : LB x k) (j : Nat) (hj : j < w) : (x &&& (x - 1#w)).getLsbD j = true ↔ x.getLsbD j = true ∧ j ≠ k := by
  rw [BitVec.getLsbD_and, low_sub h j hj]
  obtain ⟨h1, h2, h3⟩ := h
  by_cases e : j < k
  · rw [if_pos e, h3 j e]; simp
  · rw [if_neg e]
    by_cases e2 : j = k
    · rw [if_pos e2]; simp [e2]
    · rw [if_neg e2]; cases x.getLsbD j <;> simp [e2]

/-! fuel that nobody can count down; the lowest bit of a long -/
noncomputable def BG (n : Nat) : Nat := Classical.choose (⟨n, Nat.le_refl n⟩ : ∃ m, n ≤ m)
theorem BG_le (n : Nat) : n ≤ BG n := Classical.choose_spec (⟨n, Nat.le_refl n⟩ : ∃ m, n ≤ m)
noncomputable def ntzI (a : Int64) : Int := ((Classical.epsilon (fun k : Nat => LB a.toBitVec k) : Nat) : Int)
theorem LB_un {w : Nat} {x : BitVec w} {j k : Nat} (h : LB x j) (g : LB x k) : j = k := by
  rcases Nat.lt_trichotomy j k with q | q | q
  · have := g.2.2 j q; rw [h.2.1] at this; exact absurd this (by decide)
  · exact q
  · have := h.2.2 k q; rw [g.2.1] at this; exact absurd this (by decide)
theorem ntz_eq {a : Int64} {v : Int32} (h0 : 0 ≤ v.toInt) (h : v.toInt ≤ 63 ∧ LB a.toBitVec v.toInt.toNat) : ntzI a = v.toInt := by
  have e : LB a.toBitVec (Classical.epsilon (fun k : Nat => LB a.toBitVec k)) := Classical.epsilon_spec (p := fun k : Nat => LB a.toBitVec k) ⟨_, h.2⟩
  have u := LB_un e h.2
  unfold ntzI
  rw [u]
  omega
/-- all but what a search writes stays -/
def KQ (c j : Nat) : Prop := c ≠ 52 ∧ c ≠ 53 ∧ c ≠ 54 ∧ ¬ (c = 49 ∧ j = 8)
