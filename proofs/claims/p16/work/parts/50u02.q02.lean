/-! counting the pairs of a relation -/
noncomputable def cq (P : Prop) : Nat := if (Classical.propDecidable P).decide = true then 1 else 0
theorem cq_1 {P : Prop} (h : P) : cq P = 1 := by
  unfold cq
  rw [if_pos (@decide_eq_true P (Classical.propDecidable P) h)]
theorem cq_0 {P : Prop} (h : ¬ P) : cq P = 0 := by
  unfold cq
  rw [if_neg (fun z => h (@of_decide_eq_true P (Classical.propDecidable P) z))]
theorem cq_le (P : Prop) : cq P ≤ 1 := by
  rcases Classical.em P with h | h
  · rw [cq_1 h]; omega
  · rw [cq_0 h]; omega
theorem cq_mono {P Q : Prop} (h : P → Q) : cq P ≤ cq Q := by
  rcases Classical.em P with q | q
  · rw [cq_1 q, cq_1 (h q)]; omega
  · rw [cq_0 q]; omega
/-- how many of the first n hold -/
noncomputable def cc (p : Nat → Prop) : Nat → Nat
  | 0 => 0
  | n + 1 => cc p n + cq (p n)
theorem cc_le (p : Nat → Prop) (n : Nat) : cc p n ≤ n := by
  induction n with
  | zero => exact Nat.le_refl _
  | succ n ih =>
    have := cq_le (p n)
    show cc p n + cq (p n) ≤ n + 1
    omega
theorem cc_mono {p q : Nat → Prop} {n : Nat} (h : ∀ k, k < n → p k → q k) : cc p n ≤ cc q n := by
  induction n with
  | zero => exact Nat.le_refl _
  | succ n ih =>
    have i := ih (fun k hk => h k (by omega))
    have j := cq_mono (h n (by omega))
    show cc p n + cq (p n) ≤ cc q n + cq (q n)
    omega
theorem cc_lt {p q : Nat → Prop} {n x : Nat} (h : ∀ k, k < n → p k → q k) (hx : x < n) (h0 : ¬ p x) (h1 : q x) : cc p n + 1 ≤ cc q n := by
  induction n with
  | zero => omega
  | succ n ih =>
    show cc p n + cq (p n) + 1 ≤ cc q n + cq (q n)
    by_cases e : x = n
    · subst e
      have i := cc_mono (p := p) (q := q) (n := x) (fun k hk => h k (by omega))
      rw [cq_0 h0, cq_1 h1]; omega
    · have i := ih (fun k hk => h k (by omega)) (by omega)
      have j := cq_mono (h n (by omega))
      omega
/-- pairs a < A, b < B, as one row of A * B -/
def c2 (R : Int → Int → Prop) (B : Nat) (k : Nat) : Prop := R ((k / B : Nat) : Int) ((k % B : Nat) : Int)
noncomputable def cR (R : Int → Int → Prop) (A B : Nat) : Nat := cc (c2 R B) (A * B)
theorem cR_le (R : Int → Int → Prop) (A B : Nat) : cR R A B ≤ A * B := cc_le _ _
theorem cR_mono {R Q : Int → Int → Prop} {A B : Nat} (h : ∀ a b : Int, 0 ≤ a → a < A → 0 ≤ b → b < B → R a b → Q a b) : cR R A B ≤ cR Q A B := by
  refine cc_mono (fun k hk z => h _ _ (Int.natCast_nonneg _) ?_ (Int.natCast_nonneg _) ?_ z)
  · have := Nat.div_lt_of_lt_mul (show k < B * A by rw [Nat.mul_comm]; exact hk)
    omega
  · have : 0 < B := by
      rcases Nat.eq_zero_or_pos B with z | z
      · rw [z] at hk; omega
      · exact z
    have := Nat.mod_lt k this
    omega
theorem cR_lt {R Q : Int → Int → Prop} {A B : Nat} {x y : Int} (h : ∀ a b : Int, 0 ≤ a → a < A → 0 ≤ b → b < B → R a b → Q a b) (x0 : 0 ≤ x) (x1 : x < A) (y0 : 0 ≤ y) (y1 : y < B) (h0 : ¬ R x y) (h1 : Q x y) : cR R A B + 1 ≤ cR Q A B := by
  have hB : 0 < B := by omega
  have ex : (x.toNat * B + y.toNat) / B = x.toNat := by
    rw [Nat.mul_comm, Nat.mul_add_div hB, Nat.div_eq_of_lt (by omega)]; omega
  have ey : (x.toNat * B + y.toNat) % B = y.toNat := by
    rw [Nat.mul_comm, Nat.mul_add_mod, Nat.mod_eq_of_lt (by omega)]
  have e0 : ((x.toNat : Nat) : Int) = x := by omega
  have e1 : ((y.toNat : Nat) : Int) = y := by omega
  refine cc_lt (x := x.toNat * B + y.toNat) (fun k hk z => h _ _ (Int.natCast_nonneg _) ?_ (Int.natCast_nonneg _) ?_ z) ?_ ?_ ?_
  · have := Nat.div_lt_of_lt_mul (show k < B * A by rw [Nat.mul_comm]; exact hk)
    omega
  · have := Nat.mod_lt k hB
    omega
  · have a : x.toNat + 1 ≤ A := by omega
    have b : (x.toNat + 1) * B ≤ A * B := Nat.mul_le_mul_right B a
    rw [Nat.succ_mul] at b
    omega
  · unfold c2
    rw [ex, ey, e0, e1]; exact h0
  · unfold c2
    rw [ex, ey, e0, e1]; exact h1
theorem cR_full {R : Int → Int → Prop} {A B : Nat} (h : A * B ≤ cR R A B) {x y : Int} (x0 : 0 ≤ x) (x1 : x < A) (y0 : 0 ≤ y) (y1 : y < B) : R x y := by
  rcases Classical.em (R x y) with z | z
  · exact z
  · exfalso
    have q := cR_lt (R := R) (Q := fun _ _ => True) (A := A) (B := B) (fun _ _ _ _ _ _ _ => trivial) x0 x1 y0 y1 z trivial
    have y := cR_le (fun _ _ => True) A B
    omega

