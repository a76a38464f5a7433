/-! bits of longs -/
def bt (x : Int64) (k : Int) : Prop := x.toBitVec.getLsbD k.toNat = true
def un (x : Int64) : Int := (x.toBitVec.toNat : Int)
theorem un_lo (x : Int64) : 0 ≤ un x := by unfold un; omega
theorem un_hi (x : Int64) : un x < 18446744073709551616 := by
  unfold un
  have := x.toBitVec.isLt
  omega
theorem un_inj {x y : Int64} (h : un x = un y) : x = y := by
  refine Int64.toBitVec_inj.mp (BitVec.eq_of_toNat_eq ?_)
  unfold un at h
  omega
theorem un_or (x y : Int64) : un x ≤ un (x ||| y) := by
  unfold un
  rw [Int64.toBitVec_or, BitVec.toNat_or]
  exact Int.ofNat_le.mpr Nat.left_le_or
theorem bt_or {x y : Int64} {k : Int} : bt (x ||| y) k ↔ bt x k ∨ bt y k := by
  unfold bt
  rw [Int64.toBitVec_or, BitVec.getLsbD_or, Bool.or_eq_true]
theorem bt_zero {k : Int} : ¬ bt 0 k := by
  unfold bt
  have e : (0 : Int64).toBitVec = 0#64 := rfl
  rw [e, BitVec.getLsbD_zero]
  decide
theorem sh_tab : ∀ n : Fin 64, (((Int32.ofNat n.val).toInt64 &&& 63).toBitVec.smod 64).toNat = n.val := by decide +kernel
theorem sh_n {k : Int32} (h0 : 0 ≤ k.toInt) (h1 : k.toInt ≤ 63) : ((k.toInt64 &&& 63).toBitVec.smod 64).toNat = k.toInt.toNat := by
  have e : k = Int32.ofNat k.toInt.toNat := by
    apply Int32.toInt_inj.mp
    rw [Int32.toInt_ofNat_of_lt (by omega)]
    omega
  have q := sh_tab ⟨k.toInt.toNat, by omega⟩
  have q2 : (((Int32.ofNat k.toInt.toNat).toInt64 &&& 63).toBitVec.smod 64).toNat = k.toInt.toNat := q
  rw [← e] at q2
  exact q2
theorem and_one (y : Int64) : y &&& 1 = 1 ↔ y.toBitVec.getLsbD 0 = true := by
  rw [← Int64.toBitVec_inj, Int64.toBitVec_and]
  have e : (1 : Int64).toBitVec = 1#64 := rfl
  rw [e]
  constructor
  · intro h
    have q := congrArg (fun z : BitVec 64 => z.getLsbD 0) h
    have q2 : (y.toBitVec &&& 1#64).getLsbD 0 = (1#64).getLsbD 0 := q
    rw [BitVec.getLsbD_and, BitVec.getLsbD_one] at q2
    revert q2
    cases y.toBitVec.getLsbD 0 <;> simp
  · intro h
    apply BitVec.eq_of_getLsbD_eq
    intro i hi
    rw [BitVec.getLsbD_and, BitVec.getLsbD_one]
    by_cases q : i = 0
    · subst q; rw [h]; simp
    · simp [q]
theorem has_bit {x : Int64} {k : Int32} (h0 : 0 ≤ k.toInt) (h1 : k.toInt ≤ 63) : ((x >>> (k.toInt64 &&& 63)) &&& 1 = 1) ↔ bt x k.toInt := by
  rw [and_one]
  unfold bt
  have e : (x >>> (k.toInt64 &&& 63)).toBitVec = x.toBitVec.sshiftRight ((k.toInt64 &&& 63).toBitVec.smod 64).toNat := rfl
  rw [e, sh_n h0 h1, BitVec.getLsbD_sshiftRight, if_pos (by omega)]
  simp
theorem bt_shl {k : Int32} (h0 : 0 ≤ k.toInt) (h1 : k.toInt ≤ 63) {j : Int} (hj : 0 ≤ j) : bt (1 <<< (k.toInt64 &&& 63)) j ↔ j = k.toInt := by
  unfold bt
  have e : ((1 : Int64) <<< (k.toInt64 &&& 63)).toBitVec = (1#64) <<< ((k.toInt64 &&& 63).toBitVec.smod 64).toNat := rfl
  rw [e, sh_n h0 h1, BitVec.getLsbD_shiftLeft, BitVec.getLsbD_one]
  simp only [Bool.and_eq_true, decide_eq_true_eq, Bool.not_eq_true', decide_eq_false_iff_not]
  omega
theorem cmp_eq (x y : Int64) : (lg_cmp x y).toInt = 0 ↔ x = y := by
  unfold lg_cmp
  by_cases e : x = y
  · subst e
    rw [if_neg Int64.lt_irrefl, if_pos rfl]
    exact ⟨fun _ => rfl, fun _ => by decide⟩
  · by_cases g : x > y
    · rw [if_pos g]
      exact ⟨fun h => absurd h (by decide), fun h => absurd h e⟩
    · rw [if_neg g, if_neg e]
      exact ⟨fun h => absurd h (by decide), fun h => absurd h e⟩
def KX (m : Nat) (F G : FN) : Prop := ∀ (c j : Nat), 73 ≤ c → c ≤ m → G c j = F c j
/-! ways -/
def wy (F : FN) (S s e : Int) : Int :=
  if V F 77 (V F 93 (40 * S + s)) = 0 then (if e = 0 then V F 95 (40 * S + s) else -2)
  else if V F 77 (V F 93 (40 * S + s)) = 1 then (if e = 0 then (if V F 101 (5 * S + V F 84 (V F 93 (40 * S + s))) = 1 then V F 95 (40 * S + s) else -2) else if V F 102 (5 * S + V F 84 (V F 93 (40 * S + s))) = 1 then V F 98 (40 * S + s) else -2)
  else if V F 77 (V F 93 (40 * S + s)) = 2 then (if e = 0 then V F 96 (40 * S + s) else V F 97 (40 * S + s))
  else if V F 77 (V F 93 (40 * S + s)) = 3 then (if e = 0 then V F 96 (40 * S + s) else V F 95 (40 * S + s))
  else if V F 77 (V F 93 (40 * S + s)) = 4 then (if e = 0 then -2 else V F 98 (40 * S + s))
  else if e = 0 then -1 else -2
def wo (F : FN) (S s e : Int) : Int :=
  if V F 77 (V F 93 (40 * S + s)) = 2 ∨ V F 77 (V F 93 (40 * S + s)) = 3 then wy F S s e
  else if V F 77 (V F 93 (40 * S + s)) = 5 then (if e = 0 then -1 else V F 95 (40 * S + s))
  else if V F 77 (V F 93 (40 * S + s)) = 4 then (if e = 0 then V F 98 (40 * S + s) else V F 95 (40 * S + s))
  else if V F 77 (V F 93 (40 * S + s)) = 1 then (if e = 0 then V F 95 (40 * S + s) else if V F 102 (5 * S + V F 84 (V F 93 (40 * S + s))) = 1 then V F 98 (40 * S + s) else -2)
  else if e = 0 then V F 95 (40 * S + s) else -2
/-- whether an end is a throw -/
def th (F : FN) (S s e : Int) : Int := if e = 1 ∧ (V F 77 (V F 93 (40 * S + s)) = 4 ∨ V F 77 (V F 93 (40 * S + s)) = 1) ∧ V F 99 (40 * S + s) = -1 then 1 else 0
def clo (F : FN) (S : Int) (C : Int → Prop) : Prop := ∀ s e, 0 ≤ s → s < V F 75 S → (e = 0 ∨ e = 1) → C s → 0 ≤ wy F S s e → C (wy F S s e)
def fn_ (F : FN) (S s e t : Int) : Prop := wy F S s e = -1 ∧ th F S s e = t
def hits (F : FN) (S t : Int) (C : Int → Prop) : Prop := ∃ s e, 0 ≤ s ∧ s < V F 75 S ∧ (e = 0 ∨ e = 1) ∧ C s ∧ fn_ F S s e t
/-- what a procedure does comes to its end so -/
def CT (F : FN) (S p t : Int) : Prop := (V F 100 (5 * S + p) = -1 ∧ t = 0) ∨ (0 ≤ V F 100 (5 * S + p) ∧ ∀ C : Int → Prop, clo F S C → C (V F 100 (5 * S + p)) → hits F S t C)
/-- flags lie within R and T -/
def FLW (F : FN) (S : Int) (R T : Int → Prop) : Prop := ∀ q, 0 ≤ q → q < 5 → (V F 101 (5 * S + q) = 1 → R q) ∧ (V F 102 (5 * S + q) = 1 → T q)
/-- flags are the least: they lie within all that holds what follows of them -/
def LSP (F G : FN) (S : Int) : Prop := ∀ R T : Int → Prop, (∀ H, KX 100 F H → FLW H S R T → ∀ p, 0 ≤ p → p < V F 76 S → (CT H S p 0 → R p) ∧ (CT H S p 1 → T p)) → FLW G S R T
/-- nothing more follows, of procedures before n -/
def FXP (G : FN) (S n : Int) : Prop := ∀ p, 0 ≤ p → p < n → (CT G S p 0 → V G 101 (5 * S + p) = 1) ∧ (CT G S p 1 → V G 102 (5 * S + p) = 1)
