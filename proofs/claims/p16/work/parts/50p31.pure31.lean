/-! bits, flags -/
theorem ofI {a : Int} (h0 : 0 ≤ a) (h1 : a ≤ 100000) : (Int32.ofInt a).toInt = a := by
  rw [Int32.toInt_ofInt_of_le (by omega) (by omega)]
theorem shu_tab : ∀ n : Fin 64, (((Int32.ofNat n.val).toInt64.toUInt64 &&& Int64.toUInt64 63) % 64).toBitVec.toNat = n.val := by decide +kernel
theorem has_bitu {x : Int64} {k : Int} (h0 : 0 ≤ k) (h1 : k ≤ 63) : o_land (o_lushr x k) 1 = 1 ↔ bt x k := by
  unfold o_land o_lushr p_lushr
  rw [and_one]
  unfold bt
  have e : ∀ y : UInt64, (x.toUInt64 >>> y).toInt64.toBitVec = x.toBitVec >>> (y % 64).toBitVec := fun y => rfl
  have e2 : Int32.ofInt k = Int32.ofNat k.toNat := by
    apply Int32.toInt_inj.mp
    rw [ofI h0 (by omega), Int32.toInt_ofNat_of_lt (by omega)]
    omega
  have q := shu_tab ⟨k.toNat, by omega⟩
  have q2 : (((Int32.ofNat k.toNat).toInt64.toUInt64 &&& Int64.toUInt64 63) % 64).toBitVec.toNat = k.toNat := q
  rw [e, e2]
  show (x.toBitVec >>> (((Int32.ofNat k.toNat).toInt64.toUInt64 &&& Int64.toUInt64 63) % 64).toBitVec.toNat).getLsbD 0 = true ↔ _
  rw [q2, BitVec.getLsbD_ushiftRight, Nat.add_zero]
theorem land_01 (y : Int64) : o_land y 1 = 0 ∨ o_land y 1 = 1 := by
  unfold o_land
  by_cases z : y &&& 1 = 1
  · exact Or.inr z
  · left
    rw [and_one] at z
    rw [← Int64.toBitVec_inj, Int64.toBitVec_and]
    have e : (1 : Int64).toBitVec = 1#64 := rfl
    have e0 : (0 : Int64).toBitVec = 0#64 := rfl
    rw [e, e0]
    apply BitVec.eq_of_getLsbD_eq
    intro i hi
    rw [BitVec.getLsbD_and, BitVec.getLsbD_one, BitVec.getLsbD_zero]
    by_cases q : i = 0
    · subst q
      have z' : y.toBitVec.getLsbD 0 = false := by
        cases h : y.toBitVec.getLsbD 0
        · rfl
        · exact absurd h z
      rw [z']
      rfl
    · simp [q]
theorem has_r {s : ST} {x : Int64} {k : Int} (h0 : 0 ≤ k) (h1 : k ≤ 63) : f_X7_has s x k = 0 ↔ ¬ bt x k := by
  unfold f_X7_has
  repeat rewrite [bd_r]
  have b := has_bitu (x := x) h0 h1
  rcases land_01 (o_lushr x k) with z | z
  · rw [z] at b ⊢
    rw [if_pos (show o_lcmp 0 0 = 0 by decide)]
    exact ⟨fun _ q => absurd (b.mpr q) (by decide), fun _ => rfl⟩
  · rw [z] at b ⊢
    rw [if_neg (show ¬ o_lcmp 1 0 = 0 by decide)]
    exact ⟨fun q => absurd q (by decide), fun q => absurd (b.mp rfl) q⟩
theorem bit_r {s : ST} {v j : Int} (h0 : 0 ≤ v) (h1 : v ≤ 63) (hj : 0 ≤ j) : bt (f_X7_bit s v) j ↔ j = v := by
  unfold f_X7_bit
  repeat rewrite [bd_r]
  unfold o_lshl p_lshl
  have e := ofI h0 (by omega)
  have q := bt_shl (k := Int32.ofInt v) (by omega) (by omega) hj
  rw [e] at q
  exact q
theorem lor_r {x y : Int64} {j : Int} : bt (o_lor x y) j ↔ bt x j ∨ bt y j := bt_or
/-- the flag of a procedure -/
def FB (v q : Int) : Prop := v.toNat.testBit q.toNat = true
theorem flag_tab : ∀ v : Fin 32, ∀ q : Fin 5, (o_land (o_lushr (o_i2l (v.val : Int)) (q.val : Int)) 1 = 1) ↔ v.val.testBit q.val = true := by decide +kernel
theorem flag_r {s : ST} {v q : Int} (v0 : 0 ≤ v) (v1 : v < 32) (q0 : 0 ≤ q) (q1 : q < 5) : f_X7_has s (o_i2l v) q = 0 ↔ ¬ FB v q := by
  rw [has_r q0 (by omega), ← has_bitu q0 (by omega)]
  have t := flag_tab ⟨v.toNat, by omega⟩ ⟨q.toNat, by omega⟩
  dsimp only at t
  rw [show ((v.toNat : Nat) : Int) = v by omega, show ((q.toNat : Nat) : Int) = q by omega] at t
  unfold FB
  rw [t]
theorem or_tab : ∀ v : Fin 32, ∀ p : Fin 5, 0 ≤ o_ior (v.val : Int) (o_ishl 1 (p.val : Int)) ∧ o_ior (v.val : Int) (o_ishl 1 (p.val : Int)) < 32 ∧ ∀ q : Fin 5, (o_ior (v.val : Int) (o_ishl 1 (p.val : Int))).toNat.testBit q.val = true ↔ (v.val.testBit q.val = true ∨ q = p) := by decide +kernel
theorem or_r {v p : Int} (v0 : 0 ≤ v) (v1 : v < 32) (p0 : 0 ≤ p) (p1 : p < 5) : 0 ≤ o_ior v (o_ishl 1 p) ∧ o_ior v (o_ishl 1 p) < 32 ∧ ∀ q, 0 ≤ q → q < 5 → (FB (o_ior v (o_ishl 1 p)) q ↔ FB v q ∨ q = p) := by
  have t := or_tab ⟨v.toNat, by omega⟩ ⟨p.toNat, by omega⟩
  dsimp only at t
  rw [show ((v.toNat : Nat) : Int) = v by omega, show ((p.toNat : Nat) : Int) = p by omega] at t
  refine ⟨t.1, t.2.1, fun q q0 q1 => ?_⟩
  have u := t.2.2 ⟨q.toNat, by omega⟩
  dsimp only at u
  unfold FB
  rw [u]
  constructor
  · rintro (z | z)
    · exact Or.inl z
    · right
      have := congrArg Fin.val z
      dsimp only at this
      omega
  · rintro (z | z)
    · exact Or.inl z
    · right
      apply Fin.ext
      dsimp only
      omega
theorem same_tab : ∀ v : Fin 32, ∀ p : Fin 5, v.val.testBit p.val = true → o_ior (v.val : Int) (o_ishl 1 (p.val : Int)) = (v.val : Int) := by decide +kernel
theorem or_same {v p : Int} (v0 : 0 ≤ v) (v1 : v < 32) (p0 : 0 ≤ p) (p1 : p < 5) (h : FB v p) : o_ior v (o_ishl 1 p) = v := by
  have t := same_tab ⟨v.toNat, by omega⟩ ⟨p.toNat, by omega⟩ h
  dsimp only at t
  rw [show ((v.toNat : Nat) : Int) = v by omega, show ((p.toNat : Nat) : Int) = p by omega] at t
  exact t
theorem eq_tab : ∀ v w : Fin 32, (∀ q : Fin 5, v.val.testBit q.val = true ↔ w.val.testBit q.val = true) → v = w := by decide +kernel
theorem flag_eq {v w : Int} (v0 : 0 ≤ v) (v1 : v < 32) (w0 : 0 ≤ w) (w1 : w < 32) (h : ∀ q, 0 ≤ q → q < 5 → (FB v q ↔ FB w q)) : v = w := by
  have t := eq_tab ⟨v.toNat, by omega⟩ ⟨w.toNat, by omega⟩ (fun q => by
    have u := h (q.val : Int) (by omega) (by have := q.isLt; omega)
    unfold FB at u
    rw [show ((q.val : Int)).toNat = q.val by omega] at u
    exact u)
  have := congrArg Fin.val t
  dsimp only at this
  omega
theorem end_tab : ∀ v w : Fin 32, ∀ P : Fin 6, (∀ q : Fin 5, P.val ≤ q.val → ¬ v.val.testBit q.val = true ∧ ¬ w.val.testBit q.val = true) → (o_ior (v.val : Int) (w.val : Int) = o_isub (o_ishl 1 (P.val : Int)) 1 ↔ ∀ q : Fin 5, q.val < P.val → v.val.testBit q.val = true ∨ w.val.testBit q.val = true) := by decide +kernel
theorem end_r {v w P : Int} (v0 : 0 ≤ v) (v1 : v < 32) (w0 : 0 ≤ w) (w1 : w < 32) (p0 : 0 ≤ P) (p1 : P ≤ 5) (h : ∀ q, P ≤ q → q < 5 → ¬ FB v q ∧ ¬ FB w q) : o_ior v w = o_isub (o_ishl 1 P) 1 ↔ ∀ q, 0 ≤ q → q < P → FB v q ∨ FB w q := by
  have t := end_tab ⟨v.toNat, by omega⟩ ⟨w.toNat, by omega⟩ ⟨P.toNat, by omega⟩ (fun q hq => by
    dsimp only at hq ⊢
    have u := h (q.val : Int) (by omega) (by have := q.isLt; omega)
    unfold FB at u
    rw [show ((q.val : Int)).toNat = q.val by omega] at u
    exact u)
  dsimp only at t
  rw [show ((v.toNat : Nat) : Int) = v by omega, show ((w.toNat : Nat) : Int) = w by omega, show ((P.toNat : Nat) : Int) = P by omega] at t
  rw [t]
  constructor
  · intro u q q0 q1
    exact u ⟨q.toNat, by omega⟩ (by dsimp only; omega)
  · intro u q hq
    have z := u (q.val : Int) (by omega) (by omega)
    unfold FB at z
    rw [show ((q.val : Int)).toNat = q.val by omega] at z
    exact z

