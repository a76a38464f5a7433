theorem go_ldcw {l : Launch} {own : String} {cc : ByteArray} {nL : Nat} {R : Room} {nm : String} {rt : Option FieldType} {n0 mc ms : Nat} {Xf : Nat → State → Prop} {Qf : Option Value → HP → Prop} {sl pc : Nat} {lv : List (Nat × Value)} {st : List Value} {h : HP} {idx : Nat} {v : Int32} (hc : Cond.constant own idx v ∈ gw) (hd : decode cc pc = .ok (.ldc_w idx, 3)) (k : Go l own cc nL R nm rt n0 mc ms Xf Qf sl (pc + 3) lv (.int v :: st) h) : Go l own cc nL R nm rt n0 mc ms Xf Qf sl pc lv st h := by
  intro p e s m args below meth c D cy zb Q H locs ls C E hP hS hn hl
  exact lv_ldcw C.1 C.2.1 C.2.2.2.1 (C.2.2.2.2.1 _ hc) hd (k p e s m args below meth c D cy zb Q H locs ls C E hP hS hn hl)
/-! the lowest bit -/
def LB {w : Nat} (x : BitVec w) (k : Nat) : Prop := k < w ∧ x.getLsbD k = true ∧ ∀ j, j < k → x.getLsbD j = false
theorem low_ex {w : Nat} (x : BitVec w) (h : ¬ x = 0#w) : ∃ k, LB x k := by
  have c : ∀ n, n ≤ w → (∃ k, k < n ∧ x.getLsbD k = true ∧ ∀ j, j < k → x.getLsbD j = false) ∨ (∀ j, j < n → x.getLsbD j = false) := by
    intro n
    induction n with
    | zero => intro _; exact Or.inr (fun j hj => by omega)
    | succ n ih =>
      intro hn
      rcases ih (by omega) with ⟨k, k1, k2, k3⟩ | q
      · exact Or.inl ⟨k, by omega, k2, k3⟩
      · cases b : x.getLsbD n
        · exact Or.inr (fun j hj => by
            by_cases e : j = n
            · rw [e]; exact b
            · exact q j (by omega))
        · exact Or.inl ⟨n, by omega, b, q⟩
  rcases c w (Nat.le_refl _) with ⟨k, k1, k2, k3⟩ | q
  · exact ⟨k, k1, k2, k3⟩
  · refine absurd ?_ h
    apply BitVec.eq_of_getLsbD_eq
    intro i hi
    rw [q i hi, BitVec.getLsbD_zero]
/-- one less: bits above the lowest stay, it falls, those below rise -/
theorem low_sub {w : Nat} {x : BitVec w} {k : Nat} (h : LB x k) (j : Nat) (hj : j < w) : (x - 1#w).getLsbD j = if j < k then true else if j = k then false else x.getLsbD j := by
  obtain ⟨h1, h2, h3⟩ := h
  have hm : x.toNat % 2 ^ (k + 1) = 2 ^ k := by
    apply Nat.eq_of_testBit_eq
    intro i
    rw [Nat.testBit_mod_two_pow, Nat.testBit_two_pow]
    by_cases e : i = k
    · subst e
      have : x.toNat.testBit i = true := h2
      simp [this]
    · by_cases e2 : i < k
      · have : x.toNat.testBit i = false := h3 i e2
        simp [this]; omega
      · have a : decide (i < k + 1) = false := by simp; omega
        rw [a]; simp; omega
  have hx : x.toNat = 2 ^ (k + 1) * (x.toNat / 2 ^ (k + 1)) + 2 ^ k := by
    have := Nat.div_add_mod x.toNat (2 ^ (k + 1))
    rw [hm] at this
    exact this.symm
  have pk : 0 < 2 ^ k := Nat.two_pow_pos k
  have lt1 : 2 ^ k - 1 < 2 ^ (k + 1) := by rw [Nat.pow_succ]; omega
  have lt2 : 2 ^ k < 2 ^ (k + 1) := by rw [Nat.pow_succ]; omega
  have hw : 1 < 2 ^ w ∨ w = 0 := by
    cases w with
    | zero => exact Or.inr rfl
    | succ w => left; rw [Nat.pow_succ]; have := Nat.two_pow_pos w; omega
  have hs : (x - 1#w).toNat = 2 ^ (k + 1) * (x.toNat / 2 ^ (k + 1)) + (2 ^ k - 1) := by
    have l := x.isLt
    have hw1 : 1 < 2 ^ w := by rcases hw with q | q; (exact q); (omega)
    rw [BitVec.toNat_sub, BitVec.toNat_ofNat, Nat.mod_eq_of_lt hw1]
    have e : 2 ^ w - 1 + x.toNat = (x.toNat - 1) + 2 ^ w := by omega
    rw [e, Nat.add_mod_right, Nat.mod_eq_of_lt (by omega)]
    omega
  have g : ∀ n, (x - 1#w).getLsbD n = (x - 1#w).toNat.testBit n := fun n => rfl
  rw [g, hs, Nat.testBit_two_pow_mul_add _ lt1, Nat.testBit_two_pow_sub_one]
  have gx : x.getLsbD j = x.toNat.testBit j := rfl
  by_cases e : j < k + 1
  · rw [if_pos e]
    by_cases e2 : j < k
    · rw [if_pos e2]; simp [e2]
    · rw [if_neg e2, if_pos (by omega)]; simp; omega
  · rw [if_neg e, if_neg (by omega), if_neg (by omega), gx]
    conv => rhs; rw [hx]
    rw [Nat.testBit_two_pow_mul_add _ lt2, if_neg e]
theorem low_msk {w : Nat} {x : BitVec w} {k : Nat} (h : LB x k) (j : Nat) (hj : j < w) : ((x ^^^ BitVec.allOnes w) &&& (x - 1#w)).getLsbD j = decide (j < k) := by
  rw [BitVec.getLsbD_and, BitVec.getLsbD_xor, low_sub h j hj, BitVec.getLsbD_allOnes]
  obtain ⟨h1, h2, h3⟩ := h
  by_cases e : j < k
  · rw [if_pos e, h3 j e]; simp [e, hj]
  · rw [if_neg e]
    by_cases e2 : j = k
    · rw [if_pos e2]; simp [e]
    · rw [if_neg e2]
      cases x.getLsbD j <;> simp [e, hj]
theorem low_and {w : Nat} {x : BitVec w} {k : Nat} (h : LB x k) (j : Nat) (hj : j < w) : (x &&& (x - 1#w)).getLsbD j = true ↔ x.getLsbD j = true ∧ j ≠ k := by
  rw [BitVec.getLsbD_and, low_sub h j hj]
  obtain ⟨h1, h2, h3⟩ := h
  by_cases e : j < k
  · rw [if_pos e, h3 j e]; simp
  · rw [if_neg e]
    by_cases e2 : j = k
    · rw [if_pos e2]; simp [e2]
    · rw [if_neg e2]; cases x.getLsbD j <;> simp [e2]
theorem low_tab : ∀ k : Fin 32, ∀ j : Fin 32, (Int32.ofNat (2 ^ k.val - 1)).toBitVec.getLsbD j.val = decide (j.val < k.val) := by decide +kernel
/-- ~a & (a - 1) -/
theorem low32 (a : Int32) : (a = 0 ∧ (a ^^^ -1) &&& (a - 1) = -1) ∨ ∃ k, k < 32 ∧ LB a.toBitVec k ∧ (a ^^^ -1) &&& (a - 1) = Int32.ofNat (2 ^ k - 1) := by
  by_cases q : a = 0
  · left; subst q; exact ⟨rfl, by decide⟩
  · right
    have hb : ¬ a.toBitVec = 0#32 := fun z => q (Int32.toBitVec_inj.mp z)
    obtain ⟨k, hk⟩ := low_ex a.toBitVec hb
    refine ⟨k, hk.1, hk, ?_⟩
    apply Int32.toBitVec_inj.mp
    apply BitVec.eq_of_getLsbD_eq
    intro j hj
    have t := low_tab ⟨k, hk.1⟩ ⟨j, hj⟩
    have t2 : (Int32.ofNat (2 ^ k - 1)).toBitVec.getLsbD j = decide (j < k) := t
    rw [t2]
    have e : ((a ^^^ -1) &&& (a - 1)).toBitVec = (a.toBitVec ^^^ BitVec.allOnes 32) &&& (a.toBitVec - 1#32) := by
      have e1 : (-1 : Int32).toBitVec = BitVec.allOnes 32 := by decide
      have e2 : (1 : Int32).toBitVec = 1#32 := rfl
      rw [Int32.toBitVec_and, Int32.toBitVec_xor, Int32.toBitVec_sub, e1, e2]
    rw [e]
    exact low_msk hk j hj
/-- the lowest bit of a long, by its halves -/
theorem low_lo {x : Int64} {k : Nat} (h : LB x.toInt32.toBitVec k) : LB x.toBitVec k := by
  have e : ∀ j, j < 32 → x.toInt32.toBitVec.getLsbD j = x.toBitVec.getLsbD j := fun j hj => by
    have e1 : x.toInt32.toBitVec = x.toBitVec.signExtend 32 := rfl
    rw [e1, BitVec.getLsbD_signExtend, if_pos (by omega)]
    simp [hj]
  exact ⟨by have := h.1; omega, by rw [← e k h.1]; exact h.2.1, fun j hj => by rw [← e j (by have := h.1; omega)]; exact h.2.2 j hj⟩
theorem low_hi {x y : Int64} {k : Nat} (h0 : x.toInt32 = 0) (hy : ∀ j, j < 32 → y.toInt32.toBitVec.getLsbD j = x.toBitVec.getLsbD (32 + j)) (h : LB y.toInt32.toBitVec k) : LB x.toBitVec (32 + k) := by
  have e : ∀ j, j < 32 → x.toBitVec.getLsbD j = false := fun j hj => by
    have e1 : x.toInt32.toBitVec = x.toBitVec.signExtend 32 := rfl
    have e2 : (x.toBitVec.signExtend 32).getLsbD j = false := by rw [← e1, h0]; exact BitVec.getLsbD_zero
    rw [BitVec.getLsbD_signExtend, if_pos (by omega)] at e2
    simpa [hj] using e2
  refine ⟨by have := h.1; omega, by rw [← hy k h.1]; exact h.2.1, fun j hj => ?_⟩
  by_cases q : j < 32
  · exact e j q
  · have := h.2.2 (j - 32) (by omega)
    rw [hy _ (by have := h.1; omega)] at this
    rw [show j = 32 + (j - 32) by omega]
    exact this
theorem hi_bits (x : Int64) (j : Nat) (hj : j < 32) : ((x.toUInt64 >>> ((32 : Int32).toInt64.toUInt64 &&& Int64.toUInt64 63)).toInt64).toInt32.toBitVec.getLsbD j = x.toBitVec.getLsbD (32 + j) := by
  have c : (((32 : Int32).toInt64.toUInt64 &&& Int64.toUInt64 63).toBitVec % 64).toNat = 32 := by decide
  have e : ((x.toUInt64 >>> ((32 : Int32).toInt64.toUInt64 &&& Int64.toUInt64 63)).toInt64).toBitVec = x.toBitVec >>> (((32 : Int32).toInt64.toUInt64 &&& Int64.toUInt64 63).toBitVec % 64).toNat := rfl
  have e1 : ∀ y : Int64, y.toInt32.toBitVec = y.toBitVec.signExtend 32 := fun _ => rfl
  rw [e1, BitVec.getLsbD_signExtend, if_pos (by omega), e, c, BitVec.getLsbD_ushiftRight]
  simp [hj]
theorem zero_halves {x y : Int64} (h0 : x.toInt32 = 0) (hy : ∀ j, j < 32 → y.toInt32.toBitVec.getLsbD j = x.toBitVec.getLsbD (32 + j)) (h1 : y.toInt32 = 0) : x = 0 := by
  apply Int64.toBitVec_inj.mp
  apply BitVec.eq_of_getLsbD_eq
  intro j hj
  have z : (0 : Int64).toBitVec.getLsbD j = false := BitVec.getLsbD_zero
  rw [z]
  by_cases q : j < 32
  · have e1 : x.toInt32.toBitVec = x.toBitVec.signExtend 32 := rfl
    have e2 : (x.toBitVec.signExtend 32).getLsbD j = false := by rw [← e1, h0]; exact BitVec.getLsbD_zero
    rw [BitVec.getLsbD_signExtend, if_pos (by omega)] at e2
    simpa [q] using e2
  · have e := hy (j - 32) (by omega)
    rw [h1, show 32 + (j - 32) = j by omega] at e
    rw [← e]
    exact BitVec.getLsbD_zero
/-- no bit in both -/
def DJ (a b : Int64) : Prop := ∀ j : Int, 0 ≤ j → j < 64 → bt a j → ¬ bt b j
theorem DJ.zero (a : Int64) : DJ a 0 := fun _ _ _ _ => bt_zero
theorem DJ.low {a b : Int64} {n : Int32} (h : DJ a b) (hn : LB a.toBitVec n.toInt.toNat) (h0 : 0 ≤ n.toInt) (h1 : n.toInt ≤ 63) : DJ (a &&& (a - 1)) (b ||| (1 <<< (n.toInt64 &&& 63))) ∧ un b < un (b ||| (1 <<< (n.toInt64 &&& 63))) := by
  have hb : bt a n.toInt := hn.2.1
  refine ⟨fun j j0 j1 q r => ?_, ?_⟩
  · have e : (a &&& (a - 1)).toBitVec = a.toBitVec &&& (a.toBitVec - 1#64) := by
      rw [Int64.toBitVec_and, Int64.toBitVec_sub]; rfl
    unfold bt at q
    rw [e] at q
    have q2 := (low_and hn j.toNat (by omega)).mp q
    rcases bt_or.mp r with w | w
    · exact h j j0 j1 q2.1 w
    · rw [bt_shl h0 h1 j0] at w
      exact q2.2 (by rw [w])
  · have a1 := un_or b (1 <<< (n.toInt64 &&& 63))
    by_cases q : un b = un (b ||| (1 <<< (n.toInt64 &&& 63)))
    · exfalso
      have e := un_inj q
      have w : bt (b ||| (1 <<< (n.toInt64 &&& 63))) n.toInt := bt_or.mpr (Or.inr ((bt_shl h0 h1 h0).mpr rfl))
      rw [← e] at w
      exact h n.toInt h0 (by omega) hb w
    · omega
theorem DJ.add {a b : Int64} {k : Int32} (h : DJ a b) (h0 : 0 ≤ k.toInt) (h1 : k.toInt ≤ 63) (hb : ¬ bt b k.toInt) : DJ (a ||| (1 <<< (k.toInt64 &&& 63))) b := fun j j0 j1 q => by
  rcases bt_or.mp q with w | w
  · exact h j j0 j1 w
  · rw [(bt_shl h0 h1 j0).mp w]; exact hb
theorem dJ13_numberOfTrailingZeros_95d88_0 : decode cJ13_numberOfTrailingZeros_95d88 0 = .ok (.lload_n 0, 1) := by decide +kernel
theorem dJ13_numberOfTrailingZeros_95d88_1 : decode cJ13_numberOfTrailingZeros_95d88 1 = .ok (.l2i, 1) := by decide +kernel
theorem dJ13_numberOfTrailingZeros_95d88_2 : decode cJ13_numberOfTrailingZeros_95d88 2 = .ok (.istore_n 2, 1) := by decide +kernel
theorem dJ13_numberOfTrailingZeros_95d88_3 : decode cJ13_numberOfTrailingZeros_95d88 3 = .ok (.iload_n 2, 1) := by decide +kernel
theorem dJ13_numberOfTrailingZeros_95d88_4 : decode cJ13_numberOfTrailingZeros_95d88 4 = .ok (.ifCond .ne 17, 3) := by decide +kernel
theorem dJ13_numberOfTrailingZeros_95d88_7 : decode cJ13_numberOfTrailingZeros_95d88 7 = .ok (.bipush 32, 2) := by decide +kernel
theorem dJ13_numberOfTrailingZeros_95d88_9 : decode cJ13_numberOfTrailingZeros_95d88 9 = .ok (.lload_n 0, 1) := by decide +kernel
theorem dJ13_numberOfTrailingZeros_95d88_10 : decode cJ13_numberOfTrailingZeros_95d88 10 = .ok (.bipush 32, 2) := by decide +kernel
theorem dJ13_numberOfTrailingZeros_95d88_12 : decode cJ13_numberOfTrailingZeros_95d88 12 = .ok (.lushr, 1) := by decide +kernel
theorem dJ13_numberOfTrailingZeros_95d88_13 : decode cJ13_numberOfTrailingZeros_95d88 13 = .ok (.l2i, 1) := by decide +kernel
theorem dJ13_numberOfTrailingZeros_95d88_14 : decode cJ13_numberOfTrailingZeros_95d88 14 = .ok (.invokestatic 311, 3) := by decide +kernel
theorem dJ13_numberOfTrailingZeros_95d88_17 : decode cJ13_numberOfTrailingZeros_95d88 17 = .ok (.iadd, 1) := by decide +kernel
theorem dJ13_numberOfTrailingZeros_95d88_18 : decode cJ13_numberOfTrailingZeros_95d88 18 = .ok (.goto 7, 3) := by decide +kernel
theorem dJ13_numberOfTrailingZeros_95d88_21 : decode cJ13_numberOfTrailingZeros_95d88 21 = .ok (.iload_n 2, 1) := by decide +kernel
theorem dJ13_numberOfTrailingZeros_95d88_22 : decode cJ13_numberOfTrailingZeros_95d88 22 = .ok (.invokestatic 311, 3) := by decide +kernel
theorem dJ13_numberOfTrailingZeros_95d88_25 : decode cJ13_numberOfTrailingZeros_95d88 25 = .ok (.ireturn, 1) := by decide +kernel
theorem dJ6_numberOfTrailingZeros_0f7a4_0 : decode cJ6_numberOfTrailingZeros_0f7a4 0 = .ok (.iload_n 0, 1) := by decide +kernel
theorem dJ6_numberOfTrailingZeros_0f7a4_1 : decode cJ6_numberOfTrailingZeros_0f7a4 1 = .ok (.iconst (-1), 1) := by decide +kernel
theorem dJ6_numberOfTrailingZeros_0f7a4_2 : decode cJ6_numberOfTrailingZeros_0f7a4 2 = .ok (.ixor, 1) := by decide +kernel
theorem dJ6_numberOfTrailingZeros_0f7a4_3 : decode cJ6_numberOfTrailingZeros_0f7a4 3 = .ok (.iload_n 0, 1) := by decide +kernel
theorem dJ6_numberOfTrailingZeros_0f7a4_4 : decode cJ6_numberOfTrailingZeros_0f7a4 4 = .ok (.iconst 1, 1) := by decide +kernel
theorem dJ6_numberOfTrailingZeros_0f7a4_5 : decode cJ6_numberOfTrailingZeros_0f7a4 5 = .ok (.isub, 1) := by decide +kernel
theorem dJ6_numberOfTrailingZeros_0f7a4_6 : decode cJ6_numberOfTrailingZeros_0f7a4 6 = .ok (.iand, 1) := by decide +kernel
theorem dJ6_numberOfTrailingZeros_0f7a4_7 : decode cJ6_numberOfTrailingZeros_0f7a4 7 = .ok (.istore_n 0, 1) := by decide +kernel
theorem dJ6_numberOfTrailingZeros_0f7a4_8 : decode cJ6_numberOfTrailingZeros_0f7a4 8 = .ok (.iload_n 0, 1) := by decide +kernel
theorem dJ6_numberOfTrailingZeros_0f7a4_9 : decode cJ6_numberOfTrailingZeros_0f7a4 9 = .ok (.ifCond .gt 8, 3) := by decide +kernel
theorem dJ6_numberOfTrailingZeros_0f7a4_12 : decode cJ6_numberOfTrailingZeros_0f7a4 12 = .ok (.iload_n 0, 1) := by decide +kernel
theorem dJ6_numberOfTrailingZeros_0f7a4_13 : decode cJ6_numberOfTrailingZeros_0f7a4 13 = .ok (.bipush 32, 2) := by decide +kernel
theorem dJ6_numberOfTrailingZeros_0f7a4_15 : decode cJ6_numberOfTrailingZeros_0f7a4 15 = .ok (.iand, 1) := by decide +kernel
theorem dJ6_numberOfTrailingZeros_0f7a4_16 : decode cJ6_numberOfTrailingZeros_0f7a4 16 = .ok (.ireturn, 1) := by decide +kernel
theorem dJ6_numberOfTrailingZeros_0f7a4_17 : decode cJ6_numberOfTrailingZeros_0f7a4 17 = .ok (.iconst 1, 1) := by decide +kernel
theorem dJ6_numberOfTrailingZeros_0f7a4_18 : decode cJ6_numberOfTrailingZeros_0f7a4 18 = .ok (.istore_n 1, 1) := by decide +kernel
theorem dJ6_numberOfTrailingZeros_0f7a4_19 : decode cJ6_numberOfTrailingZeros_0f7a4 19 = .ok (.iload_n 0, 1) := by decide +kernel
theorem dJ6_numberOfTrailingZeros_0f7a4_20 : decode cJ6_numberOfTrailingZeros_0f7a4 20 = .ok (.ldc_w 264, 3) := by decide +kernel
theorem dJ6_numberOfTrailingZeros_0f7a4_23 : decode cJ6_numberOfTrailingZeros_0f7a4 23 = .ok (.if_icmp .le 11, 3) := by decide +kernel
theorem dJ6_numberOfTrailingZeros_0f7a4_26 : decode cJ6_numberOfTrailingZeros_0f7a4 26 = .ok (.iinc 1 16, 3) := by decide +kernel
theorem dJ6_numberOfTrailingZeros_0f7a4_29 : decode cJ6_numberOfTrailingZeros_0f7a4 29 = .ok (.iload_n 0, 1) := by decide +kernel
theorem dJ6_numberOfTrailingZeros_0f7a4_30 : decode cJ6_numberOfTrailingZeros_0f7a4 30 = .ok (.bipush 16, 2) := by decide +kernel
theorem dJ6_numberOfTrailingZeros_0f7a4_32 : decode cJ6_numberOfTrailingZeros_0f7a4 32 = .ok (.iushr, 1) := by decide +kernel
theorem dJ6_numberOfTrailingZeros_0f7a4_33 : decode cJ6_numberOfTrailingZeros_0f7a4 33 = .ok (.istore_n 0, 1) := by decide +kernel
theorem dJ6_numberOfTrailingZeros_0f7a4_34 : decode cJ6_numberOfTrailingZeros_0f7a4 34 = .ok (.iload_n 0, 1) := by decide +kernel
theorem dJ6_numberOfTrailingZeros_0f7a4_35 : decode cJ6_numberOfTrailingZeros_0f7a4 35 = .ok (.sipush 256, 3) := by decide +kernel
theorem dJ6_numberOfTrailingZeros_0f7a4_38 : decode cJ6_numberOfTrailingZeros_0f7a4 38 = .ok (.if_icmp .le 11, 3) := by decide +kernel
theorem dJ6_numberOfTrailingZeros_0f7a4_41 : decode cJ6_numberOfTrailingZeros_0f7a4 41 = .ok (.iinc 1 8, 3) := by decide +kernel
theorem dJ6_numberOfTrailingZeros_0f7a4_44 : decode cJ6_numberOfTrailingZeros_0f7a4 44 = .ok (.iload_n 0, 1) := by decide +kernel
theorem dJ6_numberOfTrailingZeros_0f7a4_45 : decode cJ6_numberOfTrailingZeros_0f7a4 45 = .ok (.bipush 8, 2) := by decide +kernel
theorem dJ6_numberOfTrailingZeros_0f7a4_47 : decode cJ6_numberOfTrailingZeros_0f7a4 47 = .ok (.iushr, 1) := by decide +kernel
theorem dJ6_numberOfTrailingZeros_0f7a4_48 : decode cJ6_numberOfTrailingZeros_0f7a4 48 = .ok (.istore_n 0, 1) := by decide +kernel
theorem dJ6_numberOfTrailingZeros_0f7a4_49 : decode cJ6_numberOfTrailingZeros_0f7a4 49 = .ok (.iload_n 0, 1) := by decide +kernel
theorem dJ6_numberOfTrailingZeros_0f7a4_50 : decode cJ6_numberOfTrailingZeros_0f7a4 50 = .ok (.bipush 16, 2) := by decide +kernel
theorem dJ6_numberOfTrailingZeros_0f7a4_52 : decode cJ6_numberOfTrailingZeros_0f7a4 52 = .ok (.if_icmp .le 10, 3) := by decide +kernel
theorem dJ6_numberOfTrailingZeros_0f7a4_55 : decode cJ6_numberOfTrailingZeros_0f7a4 55 = .ok (.iinc 1 4, 3) := by decide +kernel
theorem dJ6_numberOfTrailingZeros_0f7a4_58 : decode cJ6_numberOfTrailingZeros_0f7a4 58 = .ok (.iload_n 0, 1) := by decide +kernel
theorem dJ6_numberOfTrailingZeros_0f7a4_59 : decode cJ6_numberOfTrailingZeros_0f7a4 59 = .ok (.iconst 4, 1) := by decide +kernel
theorem dJ6_numberOfTrailingZeros_0f7a4_60 : decode cJ6_numberOfTrailingZeros_0f7a4 60 = .ok (.iushr, 1) := by decide +kernel
theorem dJ6_numberOfTrailingZeros_0f7a4_61 : decode cJ6_numberOfTrailingZeros_0f7a4 61 = .ok (.istore_n 0, 1) := by decide +kernel
theorem dJ6_numberOfTrailingZeros_0f7a4_62 : decode cJ6_numberOfTrailingZeros_0f7a4 62 = .ok (.iload_n 0, 1) := by decide +kernel
theorem dJ6_numberOfTrailingZeros_0f7a4_63 : decode cJ6_numberOfTrailingZeros_0f7a4 63 = .ok (.iconst 4, 1) := by decide +kernel
theorem dJ6_numberOfTrailingZeros_0f7a4_64 : decode cJ6_numberOfTrailingZeros_0f7a4 64 = .ok (.if_icmp .le 10, 3) := by decide +kernel
theorem dJ6_numberOfTrailingZeros_0f7a4_67 : decode cJ6_numberOfTrailingZeros_0f7a4 67 = .ok (.iinc 1 2, 3) := by decide +kernel
theorem dJ6_numberOfTrailingZeros_0f7a4_70 : decode cJ6_numberOfTrailingZeros_0f7a4 70 = .ok (.iload_n 0, 1) := by decide +kernel
theorem dJ6_numberOfTrailingZeros_0f7a4_71 : decode cJ6_numberOfTrailingZeros_0f7a4 71 = .ok (.iconst 2, 1) := by decide +kernel
theorem dJ6_numberOfTrailingZeros_0f7a4_72 : decode cJ6_numberOfTrailingZeros_0f7a4 72 = .ok (.iushr, 1) := by decide +kernel
theorem dJ6_numberOfTrailingZeros_0f7a4_73 : decode cJ6_numberOfTrailingZeros_0f7a4 73 = .ok (.istore_n 0, 1) := by decide +kernel
theorem dJ6_numberOfTrailingZeros_0f7a4_74 : decode cJ6_numberOfTrailingZeros_0f7a4 74 = .ok (.iload_n 1, 1) := by decide +kernel
theorem dJ6_numberOfTrailingZeros_0f7a4_75 : decode cJ6_numberOfTrailingZeros_0f7a4 75 = .ok (.iload_n 0, 1) := by decide +kernel
theorem dJ6_numberOfTrailingZeros_0f7a4_76 : decode cJ6_numberOfTrailingZeros_0f7a4 76 = .ok (.iconst 1, 1) := by decide +kernel
theorem dJ6_numberOfTrailingZeros_0f7a4_77 : decode cJ6_numberOfTrailingZeros_0f7a4 77 = .ok (.iushr, 1) := by decide +kernel
theorem dJ6_numberOfTrailingZeros_0f7a4_78 : decode cJ6_numberOfTrailingZeros_0f7a4 78 = .ok (.iadd, 1) := by decide +kernel
theorem dJ6_numberOfTrailingZeros_0f7a4_79 : decode cJ6_numberOfTrailingZeros_0f7a4 79 = .ok (.ireturn, 1) := by decide +kernel
set_option maxHeartbeats 4000000 in
set_option maxRecDepth 100000 in
theorem s_J6_numberOfTrailingZeros_0f7a4 (l : Launch) (d : Nat) {P : PP} {h : HP} (hv : Iv P h) (a1 : Int32) : Mt l yJ6_numberOfTrailingZeros_0f7a4 cJ6_numberOfTrailingZeros_0f7a4 2 (some .int) (d + 1) [.int a1] h 0 0 (fun r h' => ∃ v : Int32, r = some (.int v) ∧ 0 ≤ v.toInt ∧ v.toInt ≤ 32 ∧ h = h' ∧ ((a1.toInt = 0 → v.toInt = 32) ∧ (¬ a1.toInt = 0 → LB a1.toBitVec v.toInt.toNat))) := by
  refine Mt_iv hv (by decide) (Nat.le_of_ble_eq_true rfl) ?_
  show Go l RJ6 cJ6_numberOfTrailingZeros_0f7a4 2 (g_rm (d + 1) 0 0) "numberOfTrailingZeros" (some .int) 117 0 0 (fun _ _ => True) (fun r h' => ∃ v : Int32, r = some (.int v) ∧ 0 ≤ v.toInt ∧ v.toInt ≤ 32 ∧ h = h' ∧ ((a1.toInt = 0 → v.toInt = 32) ∧ (¬ a1.toInt = 0 → LB a1.toBitVec v.toInt.toNat))) 0 0 [(0, .int a1)] [] h
  refine go_iload_n (pc := 0) rfl dJ6_numberOfTrailingZeros_0f7a4_0 ?_
  refine go_iconst (pc := 1) (v := (-1)) (by decide) dJ6_numberOfTrailingZeros_0f7a4_1 ?_
  refine gx_ixor (pc := 2) dJ6_numberOfTrailingZeros_0f7a4_2 (fun v1 v1x => ?_)
  refine go_iload_n (pc := 3) rfl dJ6_numberOfTrailingZeros_0f7a4_3 ?_
  refine go_iconst (pc := 4) (v := 1) (by decide) dJ6_numberOfTrailingZeros_0f7a4_4 ?_
  refine gx_isub (pc := 5) dJ6_numberOfTrailingZeros_0f7a4_5 (fun v2 v2x => ?_)
  refine gx_iand (pc := 6) dJ6_numberOfTrailingZeros_0f7a4_6 (fun v3 v3x => ?_)
  refine go_istore_n (pc := 7) (Nat.le_of_ble_eq_true rfl) dJ6_numberOfTrailingZeros_0f7a4_7 (go_lv (lv2 := [(0, .int v3)]) rfl ?_)
  have lw := low32 a1
  rw [← v1x, ← v2x, ← v3x] at lw
  rcases lw with ⟨z1, z2⟩ | ⟨k, k1, k2, k3⟩
  ·
    have z3 : v3 = (-1 : Int32) := z2
    subst z3
    refine go_iload_n (pc := 8) rfl dJ6_numberOfTrailingZeros_0f7a4_8 ?_
    refine gf_if_gt (pc := 9) (tgt := 17) (ti_c (v := (-1)) (a := (-1)) (by decide)) (by decide) dJ6_numberOfTrailingZeros_0f7a4_9 (fun q4 => False.elim (by omega)) (fun q4 => ?_)
    refine go_iload_n (pc := 12) rfl dJ6_numberOfTrailingZeros_0f7a4_12 ?_
    refine go_bipush (pc := 13) (v := 32) (by decide) dJ6_numberOfTrailingZeros_0f7a4_13 ?_
    refine gx_iand (pc := 15) dJ6_numberOfTrailingZeros_0f7a4_15 (fun v5 v5x => ?_)
    have v5z : v5 = (32 : Int32) := by rw [v5x]; decide
    subst v5z
    exact gi_iret (pc := 16) (ti_c (v := 32) (a := 32) (by decide)) ⟨_, rfl, (by rw [show (32 : Int32).toInt = 32 from (ti_c (v := 32) (a := 32) (by decide))]; omega), (by rw [show (32 : Int32).toInt = 32 from (ti_c (v := 32) (a := 32) (by decide))]; omega), rfl, ⟨fun _ => by rw [show (32 : Int32).toInt = 32 from (ti_c (v := 32) (a := 32) (by decide))], fun q => absurd (by rw [z1]; decide) q⟩⟩ hv dJ6_numberOfTrailingZeros_0f7a4_16
  rcases (show k = 0 ∨ k = 1 ∨ k = 2 ∨ k = 3 ∨ k = 4 ∨ k = 5 ∨ k = 6 ∨ k = 7 ∨ k = 8 ∨ k = 9 ∨ k = 10 ∨ k = 11 ∨ k = 12 ∨ k = 13 ∨ k = 14 ∨ k = 15 ∨ k = 16 ∨ k = 17 ∨ k = 18 ∨ k = 19 ∨ k = 20 ∨ k = 21 ∨ k = 22 ∨ k = 23 ∨ k = 24 ∨ k = 25 ∨ k = 26 ∨ k = 27 ∨ k = 28 ∨ k = 29 ∨ k = 30 ∨ k = 31 by omega) with rfl | rfl | rfl | rfl | rfl | rfl | rfl | rfl | rfl | rfl | rfl | rfl | rfl | rfl | rfl | rfl | rfl | rfl | rfl | rfl | rfl | rfl | rfl | rfl | rfl | rfl | rfl | rfl | rfl | rfl | rfl | rfl
  ·
    have z3 : v3 = (0 : Int32) := k3.trans (by decide)
    subst z3
    refine go_iload_n (pc := 8) rfl dJ6_numberOfTrailingZeros_0f7a4_8 ?_
    refine gf_if_gt (pc := 9) (tgt := 17) (ti_c (v := 0) (a := 0) (by decide)) (by decide) dJ6_numberOfTrailingZeros_0f7a4_9 (fun q6 => False.elim (by omega)) (fun q6 => ?_)
    refine go_iload_n (pc := 12) rfl dJ6_numberOfTrailingZeros_0f7a4_12 ?_
    refine go_bipush (pc := 13) (v := 32) (by decide) dJ6_numberOfTrailingZeros_0f7a4_13 ?_
    refine gx_iand (pc := 15) dJ6_numberOfTrailingZeros_0f7a4_15 (fun v7 v7x => ?_)
    have v7z : v7 = (0 : Int32) := by rw [v7x]; decide
    subst v7z
    exact gi_iret (pc := 16) (ti_c (v := 0) (a := 0) (by decide)) ⟨_, rfl, (by rw [show (0 : Int32).toInt = 0 from (ti_c (v := 0) (a := 0) (by decide))]; omega), (by rw [show (0 : Int32).toInt = 0 from (ti_c (v := 0) (a := 0) (by decide))]; omega), rfl, ⟨fun q => by have e : a1 = 0 := Int32.toInt_inj.mp (q.trans (by decide)); rw [e] at k2; exact absurd k2.2.1 (by decide), fun _ => by rw [show (0 : Int32).toInt = 0 from (ti_c (v := 0) (a := 0) (by decide))]; exact k2⟩⟩ hv dJ6_numberOfTrailingZeros_0f7a4_16
  ·
    have z3 : v3 = (1 : Int32) := k3.trans (by decide)
    subst z3
    refine go_iload_n (pc := 8) rfl dJ6_numberOfTrailingZeros_0f7a4_8 ?_
    refine gf_if_gt (pc := 9) (tgt := 17) (ti_c (v := 1) (a := 1) (by decide)) (by decide) dJ6_numberOfTrailingZeros_0f7a4_9 (fun q8 => ?_) (fun q8 => False.elim (by omega))
    refine go_iconst (pc := 17) (v := 1) (by decide) dJ6_numberOfTrailingZeros_0f7a4_17 ?_
    refine go_istore_n (pc := 18) (Nat.le_of_ble_eq_true rfl) dJ6_numberOfTrailingZeros_0f7a4_18 (go_lv (lv2 := [(0, .int 1), (1, .int 1)]) rfl ?_)
    refine go_iload_n (pc := 19) rfl dJ6_numberOfTrailingZeros_0f7a4_19 ?_
    refine go_ldcw (pc := 20) kL_J6_264 dJ6_numberOfTrailingZeros_0f7a4_20 ?_
    refine gf_icmp_le (pc := 23) (tgt := 34) (ti_c (v := 1) (a := 1) (by decide)) (ti_c (v := 65536) (a := 65536) (by decide)) (by decide) dJ6_numberOfTrailingZeros_0f7a4_23 (fun q9 => ?_) (fun q9 => False.elim (by omega))
    refine go_iload_n (pc := 34) rfl dJ6_numberOfTrailingZeros_0f7a4_34 ?_
    refine go_sipush (pc := 35) (v := 256) (by decide) dJ6_numberOfTrailingZeros_0f7a4_35 ?_
    refine gf_icmp_le (pc := 38) (tgt := 49) (ti_c (v := 1) (a := 1) (by decide)) (ti_c (v := 256) (a := 256) (by decide)) (by decide) dJ6_numberOfTrailingZeros_0f7a4_38 (fun q10 => ?_) (fun q10 => False.elim (by omega))
    refine go_iload_n (pc := 49) rfl dJ6_numberOfTrailingZeros_0f7a4_49 ?_
    refine go_bipush (pc := 50) (v := 16) (by decide) dJ6_numberOfTrailingZeros_0f7a4_50 ?_
    refine gf_icmp_le (pc := 52) (tgt := 62) (ti_c (v := 1) (a := 1) (by decide)) (ti_c (v := 16) (a := 16) (by decide)) (by decide) dJ6_numberOfTrailingZeros_0f7a4_52 (fun q11 => ?_) (fun q11 => False.elim (by omega))
    refine go_iload_n (pc := 62) rfl dJ6_numberOfTrailingZeros_0f7a4_62 ?_
    refine go_iconst (pc := 63) (v := 4) (by decide) dJ6_numberOfTrailingZeros_0f7a4_63 ?_
    refine gf_icmp_le (pc := 64) (tgt := 74) (ti_c (v := 1) (a := 1) (by decide)) (ti_c (v := 4) (a := 4) (by decide)) (by decide) dJ6_numberOfTrailingZeros_0f7a4_64 (fun q12 => ?_) (fun q12 => False.elim (by omega))
    refine go_iload_n (pc := 74) rfl dJ6_numberOfTrailingZeros_0f7a4_74 ?_
    refine go_iload_n (pc := 75) rfl dJ6_numberOfTrailingZeros_0f7a4_75 ?_
    refine go_iconst (pc := 76) (v := 1) (by decide) dJ6_numberOfTrailingZeros_0f7a4_76 ?_
    refine gx_iushr (pc := 77) dJ6_numberOfTrailingZeros_0f7a4_77 (fun v13 v13x => ?_)
    have v13z : v13 = (0 : Int32) := by rw [v13x]; decide
    subst v13z
    refine gf_iadd (pc := 78) (ti_c (v := 1) (a := 1) (by decide)) (ti_c (v := 0) (a := 0) (by decide)) (by omega) (by omega) dJ6_numberOfTrailingZeros_0f7a4_78 (fun v14 e15 => ?_)
    exact gi_iret (pc := 79) e15 ⟨_, rfl, (by rw [show (v14 : Int32).toInt = (1 + 0) from e15]; omega), (by rw [show (v14 : Int32).toInt = (1 + 0) from e15]; omega), rfl, ⟨fun q => by have e : a1 = 0 := Int32.toInt_inj.mp (q.trans (by decide)); rw [e] at k2; exact absurd k2.2.1 (by decide), fun _ => by rw [show (v14 : Int32).toInt = (1 + 0) from e15]; exact k2⟩⟩ hv dJ6_numberOfTrailingZeros_0f7a4_79
  ·
    have z3 : v3 = (3 : Int32) := k3.trans (by decide)
    subst z3
    refine go_iload_n (pc := 8) rfl dJ6_numberOfTrailingZeros_0f7a4_8 ?_
    refine gf_if_gt (pc := 9) (tgt := 17) (ti_c (v := 3) (a := 3) (by decide)) (by decide) dJ6_numberOfTrailingZeros_0f7a4_9 (fun q16 => ?_) (fun q16 => False.elim (by omega))
    refine go_iconst (pc := 17) (v := 1) (by decide) dJ6_numberOfTrailingZeros_0f7a4_17 ?_
    refine go_istore_n (pc := 18) (Nat.le_of_ble_eq_true rfl) dJ6_numberOfTrailingZeros_0f7a4_18 (go_lv (lv2 := [(0, .int 3), (1, .int 1)]) rfl ?_)
    refine go_iload_n (pc := 19) rfl dJ6_numberOfTrailingZeros_0f7a4_19 ?_
    refine go_ldcw (pc := 20) kL_J6_264 dJ6_numberOfTrailingZeros_0f7a4_20 ?_
    refine gf_icmp_le (pc := 23) (tgt := 34) (ti_c (v := 3) (a := 3) (by decide)) (ti_c (v := 65536) (a := 65536) (by decide)) (by decide) dJ6_numberOfTrailingZeros_0f7a4_23 (fun q17 => ?_) (fun q17 => False.elim (by omega))
    refine go_iload_n (pc := 34) rfl dJ6_numberOfTrailingZeros_0f7a4_34 ?_
    refine go_sipush (pc := 35) (v := 256) (by decide) dJ6_numberOfTrailingZeros_0f7a4_35 ?_
    refine gf_icmp_le (pc := 38) (tgt := 49) (ti_c (v := 3) (a := 3) (by decide)) (ti_c (v := 256) (a := 256) (by decide)) (by decide) dJ6_numberOfTrailingZeros_0f7a4_38 (fun q18 => ?_) (fun q18 => False.elim (by omega))
    refine go_iload_n (pc := 49) rfl dJ6_numberOfTrailingZeros_0f7a4_49 ?_
    refine go_bipush (pc := 50) (v := 16) (by decide) dJ6_numberOfTrailingZeros_0f7a4_50 ?_
    refine gf_icmp_le (pc := 52) (tgt := 62) (ti_c (v := 3) (a := 3) (by decide)) (ti_c (v := 16) (a := 16) (by decide)) (by decide) dJ6_numberOfTrailingZeros_0f7a4_52 (fun q19 => ?_) (fun q19 => False.elim (by omega))
    refine go_iload_n (pc := 62) rfl dJ6_numberOfTrailingZeros_0f7a4_62 ?_
    refine go_iconst (pc := 63) (v := 4) (by decide) dJ6_numberOfTrailingZeros_0f7a4_63 ?_
    refine gf_icmp_le (pc := 64) (tgt := 74) (ti_c (v := 3) (a := 3) (by decide)) (ti_c (v := 4) (a := 4) (by decide)) (by decide) dJ6_numberOfTrailingZeros_0f7a4_64 (fun q20 => ?_) (fun q20 => False.elim (by omega))
    refine go_iload_n (pc := 74) rfl dJ6_numberOfTrailingZeros_0f7a4_74 ?_
    refine go_iload_n (pc := 75) rfl dJ6_numberOfTrailingZeros_0f7a4_75 ?_
    refine go_iconst (pc := 76) (v := 1) (by decide) dJ6_numberOfTrailingZeros_0f7a4_76 ?_
    refine gx_iushr (pc := 77) dJ6_numberOfTrailingZeros_0f7a4_77 (fun v21 v21x => ?_)
    have v21z : v21 = (1 : Int32) := by rw [v21x]; decide
    subst v21z
    refine gf_iadd (pc := 78) (ti_c (v := 1) (a := 1) (by decide)) (ti_c (v := 1) (a := 1) (by decide)) (by omega) (by omega) dJ6_numberOfTrailingZeros_0f7a4_78 (fun v22 e23 => ?_)
    exact gi_iret (pc := 79) e23 ⟨_, rfl, (by rw [show (v22 : Int32).toInt = (1 + 1) from e23]; omega), (by rw [show (v22 : Int32).toInt = (1 + 1) from e23]; omega), rfl, ⟨fun q => by have e : a1 = 0 := Int32.toInt_inj.mp (q.trans (by decide)); rw [e] at k2; exact absurd k2.2.1 (by decide), fun _ => by rw [show (v22 : Int32).toInt = (1 + 1) from e23]; exact k2⟩⟩ hv dJ6_numberOfTrailingZeros_0f7a4_79
  ·
    have z3 : v3 = (7 : Int32) := k3.trans (by decide)
    subst z3
    refine go_iload_n (pc := 8) rfl dJ6_numberOfTrailingZeros_0f7a4_8 ?_
    refine gf_if_gt (pc := 9) (tgt := 17) (ti_c (v := 7) (a := 7) (by decide)) (by decide) dJ6_numberOfTrailingZeros_0f7a4_9 (fun q24 => ?_) (fun q24 => False.elim (by omega))
    refine go_iconst (pc := 17) (v := 1) (by decide) dJ6_numberOfTrailingZeros_0f7a4_17 ?_
    refine go_istore_n (pc := 18) (Nat.le_of_ble_eq_true rfl) dJ6_numberOfTrailingZeros_0f7a4_18 (go_lv (lv2 := [(0, .int 7), (1, .int 1)]) rfl ?_)
    refine go_iload_n (pc := 19) rfl dJ6_numberOfTrailingZeros_0f7a4_19 ?_
    refine go_ldcw (pc := 20) kL_J6_264 dJ6_numberOfTrailingZeros_0f7a4_20 ?_
    refine gf_icmp_le (pc := 23) (tgt := 34) (ti_c (v := 7) (a := 7) (by decide)) (ti_c (v := 65536) (a := 65536) (by decide)) (by decide) dJ6_numberOfTrailingZeros_0f7a4_23 (fun q25 => ?_) (fun q25 => False.elim (by omega))
    refine go_iload_n (pc := 34) rfl dJ6_numberOfTrailingZeros_0f7a4_34 ?_
    refine go_sipush (pc := 35) (v := 256) (by decide) dJ6_numberOfTrailingZeros_0f7a4_35 ?_
    refine gf_icmp_le (pc := 38) (tgt := 49) (ti_c (v := 7) (a := 7) (by decide)) (ti_c (v := 256) (a := 256) (by decide)) (by decide) dJ6_numberOfTrailingZeros_0f7a4_38 (fun q26 => ?_) (fun q26 => False.elim (by omega))
    refine go_iload_n (pc := 49) rfl dJ6_numberOfTrailingZeros_0f7a4_49 ?_
    refine go_bipush (pc := 50) (v := 16) (by decide) dJ6_numberOfTrailingZeros_0f7a4_50 ?_
    refine gf_icmp_le (pc := 52) (tgt := 62) (ti_c (v := 7) (a := 7) (by decide)) (ti_c (v := 16) (a := 16) (by decide)) (by decide) dJ6_numberOfTrailingZeros_0f7a4_52 (fun q27 => ?_) (fun q27 => False.elim (by omega))
    refine go_iload_n (pc := 62) rfl dJ6_numberOfTrailingZeros_0f7a4_62 ?_
    refine go_iconst (pc := 63) (v := 4) (by decide) dJ6_numberOfTrailingZeros_0f7a4_63 ?_
    refine gf_icmp_le (pc := 64) (tgt := 74) (ti_c (v := 7) (a := 7) (by decide)) (ti_c (v := 4) (a := 4) (by decide)) (by decide) dJ6_numberOfTrailingZeros_0f7a4_64 (fun q28 => False.elim (by omega)) (fun q28 => ?_)
    refine gf_iinc (pc := 67) (Nat.le_of_ble_eq_true rfl) rfl (ti_c (v := 1) (a := 1) (by decide)) (ti_c (by decide)) (by omega) (by omega) dJ6_numberOfTrailingZeros_0f7a4_67 (fun v29 e30 => ?_)
    refine go_lv (lv2 := [(0, .int 7), (1, .int v29)]) rfl ?_
    refine go_iload_n (pc := 70) rfl dJ6_numberOfTrailingZeros_0f7a4_70 ?_
    refine go_iconst (pc := 71) (v := 2) (by decide) dJ6_numberOfTrailingZeros_0f7a4_71 ?_
    refine gx_iushr (pc := 72) dJ6_numberOfTrailingZeros_0f7a4_72 (fun v31 v31x => ?_)
    have v31z : v31 = (1 : Int32) := by rw [v31x]; decide
    subst v31z
    refine go_istore_n (pc := 73) (Nat.le_of_ble_eq_true rfl) dJ6_numberOfTrailingZeros_0f7a4_73 (go_lv (lv2 := [(0, .int 1), (1, .int v29)]) rfl ?_)
    refine go_iload_n (pc := 74) rfl dJ6_numberOfTrailingZeros_0f7a4_74 ?_
    refine go_iload_n (pc := 75) rfl dJ6_numberOfTrailingZeros_0f7a4_75 ?_
    refine go_iconst (pc := 76) (v := 1) (by decide) dJ6_numberOfTrailingZeros_0f7a4_76 ?_
    refine gx_iushr (pc := 77) dJ6_numberOfTrailingZeros_0f7a4_77 (fun v32 v32x => ?_)
    have v32z : v32 = (0 : Int32) := by rw [v32x]; decide
    subst v32z
    refine gf_iadd (pc := 78) e30 (ti_c (v := 0) (a := 0) (by decide)) (by omega) (by omega) dJ6_numberOfTrailingZeros_0f7a4_78 (fun v33 e34 => ?_)
    exact gi_iret (pc := 79) e34 ⟨_, rfl, (by rw [show (v33 : Int32).toInt = ((1 + 2) + 0) from e34]; omega), (by rw [show (v33 : Int32).toInt = ((1 + 2) + 0) from e34]; omega), rfl, ⟨fun q => by have e : a1 = 0 := Int32.toInt_inj.mp (q.trans (by decide)); rw [e] at k2; exact absurd k2.2.1 (by decide), fun _ => by rw [show (v33 : Int32).toInt = ((1 + 2) + 0) from e34]; exact k2⟩⟩ hv dJ6_numberOfTrailingZeros_0f7a4_79
  ·
    have z3 : v3 = (15 : Int32) := k3.trans (by decide)
    subst z3
    refine go_iload_n (pc := 8) rfl dJ6_numberOfTrailingZeros_0f7a4_8 ?_
    refine gf_if_gt (pc := 9) (tgt := 17) (ti_c (v := 15) (a := 15) (by decide)) (by decide) dJ6_numberOfTrailingZeros_0f7a4_9 (fun q35 => ?_) (fun q35 => False.elim (by omega))
    refine go_iconst (pc := 17) (v := 1) (by decide) dJ6_numberOfTrailingZeros_0f7a4_17 ?_
    refine go_istore_n (pc := 18) (Nat.le_of_ble_eq_true rfl) dJ6_numberOfTrailingZeros_0f7a4_18 (go_lv (lv2 := [(0, .int 15), (1, .int 1)]) rfl ?_)
    refine go_iload_n (pc := 19) rfl dJ6_numberOfTrailingZeros_0f7a4_19 ?_
    refine go_ldcw (pc := 20) kL_J6_264 dJ6_numberOfTrailingZeros_0f7a4_20 ?_
    refine gf_icmp_le (pc := 23) (tgt := 34) (ti_c (v := 15) (a := 15) (by decide)) (ti_c (v := 65536) (a := 65536) (by decide)) (by decide) dJ6_numberOfTrailingZeros_0f7a4_23 (fun q36 => ?_) (fun q36 => False.elim (by omega))
    refine go_iload_n (pc := 34) rfl dJ6_numberOfTrailingZeros_0f7a4_34 ?_
    refine go_sipush (pc := 35) (v := 256) (by decide) dJ6_numberOfTrailingZeros_0f7a4_35 ?_
    refine gf_icmp_le (pc := 38) (tgt := 49) (ti_c (v := 15) (a := 15) (by decide)) (ti_c (v := 256) (a := 256) (by decide)) (by decide) dJ6_numberOfTrailingZeros_0f7a4_38 (fun q37 => ?_) (fun q37 => False.elim (by omega))
    refine go_iload_n (pc := 49) rfl dJ6_numberOfTrailingZeros_0f7a4_49 ?_
    refine go_bipush (pc := 50) (v := 16) (by decide) dJ6_numberOfTrailingZeros_0f7a4_50 ?_
    refine gf_icmp_le (pc := 52) (tgt := 62) (ti_c (v := 15) (a := 15) (by decide)) (ti_c (v := 16) (a := 16) (by decide)) (by decide) dJ6_numberOfTrailingZeros_0f7a4_52 (fun q38 => ?_) (fun q38 => False.elim (by omega))
    refine go_iload_n (pc := 62) rfl dJ6_numberOfTrailingZeros_0f7a4_62 ?_
    refine go_iconst (pc := 63) (v := 4) (by decide) dJ6_numberOfTrailingZeros_0f7a4_63 ?_
    refine gf_icmp_le (pc := 64) (tgt := 74) (ti_c (v := 15) (a := 15) (by decide)) (ti_c (v := 4) (a := 4) (by decide)) (by decide) dJ6_numberOfTrailingZeros_0f7a4_64 (fun q39 => False.elim (by omega)) (fun q39 => ?_)
    refine gf_iinc (pc := 67) (Nat.le_of_ble_eq_true rfl) rfl (ti_c (v := 1) (a := 1) (by decide)) (ti_c (by decide)) (by omega) (by omega) dJ6_numberOfTrailingZeros_0f7a4_67 (fun v40 e41 => ?_)
    refine go_lv (lv2 := [(0, .int 15), (1, .int v40)]) rfl ?_
    refine go_iload_n (pc := 70) rfl dJ6_numberOfTrailingZeros_0f7a4_70 ?_
    refine go_iconst (pc := 71) (v := 2) (by decide) dJ6_numberOfTrailingZeros_0f7a4_71 ?_
    refine gx_iushr (pc := 72) dJ6_numberOfTrailingZeros_0f7a4_72 (fun v42 v42x => ?_)
    have v42z : v42 = (3 : Int32) := by rw [v42x]; decide
    subst v42z
    refine go_istore_n (pc := 73) (Nat.le_of_ble_eq_true rfl) dJ6_numberOfTrailingZeros_0f7a4_73 (go_lv (lv2 := [(0, .int 3), (1, .int v40)]) rfl ?_)
    refine go_iload_n (pc := 74) rfl dJ6_numberOfTrailingZeros_0f7a4_74 ?_
    refine go_iload_n (pc := 75) rfl dJ6_numberOfTrailingZeros_0f7a4_75 ?_
    refine go_iconst (pc := 76) (v := 1) (by decide) dJ6_numberOfTrailingZeros_0f7a4_76 ?_
    refine gx_iushr (pc := 77) dJ6_numberOfTrailingZeros_0f7a4_77 (fun v43 v43x => ?_)
    have v43z : v43 = (1 : Int32) := by rw [v43x]; decide
    subst v43z
    refine gf_iadd (pc := 78) e41 (ti_c (v := 1) (a := 1) (by decide)) (by omega) (by omega) dJ6_numberOfTrailingZeros_0f7a4_78 (fun v44 e45 => ?_)
    exact gi_iret (pc := 79) e45 ⟨_, rfl, (by rw [show (v44 : Int32).toInt = ((1 + 2) + 1) from e45]; omega), (by rw [show (v44 : Int32).toInt = ((1 + 2) + 1) from e45]; omega), rfl, ⟨fun q => by have e : a1 = 0 := Int32.toInt_inj.mp (q.trans (by decide)); rw [e] at k2; exact absurd k2.2.1 (by decide), fun _ => by rw [show (v44 : Int32).toInt = ((1 + 2) + 1) from e45]; exact k2⟩⟩ hv dJ6_numberOfTrailingZeros_0f7a4_79
  ·
    have z3 : v3 = (31 : Int32) := k3.trans (by decide)
    subst z3
    refine go_iload_n (pc := 8) rfl dJ6_numberOfTrailingZeros_0f7a4_8 ?_
    refine gf_if_gt (pc := 9) (tgt := 17) (ti_c (v := 31) (a := 31) (by decide)) (by decide) dJ6_numberOfTrailingZeros_0f7a4_9 (fun q46 => ?_) (fun q46 => False.elim (by omega))
    refine go_iconst (pc := 17) (v := 1) (by decide) dJ6_numberOfTrailingZeros_0f7a4_17 ?_
    refine go_istore_n (pc := 18) (Nat.le_of_ble_eq_true rfl) dJ6_numberOfTrailingZeros_0f7a4_18 (go_lv (lv2 := [(0, .int 31), (1, .int 1)]) rfl ?_)
    refine go_iload_n (pc := 19) rfl dJ6_numberOfTrailingZeros_0f7a4_19 ?_
    refine go_ldcw (pc := 20) kL_J6_264 dJ6_numberOfTrailingZeros_0f7a4_20 ?_
    refine gf_icmp_le (pc := 23) (tgt := 34) (ti_c (v := 31) (a := 31) (by decide)) (ti_c (v := 65536) (a := 65536) (by decide)) (by decide) dJ6_numberOfTrailingZeros_0f7a4_23 (fun q47 => ?_) (fun q47 => False.elim (by omega))
    refine go_iload_n (pc := 34) rfl dJ6_numberOfTrailingZeros_0f7a4_34 ?_
    refine go_sipush (pc := 35) (v := 256) (by decide) dJ6_numberOfTrailingZeros_0f7a4_35 ?_
    refine gf_icmp_le (pc := 38) (tgt := 49) (ti_c (v := 31) (a := 31) (by decide)) (ti_c (v := 256) (a := 256) (by decide)) (by decide) dJ6_numberOfTrailingZeros_0f7a4_38 (fun q48 => ?_) (fun q48 => False.elim (by omega))
    refine go_iload_n (pc := 49) rfl dJ6_numberOfTrailingZeros_0f7a4_49 ?_
    refine go_bipush (pc := 50) (v := 16) (by decide) dJ6_numberOfTrailingZeros_0f7a4_50 ?_
    refine gf_icmp_le (pc := 52) (tgt := 62) (ti_c (v := 31) (a := 31) (by decide)) (ti_c (v := 16) (a := 16) (by decide)) (by decide) dJ6_numberOfTrailingZeros_0f7a4_52 (fun q49 => False.elim (by omega)) (fun q49 => ?_)
    refine gf_iinc (pc := 55) (Nat.le_of_ble_eq_true rfl) rfl (ti_c (v := 1) (a := 1) (by decide)) (ti_c (by decide)) (by omega) (by omega) dJ6_numberOfTrailingZeros_0f7a4_55 (fun v50 e51 => ?_)
    refine go_lv (lv2 := [(0, .int 31), (1, .int v50)]) rfl ?_
    refine go_iload_n (pc := 58) rfl dJ6_numberOfTrailingZeros_0f7a4_58 ?_
    refine go_iconst (pc := 59) (v := 4) (by decide) dJ6_numberOfTrailingZeros_0f7a4_59 ?_
    refine gx_iushr (pc := 60) dJ6_numberOfTrailingZeros_0f7a4_60 (fun v52 v52x => ?_)
    have v52z : v52 = (1 : Int32) := by rw [v52x]; decide
    subst v52z
    refine go_istore_n (pc := 61) (Nat.le_of_ble_eq_true rfl) dJ6_numberOfTrailingZeros_0f7a4_61 (go_lv (lv2 := [(0, .int 1), (1, .int v50)]) rfl ?_)
    refine go_iload_n (pc := 62) rfl dJ6_numberOfTrailingZeros_0f7a4_62 ?_
    refine go_iconst (pc := 63) (v := 4) (by decide) dJ6_numberOfTrailingZeros_0f7a4_63 ?_
    refine gf_icmp_le (pc := 64) (tgt := 74) (ti_c (v := 1) (a := 1) (by decide)) (ti_c (v := 4) (a := 4) (by decide)) (by decide) dJ6_numberOfTrailingZeros_0f7a4_64 (fun q53 => ?_) (fun q53 => False.elim (by omega))
    refine go_iload_n (pc := 74) rfl dJ6_numberOfTrailingZeros_0f7a4_74 ?_
    refine go_iload_n (pc := 75) rfl dJ6_numberOfTrailingZeros_0f7a4_75 ?_
    refine go_iconst (pc := 76) (v := 1) (by decide) dJ6_numberOfTrailingZeros_0f7a4_76 ?_
    refine gx_iushr (pc := 77) dJ6_numberOfTrailingZeros_0f7a4_77 (fun v54 v54x => ?_)
    have v54z : v54 = (0 : Int32) := by rw [v54x]; decide
    subst v54z
    refine gf_iadd (pc := 78) e51 (ti_c (v := 0) (a := 0) (by decide)) (by omega) (by omega) dJ6_numberOfTrailingZeros_0f7a4_78 (fun v55 e56 => ?_)
    exact gi_iret (pc := 79) e56 ⟨_, rfl, (by rw [show (v55 : Int32).toInt = ((1 + 4) + 0) from e56]; omega), (by rw [show (v55 : Int32).toInt = ((1 + 4) + 0) from e56]; omega), rfl, ⟨fun q => by have e : a1 = 0 := Int32.toInt_inj.mp (q.trans (by decide)); rw [e] at k2; exact absurd k2.2.1 (by decide), fun _ => by rw [show (v55 : Int32).toInt = ((1 + 4) + 0) from e56]; exact k2⟩⟩ hv dJ6_numberOfTrailingZeros_0f7a4_79
  ·
    have z3 : v3 = (63 : Int32) := k3.trans (by decide)
    subst z3
    refine go_iload_n (pc := 8) rfl dJ6_numberOfTrailingZeros_0f7a4_8 ?_
    refine gf_if_gt (pc := 9) (tgt := 17) (ti_c (v := 63) (a := 63) (by decide)) (by decide) dJ6_numberOfTrailingZeros_0f7a4_9 (fun q57 => ?_) (fun q57 => False.elim (by omega))
    refine go_iconst (pc := 17) (v := 1) (by decide) dJ6_numberOfTrailingZeros_0f7a4_17 ?_
    refine go_istore_n (pc := 18) (Nat.le_of_ble_eq_true rfl) dJ6_numberOfTrailingZeros_0f7a4_18 (go_lv (lv2 := [(0, .int 63), (1, .int 1)]) rfl ?_)
    refine go_iload_n (pc := 19) rfl dJ6_numberOfTrailingZeros_0f7a4_19 ?_
    refine go_ldcw (pc := 20) kL_J6_264 dJ6_numberOfTrailingZeros_0f7a4_20 ?_
    refine gf_icmp_le (pc := 23) (tgt := 34) (ti_c (v := 63) (a := 63) (by decide)) (ti_c (v := 65536) (a := 65536) (by decide)) (by decide) dJ6_numberOfTrailingZeros_0f7a4_23 (fun q58 => ?_) (fun q58 => False.elim (by omega))
    refine go_iload_n (pc := 34) rfl dJ6_numberOfTrailingZeros_0f7a4_34 ?_
    refine go_sipush (pc := 35) (v := 256) (by decide) dJ6_numberOfTrailingZeros_0f7a4_35 ?_
    refine gf_icmp_le (pc := 38) (tgt := 49) (ti_c (v := 63) (a := 63) (by decide)) (ti_c (v := 256) (a := 256) (by decide)) (by decide) dJ6_numberOfTrailingZeros_0f7a4_38 (fun q59 => ?_) (fun q59 => False.elim (by omega))
    refine go_iload_n (pc := 49) rfl dJ6_numberOfTrailingZeros_0f7a4_49 ?_
    refine go_bipush (pc := 50) (v := 16) (by decide) dJ6_numberOfTrailingZeros_0f7a4_50 ?_
    refine gf_icmp_le (pc := 52) (tgt := 62) (ti_c (v := 63) (a := 63) (by decide)) (ti_c (v := 16) (a := 16) (by decide)) (by decide) dJ6_numberOfTrailingZeros_0f7a4_52 (fun q60 => False.elim (by omega)) (fun q60 => ?_)
    refine gf_iinc (pc := 55) (Nat.le_of_ble_eq_true rfl) rfl (ti_c (v := 1) (a := 1) (by decide)) (ti_c (by decide)) (by omega) (by omega) dJ6_numberOfTrailingZeros_0f7a4_55 (fun v61 e62 => ?_)
    refine go_lv (lv2 := [(0, .int 63), (1, .int v61)]) rfl ?_
    refine go_iload_n (pc := 58) rfl dJ6_numberOfTrailingZeros_0f7a4_58 ?_
    refine go_iconst (pc := 59) (v := 4) (by decide) dJ6_numberOfTrailingZeros_0f7a4_59 ?_
    refine gx_iushr (pc := 60) dJ6_numberOfTrailingZeros_0f7a4_60 (fun v63 v63x => ?_)
    have v63z : v63 = (3 : Int32) := by rw [v63x]; decide
    subst v63z
    refine go_istore_n (pc := 61) (Nat.le_of_ble_eq_true rfl) dJ6_numberOfTrailingZeros_0f7a4_61 (go_lv (lv2 := [(0, .int 3), (1, .int v61)]) rfl ?_)
    refine go_iload_n (pc := 62) rfl dJ6_numberOfTrailingZeros_0f7a4_62 ?_
    refine go_iconst (pc := 63) (v := 4) (by decide) dJ6_numberOfTrailingZeros_0f7a4_63 ?_
    refine gf_icmp_le (pc := 64) (tgt := 74) (ti_c (v := 3) (a := 3) (by decide)) (ti_c (v := 4) (a := 4) (by decide)) (by decide) dJ6_numberOfTrailingZeros_0f7a4_64 (fun q64 => ?_) (fun q64 => False.elim (by omega))
    refine go_iload_n (pc := 74) rfl dJ6_numberOfTrailingZeros_0f7a4_74 ?_
    refine go_iload_n (pc := 75) rfl dJ6_numberOfTrailingZeros_0f7a4_75 ?_
    refine go_iconst (pc := 76) (v := 1) (by decide) dJ6_numberOfTrailingZeros_0f7a4_76 ?_
    refine gx_iushr (pc := 77) dJ6_numberOfTrailingZeros_0f7a4_77 (fun v65 v65x => ?_)
    have v65z : v65 = (1 : Int32) := by rw [v65x]; decide
    subst v65z
    refine gf_iadd (pc := 78) e62 (ti_c (v := 1) (a := 1) (by decide)) (by omega) (by omega) dJ6_numberOfTrailingZeros_0f7a4_78 (fun v66 e67 => ?_)
    exact gi_iret (pc := 79) e67 ⟨_, rfl, (by rw [show (v66 : Int32).toInt = ((1 + 4) + 1) from e67]; omega), (by rw [show (v66 : Int32).toInt = ((1 + 4) + 1) from e67]; omega), rfl, ⟨fun q => by have e : a1 = 0 := Int32.toInt_inj.mp (q.trans (by decide)); rw [e] at k2; exact absurd k2.2.1 (by decide), fun _ => by rw [show (v66 : Int32).toInt = ((1 + 4) + 1) from e67]; exact k2⟩⟩ hv dJ6_numberOfTrailingZeros_0f7a4_79
  ·
    have z3 : v3 = (127 : Int32) := k3.trans (by decide)
    subst z3
    refine go_iload_n (pc := 8) rfl dJ6_numberOfTrailingZeros_0f7a4_8 ?_
    refine gf_if_gt (pc := 9) (tgt := 17) (ti_c (v := 127) (a := 127) (by decide)) (by decide) dJ6_numberOfTrailingZeros_0f7a4_9 (fun q68 => ?_) (fun q68 => False.elim (by omega))
    refine go_iconst (pc := 17) (v := 1) (by decide) dJ6_numberOfTrailingZeros_0f7a4_17 ?_
    refine go_istore_n (pc := 18) (Nat.le_of_ble_eq_true rfl) dJ6_numberOfTrailingZeros_0f7a4_18 (go_lv (lv2 := [(0, .int 127), (1, .int 1)]) rfl ?_)
    refine go_iload_n (pc := 19) rfl dJ6_numberOfTrailingZeros_0f7a4_19 ?_
    refine go_ldcw (pc := 20) kL_J6_264 dJ6_numberOfTrailingZeros_0f7a4_20 ?_
    refine gf_icmp_le (pc := 23) (tgt := 34) (ti_c (v := 127) (a := 127) (by decide)) (ti_c (v := 65536) (a := 65536) (by decide)) (by decide) dJ6_numberOfTrailingZeros_0f7a4_23 (fun q69 => ?_) (fun q69 => False.elim (by omega))
    refine go_iload_n (pc := 34) rfl dJ6_numberOfTrailingZeros_0f7a4_34 ?_
    refine go_sipush (pc := 35) (v := 256) (by decide) dJ6_numberOfTrailingZeros_0f7a4_35 ?_
    refine gf_icmp_le (pc := 38) (tgt := 49) (ti_c (v := 127) (a := 127) (by decide)) (ti_c (v := 256) (a := 256) (by decide)) (by decide) dJ6_numberOfTrailingZeros_0f7a4_38 (fun q70 => ?_) (fun q70 => False.elim (by omega))
    refine go_iload_n (pc := 49) rfl dJ6_numberOfTrailingZeros_0f7a4_49 ?_
    refine go_bipush (pc := 50) (v := 16) (by decide) dJ6_numberOfTrailingZeros_0f7a4_50 ?_
    refine gf_icmp_le (pc := 52) (tgt := 62) (ti_c (v := 127) (a := 127) (by decide)) (ti_c (v := 16) (a := 16) (by decide)) (by decide) dJ6_numberOfTrailingZeros_0f7a4_52 (fun q71 => False.elim (by omega)) (fun q71 => ?_)
    refine gf_iinc (pc := 55) (Nat.le_of_ble_eq_true rfl) rfl (ti_c (v := 1) (a := 1) (by decide)) (ti_c (by decide)) (by omega) (by omega) dJ6_numberOfTrailingZeros_0f7a4_55 (fun v72 e73 => ?_)
    refine go_lv (lv2 := [(0, .int 127), (1, .int v72)]) rfl ?_
    refine go_iload_n (pc := 58) rfl dJ6_numberOfTrailingZeros_0f7a4_58 ?_
    refine go_iconst (pc := 59) (v := 4) (by decide) dJ6_numberOfTrailingZeros_0f7a4_59 ?_
    refine gx_iushr (pc := 60) dJ6_numberOfTrailingZeros_0f7a4_60 (fun v74 v74x => ?_)
    have v74z : v74 = (7 : Int32) := by rw [v74x]; decide
    subst v74z
    refine go_istore_n (pc := 61) (Nat.le_of_ble_eq_true rfl) dJ6_numberOfTrailingZeros_0f7a4_61 (go_lv (lv2 := [(0, .int 7), (1, .int v72)]) rfl ?_)
    refine go_iload_n (pc := 62) rfl dJ6_numberOfTrailingZeros_0f7a4_62 ?_
    refine go_iconst (pc := 63) (v := 4) (by decide) dJ6_numberOfTrailingZeros_0f7a4_63 ?_
    refine gf_icmp_le (pc := 64) (tgt := 74) (ti_c (v := 7) (a := 7) (by decide)) (ti_c (v := 4) (a := 4) (by decide)) (by decide) dJ6_numberOfTrailingZeros_0f7a4_64 (fun q75 => False.elim (by omega)) (fun q75 => ?_)
    refine gf_iinc (pc := 67) (Nat.le_of_ble_eq_true rfl) rfl e73 (ti_c (by decide)) (by omega) (by omega) dJ6_numberOfTrailingZeros_0f7a4_67 (fun v76 e77 => ?_)
    refine go_lv (lv2 := [(0, .int 7), (1, .int v76)]) rfl ?_
    refine go_iload_n (pc := 70) rfl dJ6_numberOfTrailingZeros_0f7a4_70 ?_
    refine go_iconst (pc := 71) (v := 2) (by decide) dJ6_numberOfTrailingZeros_0f7a4_71 ?_
    refine gx_iushr (pc := 72) dJ6_numberOfTrailingZeros_0f7a4_72 (fun v78 v78x => ?_)
    have v78z : v78 = (1 : Int32) := by rw [v78x]; decide
    subst v78z
    refine go_istore_n (pc := 73) (Nat.le_of_ble_eq_true rfl) dJ6_numberOfTrailingZeros_0f7a4_73 (go_lv (lv2 := [(0, .int 1), (1, .int v76)]) rfl ?_)
    refine go_iload_n (pc := 74) rfl dJ6_numberOfTrailingZeros_0f7a4_74 ?_
    refine go_iload_n (pc := 75) rfl dJ6_numberOfTrailingZeros_0f7a4_75 ?_
    refine go_iconst (pc := 76) (v := 1) (by decide) dJ6_numberOfTrailingZeros_0f7a4_76 ?_
    refine gx_iushr (pc := 77) dJ6_numberOfTrailingZeros_0f7a4_77 (fun v79 v79x => ?_)
    have v79z : v79 = (0 : Int32) := by rw [v79x]; decide
    subst v79z
    refine gf_iadd (pc := 78) e77 (ti_c (v := 0) (a := 0) (by decide)) (by omega) (by omega) dJ6_numberOfTrailingZeros_0f7a4_78 (fun v80 e81 => ?_)
    exact gi_iret (pc := 79) e81 ⟨_, rfl, (by rw [show (v80 : Int32).toInt = (((1 + 4) + 2) + 0) from e81]; omega), (by rw [show (v80 : Int32).toInt = (((1 + 4) + 2) + 0) from e81]; omega), rfl, ⟨fun q => by have e : a1 = 0 := Int32.toInt_inj.mp (q.trans (by decide)); rw [e] at k2; exact absurd k2.2.1 (by decide), fun _ => by rw [show (v80 : Int32).toInt = (((1 + 4) + 2) + 0) from e81]; exact k2⟩⟩ hv dJ6_numberOfTrailingZeros_0f7a4_79
  ·
    have z3 : v3 = (255 : Int32) := k3.trans (by decide)
    subst z3
    refine go_iload_n (pc := 8) rfl dJ6_numberOfTrailingZeros_0f7a4_8 ?_
    refine gf_if_gt (pc := 9) (tgt := 17) (ti_c (v := 255) (a := 255) (by decide)) (by decide) dJ6_numberOfTrailingZeros_0f7a4_9 (fun q82 => ?_) (fun q82 => False.elim (by omega))
    refine go_iconst (pc := 17) (v := 1) (by decide) dJ6_numberOfTrailingZeros_0f7a4_17 ?_
    refine go_istore_n (pc := 18) (Nat.le_of_ble_eq_true rfl) dJ6_numberOfTrailingZeros_0f7a4_18 (go_lv (lv2 := [(0, .int 255), (1, .int 1)]) rfl ?_)
    refine go_iload_n (pc := 19) rfl dJ6_numberOfTrailingZeros_0f7a4_19 ?_
    refine go_ldcw (pc := 20) kL_J6_264 dJ6_numberOfTrailingZeros_0f7a4_20 ?_
    refine gf_icmp_le (pc := 23) (tgt := 34) (ti_c (v := 255) (a := 255) (by decide)) (ti_c (v := 65536) (a := 65536) (by decide)) (by decide) dJ6_numberOfTrailingZeros_0f7a4_23 (fun q83 => ?_) (fun q83 => False.elim (by omega))
    refine go_iload_n (pc := 34) rfl dJ6_numberOfTrailingZeros_0f7a4_34 ?_
    refine go_sipush (pc := 35) (v := 256) (by decide) dJ6_numberOfTrailingZeros_0f7a4_35 ?_
    refine gf_icmp_le (pc := 38) (tgt := 49) (ti_c (v := 255) (a := 255) (by decide)) (ti_c (v := 256) (a := 256) (by decide)) (by decide) dJ6_numberOfTrailingZeros_0f7a4_38 (fun q84 => ?_) (fun q84 => False.elim (by omega))
    refine go_iload_n (pc := 49) rfl dJ6_numberOfTrailingZeros_0f7a4_49 ?_
    refine go_bipush (pc := 50) (v := 16) (by decide) dJ6_numberOfTrailingZeros_0f7a4_50 ?_
    refine gf_icmp_le (pc := 52) (tgt := 62) (ti_c (v := 255) (a := 255) (by decide)) (ti_c (v := 16) (a := 16) (by decide)) (by decide) dJ6_numberOfTrailingZeros_0f7a4_52 (fun q85 => False.elim (by omega)) (fun q85 => ?_)
    refine gf_iinc (pc := 55) (Nat.le_of_ble_eq_true rfl) rfl (ti_c (v := 1) (a := 1) (by decide)) (ti_c (by decide)) (by omega) (by omega) dJ6_numberOfTrailingZeros_0f7a4_55 (fun v86 e87 => ?_)
    refine go_lv (lv2 := [(0, .int 255), (1, .int v86)]) rfl ?_
    refine go_iload_n (pc := 58) rfl dJ6_numberOfTrailingZeros_0f7a4_58 ?_
    refine go_iconst (pc := 59) (v := 4) (by decide) dJ6_numberOfTrailingZeros_0f7a4_59 ?_
    refine gx_iushr (pc := 60) dJ6_numberOfTrailingZeros_0f7a4_60 (fun v88 v88x => ?_)
    have v88z : v88 = (15 : Int32) := by rw [v88x]; decide
    subst v88z
    refine go_istore_n (pc := 61) (Nat.le_of_ble_eq_true rfl) dJ6_numberOfTrailingZeros_0f7a4_61 (go_lv (lv2 := [(0, .int 15), (1, .int v86)]) rfl ?_)
    refine go_iload_n (pc := 62) rfl dJ6_numberOfTrailingZeros_0f7a4_62 ?_
    refine go_iconst (pc := 63) (v := 4) (by decide) dJ6_numberOfTrailingZeros_0f7a4_63 ?_
    refine gf_icmp_le (pc := 64) (tgt := 74) (ti_c (v := 15) (a := 15) (by decide)) (ti_c (v := 4) (a := 4) (by decide)) (by decide) dJ6_numberOfTrailingZeros_0f7a4_64 (fun q89 => False.elim (by omega)) (fun q89 => ?_)
    refine gf_iinc (pc := 67) (Nat.le_of_ble_eq_true rfl) rfl e87 (ti_c (by decide)) (by omega) (by omega) dJ6_numberOfTrailingZeros_0f7a4_67 (fun v90 e91 => ?_)
    refine go_lv (lv2 := [(0, .int 15), (1, .int v90)]) rfl ?_
    refine go_iload_n (pc := 70) rfl dJ6_numberOfTrailingZeros_0f7a4_70 ?_
    refine go_iconst (pc := 71) (v := 2) (by decide) dJ6_numberOfTrailingZeros_0f7a4_71 ?_
    refine gx_iushr (pc := 72) dJ6_numberOfTrailingZeros_0f7a4_72 (fun v92 v92x => ?_)
    have v92z : v92 = (3 : Int32) := by rw [v92x]; decide
    subst v92z
    refine go_istore_n (pc := 73) (Nat.le_of_ble_eq_true rfl) dJ6_numberOfTrailingZeros_0f7a4_73 (go_lv (lv2 := [(0, .int 3), (1, .int v90)]) rfl ?_)
    refine go_iload_n (pc := 74) rfl dJ6_numberOfTrailingZeros_0f7a4_74 ?_
    refine go_iload_n (pc := 75) rfl dJ6_numberOfTrailingZeros_0f7a4_75 ?_
    refine go_iconst (pc := 76) (v := 1) (by decide) dJ6_numberOfTrailingZeros_0f7a4_76 ?_
    refine gx_iushr (pc := 77) dJ6_numberOfTrailingZeros_0f7a4_77 (fun v93 v93x => ?_)
    have v93z : v93 = (1 : Int32) := by rw [v93x]; decide
    subst v93z
    refine gf_iadd (pc := 78) e91 (ti_c (v := 1) (a := 1) (by decide)) (by omega) (by omega) dJ6_numberOfTrailingZeros_0f7a4_78 (fun v94 e95 => ?_)
    exact gi_iret (pc := 79) e95 ⟨_, rfl, (by rw [show (v94 : Int32).toInt = (((1 + 4) + 2) + 1) from e95]; omega), (by rw [show (v94 : Int32).toInt = (((1 + 4) + 2) + 1) from e95]; omega), rfl, ⟨fun q => by have e : a1 = 0 := Int32.toInt_inj.mp (q.trans (by decide)); rw [e] at k2; exact absurd k2.2.1 (by decide), fun _ => by rw [show (v94 : Int32).toInt = (((1 + 4) + 2) + 1) from e95]; exact k2⟩⟩ hv dJ6_numberOfTrailingZeros_0f7a4_79
  ·
    have z3 : v3 = (511 : Int32) := k3.trans (by decide)
    subst z3
    refine go_iload_n (pc := 8) rfl dJ6_numberOfTrailingZeros_0f7a4_8 ?_
    refine gf_if_gt (pc := 9) (tgt := 17) (ti_c (v := 511) (a := 511) (by decide)) (by decide) dJ6_numberOfTrailingZeros_0f7a4_9 (fun q96 => ?_) (fun q96 => False.elim (by omega))
    refine go_iconst (pc := 17) (v := 1) (by decide) dJ6_numberOfTrailingZeros_0f7a4_17 ?_
    refine go_istore_n (pc := 18) (Nat.le_of_ble_eq_true rfl) dJ6_numberOfTrailingZeros_0f7a4_18 (go_lv (lv2 := [(0, .int 511), (1, .int 1)]) rfl ?_)
    refine go_iload_n (pc := 19) rfl dJ6_numberOfTrailingZeros_0f7a4_19 ?_
    refine go_ldcw (pc := 20) kL_J6_264 dJ6_numberOfTrailingZeros_0f7a4_20 ?_
    refine gf_icmp_le (pc := 23) (tgt := 34) (ti_c (v := 511) (a := 511) (by decide)) (ti_c (v := 65536) (a := 65536) (by decide)) (by decide) dJ6_numberOfTrailingZeros_0f7a4_23 (fun q97 => ?_) (fun q97 => False.elim (by omega))
    refine go_iload_n (pc := 34) rfl dJ6_numberOfTrailingZeros_0f7a4_34 ?_
    refine go_sipush (pc := 35) (v := 256) (by decide) dJ6_numberOfTrailingZeros_0f7a4_35 ?_
    refine gf_icmp_le (pc := 38) (tgt := 49) (ti_c (v := 511) (a := 511) (by decide)) (ti_c (v := 256) (a := 256) (by decide)) (by decide) dJ6_numberOfTrailingZeros_0f7a4_38 (fun q98 => False.elim (by omega)) (fun q98 => ?_)
    refine gf_iinc (pc := 41) (Nat.le_of_ble_eq_true rfl) rfl (ti_c (v := 1) (a := 1) (by decide)) (ti_c (by decide)) (by omega) (by omega) dJ6_numberOfTrailingZeros_0f7a4_41 (fun v99 e100 => ?_)
    refine go_lv (lv2 := [(0, .int 511), (1, .int v99)]) rfl ?_
    refine go_iload_n (pc := 44) rfl dJ6_numberOfTrailingZeros_0f7a4_44 ?_
    refine go_bipush (pc := 45) (v := 8) (by decide) dJ6_numberOfTrailingZeros_0f7a4_45 ?_
    refine gx_iushr (pc := 47) dJ6_numberOfTrailingZeros_0f7a4_47 (fun v101 v101x => ?_)
    have v101z : v101 = (1 : Int32) := by rw [v101x]; decide
    subst v101z
    refine go_istore_n (pc := 48) (Nat.le_of_ble_eq_true rfl) dJ6_numberOfTrailingZeros_0f7a4_48 (go_lv (lv2 := [(0, .int 1), (1, .int v99)]) rfl ?_)
    refine go_iload_n (pc := 49) rfl dJ6_numberOfTrailingZeros_0f7a4_49 ?_
    refine go_bipush (pc := 50) (v := 16) (by decide) dJ6_numberOfTrailingZeros_0f7a4_50 ?_
    refine gf_icmp_le (pc := 52) (tgt := 62) (ti_c (v := 1) (a := 1) (by decide)) (ti_c (v := 16) (a := 16) (by decide)) (by decide) dJ6_numberOfTrailingZeros_0f7a4_52 (fun q102 => ?_) (fun q102 => False.elim (by omega))
    refine go_iload_n (pc := 62) rfl dJ6_numberOfTrailingZeros_0f7a4_62 ?_
    refine go_iconst (pc := 63) (v := 4) (by decide) dJ6_numberOfTrailingZeros_0f7a4_63 ?_
    refine gf_icmp_le (pc := 64) (tgt := 74) (ti_c (v := 1) (a := 1) (by decide)) (ti_c (v := 4) (a := 4) (by decide)) (by decide) dJ6_numberOfTrailingZeros_0f7a4_64 (fun q103 => ?_) (fun q103 => False.elim (by omega))
    refine go_iload_n (pc := 74) rfl dJ6_numberOfTrailingZeros_0f7a4_74 ?_
    refine go_iload_n (pc := 75) rfl dJ6_numberOfTrailingZeros_0f7a4_75 ?_
    refine go_iconst (pc := 76) (v := 1) (by decide) dJ6_numberOfTrailingZeros_0f7a4_76 ?_
    refine gx_iushr (pc := 77) dJ6_numberOfTrailingZeros_0f7a4_77 (fun v104 v104x => ?_)
    have v104z : v104 = (0 : Int32) := by rw [v104x]; decide
    subst v104z
    refine gf_iadd (pc := 78) e100 (ti_c (v := 0) (a := 0) (by decide)) (by omega) (by omega) dJ6_numberOfTrailingZeros_0f7a4_78 (fun v105 e106 => ?_)
    exact gi_iret (pc := 79) e106 ⟨_, rfl, (by rw [show (v105 : Int32).toInt = ((1 + 8) + 0) from e106]; omega), (by rw [show (v105 : Int32).toInt = ((1 + 8) + 0) from e106]; omega), rfl, ⟨fun q => by have e : a1 = 0 := Int32.toInt_inj.mp (q.trans (by decide)); rw [e] at k2; exact absurd k2.2.1 (by decide), fun _ => by rw [show (v105 : Int32).toInt = ((1 + 8) + 0) from e106]; exact k2⟩⟩ hv dJ6_numberOfTrailingZeros_0f7a4_79
  ·
    have z3 : v3 = (1023 : Int32) := k3.trans (by decide)
    subst z3
    refine go_iload_n (pc := 8) rfl dJ6_numberOfTrailingZeros_0f7a4_8 ?_
    refine gf_if_gt (pc := 9) (tgt := 17) (ti_c (v := 1023) (a := 1023) (by decide)) (by decide) dJ6_numberOfTrailingZeros_0f7a4_9 (fun q107 => ?_) (fun q107 => False.elim (by omega))
    refine go_iconst (pc := 17) (v := 1) (by decide) dJ6_numberOfTrailingZeros_0f7a4_17 ?_
    refine go_istore_n (pc := 18) (Nat.le_of_ble_eq_true rfl) dJ6_numberOfTrailingZeros_0f7a4_18 (go_lv (lv2 := [(0, .int 1023), (1, .int 1)]) rfl ?_)
    refine go_iload_n (pc := 19) rfl dJ6_numberOfTrailingZeros_0f7a4_19 ?_
    refine go_ldcw (pc := 20) kL_J6_264 dJ6_numberOfTrailingZeros_0f7a4_20 ?_
    refine gf_icmp_le (pc := 23) (tgt := 34) (ti_c (v := 1023) (a := 1023) (by decide)) (ti_c (v := 65536) (a := 65536) (by decide)) (by decide) dJ6_numberOfTrailingZeros_0f7a4_23 (fun q108 => ?_) (fun q108 => False.elim (by omega))
    refine go_iload_n (pc := 34) rfl dJ6_numberOfTrailingZeros_0f7a4_34 ?_
    refine go_sipush (pc := 35) (v := 256) (by decide) dJ6_numberOfTrailingZeros_0f7a4_35 ?_
    refine gf_icmp_le (pc := 38) (tgt := 49) (ti_c (v := 1023) (a := 1023) (by decide)) (ti_c (v := 256) (a := 256) (by decide)) (by decide) dJ6_numberOfTrailingZeros_0f7a4_38 (fun q109 => False.elim (by omega)) (fun q109 => ?_)
    refine gf_iinc (pc := 41) (Nat.le_of_ble_eq_true rfl) rfl (ti_c (v := 1) (a := 1) (by decide)) (ti_c (by decide)) (by omega) (by omega) dJ6_numberOfTrailingZeros_0f7a4_41 (fun v110 e111 => ?_)
    refine go_lv (lv2 := [(0, .int 1023), (1, .int v110)]) rfl ?_
    refine go_iload_n (pc := 44) rfl dJ6_numberOfTrailingZeros_0f7a4_44 ?_
    refine go_bipush (pc := 45) (v := 8) (by decide) dJ6_numberOfTrailingZeros_0f7a4_45 ?_
    refine gx_iushr (pc := 47) dJ6_numberOfTrailingZeros_0f7a4_47 (fun v112 v112x => ?_)
    have v112z : v112 = (3 : Int32) := by rw [v112x]; decide
    subst v112z
    refine go_istore_n (pc := 48) (Nat.le_of_ble_eq_true rfl) dJ6_numberOfTrailingZeros_0f7a4_48 (go_lv (lv2 := [(0, .int 3), (1, .int v110)]) rfl ?_)
    refine go_iload_n (pc := 49) rfl dJ6_numberOfTrailingZeros_0f7a4_49 ?_
    refine go_bipush (pc := 50) (v := 16) (by decide) dJ6_numberOfTrailingZeros_0f7a4_50 ?_
    refine gf_icmp_le (pc := 52) (tgt := 62) (ti_c (v := 3) (a := 3) (by decide)) (ti_c (v := 16) (a := 16) (by decide)) (by decide) dJ6_numberOfTrailingZeros_0f7a4_52 (fun q113 => ?_) (fun q113 => False.elim (by omega))
    refine go_iload_n (pc := 62) rfl dJ6_numberOfTrailingZeros_0f7a4_62 ?_
    refine go_iconst (pc := 63) (v := 4) (by decide) dJ6_numberOfTrailingZeros_0f7a4_63 ?_
    refine gf_icmp_le (pc := 64) (tgt := 74) (ti_c (v := 3) (a := 3) (by decide)) (ti_c (v := 4) (a := 4) (by decide)) (by decide) dJ6_numberOfTrailingZeros_0f7a4_64 (fun q114 => ?_) (fun q114 => False.elim (by omega))
    refine go_iload_n (pc := 74) rfl dJ6_numberOfTrailingZeros_0f7a4_74 ?_
    refine go_iload_n (pc := 75) rfl dJ6_numberOfTrailingZeros_0f7a4_75 ?_
    refine go_iconst (pc := 76) (v := 1) (by decide) dJ6_numberOfTrailingZeros_0f7a4_76 ?_
    refine gx_iushr (pc := 77) dJ6_numberOfTrailingZeros_0f7a4_77 (fun v115 v115x => ?_)
    have v115z : v115 = (1 : Int32) := by rw [v115x]; decide
    subst v115z
    refine gf_iadd (pc := 78) e111 (ti_c (v := 1) (a := 1) (by decide)) (by omega) (by omega) dJ6_numberOfTrailingZeros_0f7a4_78 (fun v116 e117 => ?_)
    exact gi_iret (pc := 79) e117 ⟨_, rfl, (by rw [show (v116 : Int32).toInt = ((1 + 8) + 1) from e117]; omega), (by rw [show (v116 : Int32).toInt = ((1 + 8) + 1) from e117]; omega), rfl, ⟨fun q => by have e : a1 = 0 := Int32.toInt_inj.mp (q.trans (by decide)); rw [e] at k2; exact absurd k2.2.1 (by decide), fun _ => by rw [show (v116 : Int32).toInt = ((1 + 8) + 1) from e117]; exact k2⟩⟩ hv dJ6_numberOfTrailingZeros_0f7a4_79
  ·
    have z3 : v3 = (2047 : Int32) := k3.trans (by decide)
    subst z3
    refine go_iload_n (pc := 8) rfl dJ6_numberOfTrailingZeros_0f7a4_8 ?_
    refine gf_if_gt (pc := 9) (tgt := 17) (ti_c (v := 2047) (a := 2047) (by decide)) (by decide) dJ6_numberOfTrailingZeros_0f7a4_9 (fun q118 => ?_) (fun q118 => False.elim (by omega))
    refine go_iconst (pc := 17) (v := 1) (by decide) dJ6_numberOfTrailingZeros_0f7a4_17 ?_
    refine go_istore_n (pc := 18) (Nat.le_of_ble_eq_true rfl) dJ6_numberOfTrailingZeros_0f7a4_18 (go_lv (lv2 := [(0, .int 2047), (1, .int 1)]) rfl ?_)
    refine go_iload_n (pc := 19) rfl dJ6_numberOfTrailingZeros_0f7a4_19 ?_
    refine go_ldcw (pc := 20) kL_J6_264 dJ6_numberOfTrailingZeros_0f7a4_20 ?_
    refine gf_icmp_le (pc := 23) (tgt := 34) (ti_c (v := 2047) (a := 2047) (by decide)) (ti_c (v := 65536) (a := 65536) (by decide)) (by decide) dJ6_numberOfTrailingZeros_0f7a4_23 (fun q119 => ?_) (fun q119 => False.elim (by omega))
    refine go_iload_n (pc := 34) rfl dJ6_numberOfTrailingZeros_0f7a4_34 ?_
    refine go_sipush (pc := 35) (v := 256) (by decide) dJ6_numberOfTrailingZeros_0f7a4_35 ?_
    refine gf_icmp_le (pc := 38) (tgt := 49) (ti_c (v := 2047) (a := 2047) (by decide)) (ti_c (v := 256) (a := 256) (by decide)) (by decide) dJ6_numberOfTrailingZeros_0f7a4_38 (fun q120 => False.elim (by omega)) (fun q120 => ?_)
    refine gf_iinc (pc := 41) (Nat.le_of_ble_eq_true rfl) rfl (ti_c (v := 1) (a := 1) (by decide)) (ti_c (by decide)) (by omega) (by omega) dJ6_numberOfTrailingZeros_0f7a4_41 (fun v121 e122 => ?_)
    refine go_lv (lv2 := [(0, .int 2047), (1, .int v121)]) rfl ?_
    refine go_iload_n (pc := 44) rfl dJ6_numberOfTrailingZeros_0f7a4_44 ?_
    refine go_bipush (pc := 45) (v := 8) (by decide) dJ6_numberOfTrailingZeros_0f7a4_45 ?_
    refine gx_iushr (pc := 47) dJ6_numberOfTrailingZeros_0f7a4_47 (fun v123 v123x => ?_)
    have v123z : v123 = (7 : Int32) := by rw [v123x]; decide
    subst v123z
    refine go_istore_n (pc := 48) (Nat.le_of_ble_eq_true rfl) dJ6_numberOfTrailingZeros_0f7a4_48 (go_lv (lv2 := [(0, .int 7), (1, .int v121)]) rfl ?_)
    refine go_iload_n (pc := 49) rfl dJ6_numberOfTrailingZeros_0f7a4_49 ?_
    refine go_bipush (pc := 50) (v := 16) (by decide) dJ6_numberOfTrailingZeros_0f7a4_50 ?_
    refine gf_icmp_le (pc := 52) (tgt := 62) (ti_c (v := 7) (a := 7) (by decide)) (ti_c (v := 16) (a := 16) (by decide)) (by decide) dJ6_numberOfTrailingZeros_0f7a4_52 (fun q124 => ?_) (fun q124 => False.elim (by omega))
    refine go_iload_n (pc := 62) rfl dJ6_numberOfTrailingZeros_0f7a4_62 ?_
    refine go_iconst (pc := 63) (v := 4) (by decide) dJ6_numberOfTrailingZeros_0f7a4_63 ?_
    refine gf_icmp_le (pc := 64) (tgt := 74) (ti_c (v := 7) (a := 7) (by decide)) (ti_c (v := 4) (a := 4) (by decide)) (by decide) dJ6_numberOfTrailingZeros_0f7a4_64 (fun q125 => False.elim (by omega)) (fun q125 => ?_)
    refine gf_iinc (pc := 67) (Nat.le_of_ble_eq_true rfl) rfl e122 (ti_c (by decide)) (by omega) (by omega) dJ6_numberOfTrailingZeros_0f7a4_67 (fun v126 e127 => ?_)
    refine go_lv (lv2 := [(0, .int 7), (1, .int v126)]) rfl ?_
    refine go_iload_n (pc := 70) rfl dJ6_numberOfTrailingZeros_0f7a4_70 ?_
    refine go_iconst (pc := 71) (v := 2) (by decide) dJ6_numberOfTrailingZeros_0f7a4_71 ?_
    refine gx_iushr (pc := 72) dJ6_numberOfTrailingZeros_0f7a4_72 (fun v128 v128x => ?_)
    have v128z : v128 = (1 : Int32) := by rw [v128x]; decide
    subst v128z
    refine go_istore_n (pc := 73) (Nat.le_of_ble_eq_true rfl) dJ6_numberOfTrailingZeros_0f7a4_73 (go_lv (lv2 := [(0, .int 1), (1, .int v126)]) rfl ?_)
    refine go_iload_n (pc := 74) rfl dJ6_numberOfTrailingZeros_0f7a4_74 ?_
    refine go_iload_n (pc := 75) rfl dJ6_numberOfTrailingZeros_0f7a4_75 ?_
    refine go_iconst (pc := 76) (v := 1) (by decide) dJ6_numberOfTrailingZeros_0f7a4_76 ?_
    refine gx_iushr (pc := 77) dJ6_numberOfTrailingZeros_0f7a4_77 (fun v129 v129x => ?_)
    have v129z : v129 = (0 : Int32) := by rw [v129x]; decide
    subst v129z
    refine gf_iadd (pc := 78) e127 (ti_c (v := 0) (a := 0) (by decide)) (by omega) (by omega) dJ6_numberOfTrailingZeros_0f7a4_78 (fun v130 e131 => ?_)
    exact gi_iret (pc := 79) e131 ⟨_, rfl, (by rw [show (v130 : Int32).toInt = (((1 + 8) + 2) + 0) from e131]; omega), (by rw [show (v130 : Int32).toInt = (((1 + 8) + 2) + 0) from e131]; omega), rfl, ⟨fun q => by have e : a1 = 0 := Int32.toInt_inj.mp (q.trans (by decide)); rw [e] at k2; exact absurd k2.2.1 (by decide), fun _ => by rw [show (v130 : Int32).toInt = (((1 + 8) + 2) + 0) from e131]; exact k2⟩⟩ hv dJ6_numberOfTrailingZeros_0f7a4_79
  ·
    have z3 : v3 = (4095 : Int32) := k3.trans (by decide)
    subst z3
    refine go_iload_n (pc := 8) rfl dJ6_numberOfTrailingZeros_0f7a4_8 ?_
    refine gf_if_gt (pc := 9) (tgt := 17) (ti_c (v := 4095) (a := 4095) (by decide)) (by decide) dJ6_numberOfTrailingZeros_0f7a4_9 (fun q132 => ?_) (fun q132 => False.elim (by omega))
    refine go_iconst (pc := 17) (v := 1) (by decide) dJ6_numberOfTrailingZeros_0f7a4_17 ?_
    refine go_istore_n (pc := 18) (Nat.le_of_ble_eq_true rfl) dJ6_numberOfTrailingZeros_0f7a4_18 (go_lv (lv2 := [(0, .int 4095), (1, .int 1)]) rfl ?_)
    refine go_iload_n (pc := 19) rfl dJ6_numberOfTrailingZeros_0f7a4_19 ?_
    refine go_ldcw (pc := 20) kL_J6_264 dJ6_numberOfTrailingZeros_0f7a4_20 ?_
    refine gf_icmp_le (pc := 23) (tgt := 34) (ti_c (v := 4095) (a := 4095) (by decide)) (ti_c (v := 65536) (a := 65536) (by decide)) (by decide) dJ6_numberOfTrailingZeros_0f7a4_23 (fun q133 => ?_) (fun q133 => False.elim (by omega))
    refine go_iload_n (pc := 34) rfl dJ6_numberOfTrailingZeros_0f7a4_34 ?_
    refine go_sipush (pc := 35) (v := 256) (by decide) dJ6_numberOfTrailingZeros_0f7a4_35 ?_
    refine gf_icmp_le (pc := 38) (tgt := 49) (ti_c (v := 4095) (a := 4095) (by decide)) (ti_c (v := 256) (a := 256) (by decide)) (by decide) dJ6_numberOfTrailingZeros_0f7a4_38 (fun q134 => False.elim (by omega)) (fun q134 => ?_)
    refine gf_iinc (pc := 41) (Nat.le_of_ble_eq_true rfl) rfl (ti_c (v := 1) (a := 1) (by decide)) (ti_c (by decide)) (by omega) (by omega) dJ6_numberOfTrailingZeros_0f7a4_41 (fun v135 e136 => ?_)
    refine go_lv (lv2 := [(0, .int 4095), (1, .int v135)]) rfl ?_
    refine go_iload_n (pc := 44) rfl dJ6_numberOfTrailingZeros_0f7a4_44 ?_
    refine go_bipush (pc := 45) (v := 8) (by decide) dJ6_numberOfTrailingZeros_0f7a4_45 ?_
    refine gx_iushr (pc := 47) dJ6_numberOfTrailingZeros_0f7a4_47 (fun v137 v137x => ?_)
    have v137z : v137 = (15 : Int32) := by rw [v137x]; decide
    subst v137z
    refine go_istore_n (pc := 48) (Nat.le_of_ble_eq_true rfl) dJ6_numberOfTrailingZeros_0f7a4_48 (go_lv (lv2 := [(0, .int 15), (1, .int v135)]) rfl ?_)
    refine go_iload_n (pc := 49) rfl dJ6_numberOfTrailingZeros_0f7a4_49 ?_
    refine go_bipush (pc := 50) (v := 16) (by decide) dJ6_numberOfTrailingZeros_0f7a4_50 ?_
    refine gf_icmp_le (pc := 52) (tgt := 62) (ti_c (v := 15) (a := 15) (by decide)) (ti_c (v := 16) (a := 16) (by decide)) (by decide) dJ6_numberOfTrailingZeros_0f7a4_52 (fun q138 => ?_) (fun q138 => False.elim (by omega))
    refine go_iload_n (pc := 62) rfl dJ6_numberOfTrailingZeros_0f7a4_62 ?_
    refine go_iconst (pc := 63) (v := 4) (by decide) dJ6_numberOfTrailingZeros_0f7a4_63 ?_
    refine gf_icmp_le (pc := 64) (tgt := 74) (ti_c (v := 15) (a := 15) (by decide)) (ti_c (v := 4) (a := 4) (by decide)) (by decide) dJ6_numberOfTrailingZeros_0f7a4_64 (fun q139 => False.elim (by omega)) (fun q139 => ?_)
    refine gf_iinc (pc := 67) (Nat.le_of_ble_eq_true rfl) rfl e136 (ti_c (by decide)) (by omega) (by omega) dJ6_numberOfTrailingZeros_0f7a4_67 (fun v140 e141 => ?_)
    refine go_lv (lv2 := [(0, .int 15), (1, .int v140)]) rfl ?_
    refine go_iload_n (pc := 70) rfl dJ6_numberOfTrailingZeros_0f7a4_70 ?_
    refine go_iconst (pc := 71) (v := 2) (by decide) dJ6_numberOfTrailingZeros_0f7a4_71 ?_
    refine gx_iushr (pc := 72) dJ6_numberOfTrailingZeros_0f7a4_72 (fun v142 v142x => ?_)
    have v142z : v142 = (3 : Int32) := by rw [v142x]; decide
    subst v142z
    refine go_istore_n (pc := 73) (Nat.le_of_ble_eq_true rfl) dJ6_numberOfTrailingZeros_0f7a4_73 (go_lv (lv2 := [(0, .int 3), (1, .int v140)]) rfl ?_)
    refine go_iload_n (pc := 74) rfl dJ6_numberOfTrailingZeros_0f7a4_74 ?_
    refine go_iload_n (pc := 75) rfl dJ6_numberOfTrailingZeros_0f7a4_75 ?_
    refine go_iconst (pc := 76) (v := 1) (by decide) dJ6_numberOfTrailingZeros_0f7a4_76 ?_
    refine gx_iushr (pc := 77) dJ6_numberOfTrailingZeros_0f7a4_77 (fun v143 v143x => ?_)
    have v143z : v143 = (1 : Int32) := by rw [v143x]; decide
    subst v143z
    refine gf_iadd (pc := 78) e141 (ti_c (v := 1) (a := 1) (by decide)) (by omega) (by omega) dJ6_numberOfTrailingZeros_0f7a4_78 (fun v144 e145 => ?_)
    exact gi_iret (pc := 79) e145 ⟨_, rfl, (by rw [show (v144 : Int32).toInt = (((1 + 8) + 2) + 1) from e145]; omega), (by rw [show (v144 : Int32).toInt = (((1 + 8) + 2) + 1) from e145]; omega), rfl, ⟨fun q => by have e : a1 = 0 := Int32.toInt_inj.mp (q.trans (by decide)); rw [e] at k2; exact absurd k2.2.1 (by decide), fun _ => by rw [show (v144 : Int32).toInt = (((1 + 8) + 2) + 1) from e145]; exact k2⟩⟩ hv dJ6_numberOfTrailingZeros_0f7a4_79
  ·
    have z3 : v3 = (8191 : Int32) := k3.trans (by decide)
    subst z3
    refine go_iload_n (pc := 8) rfl dJ6_numberOfTrailingZeros_0f7a4_8 ?_
    refine gf_if_gt (pc := 9) (tgt := 17) (ti_c (v := 8191) (a := 8191) (by decide)) (by decide) dJ6_numberOfTrailingZeros_0f7a4_9 (fun q146 => ?_) (fun q146 => False.elim (by omega))
    refine go_iconst (pc := 17) (v := 1) (by decide) dJ6_numberOfTrailingZeros_0f7a4_17 ?_
    refine go_istore_n (pc := 18) (Nat.le_of_ble_eq_true rfl) dJ6_numberOfTrailingZeros_0f7a4_18 (go_lv (lv2 := [(0, .int 8191), (1, .int 1)]) rfl ?_)
    refine go_iload_n (pc := 19) rfl dJ6_numberOfTrailingZeros_0f7a4_19 ?_
    refine go_ldcw (pc := 20) kL_J6_264 dJ6_numberOfTrailingZeros_0f7a4_20 ?_
    refine gf_icmp_le (pc := 23) (tgt := 34) (ti_c (v := 8191) (a := 8191) (by decide)) (ti_c (v := 65536) (a := 65536) (by decide)) (by decide) dJ6_numberOfTrailingZeros_0f7a4_23 (fun q147 => ?_) (fun q147 => False.elim (by omega))
    refine go_iload_n (pc := 34) rfl dJ6_numberOfTrailingZeros_0f7a4_34 ?_
    refine go_sipush (pc := 35) (v := 256) (by decide) dJ6_numberOfTrailingZeros_0f7a4_35 ?_
    refine gf_icmp_le (pc := 38) (tgt := 49) (ti_c (v := 8191) (a := 8191) (by decide)) (ti_c (v := 256) (a := 256) (by decide)) (by decide) dJ6_numberOfTrailingZeros_0f7a4_38 (fun q148 => False.elim (by omega)) (fun q148 => ?_)
    refine gf_iinc (pc := 41) (Nat.le_of_ble_eq_true rfl) rfl (ti_c (v := 1) (a := 1) (by decide)) (ti_c (by decide)) (by omega) (by omega) dJ6_numberOfTrailingZeros_0f7a4_41 (fun v149 e150 => ?_)
    refine go_lv (lv2 := [(0, .int 8191), (1, .int v149)]) rfl ?_
    refine go_iload_n (pc := 44) rfl dJ6_numberOfTrailingZeros_0f7a4_44 ?_
    refine go_bipush (pc := 45) (v := 8) (by decide) dJ6_numberOfTrailingZeros_0f7a4_45 ?_
    refine gx_iushr (pc := 47) dJ6_numberOfTrailingZeros_0f7a4_47 (fun v151 v151x => ?_)
    have v151z : v151 = (31 : Int32) := by rw [v151x]; decide
    subst v151z
    refine go_istore_n (pc := 48) (Nat.le_of_ble_eq_true rfl) dJ6_numberOfTrailingZeros_0f7a4_48 (go_lv (lv2 := [(0, .int 31), (1, .int v149)]) rfl ?_)
    refine go_iload_n (pc := 49) rfl dJ6_numberOfTrailingZeros_0f7a4_49 ?_
    refine go_bipush (pc := 50) (v := 16) (by decide) dJ6_numberOfTrailingZeros_0f7a4_50 ?_
    refine gf_icmp_le (pc := 52) (tgt := 62) (ti_c (v := 31) (a := 31) (by decide)) (ti_c (v := 16) (a := 16) (by decide)) (by decide) dJ6_numberOfTrailingZeros_0f7a4_52 (fun q152 => False.elim (by omega)) (fun q152 => ?_)
    refine gf_iinc (pc := 55) (Nat.le_of_ble_eq_true rfl) rfl e150 (ti_c (by decide)) (by omega) (by omega) dJ6_numberOfTrailingZeros_0f7a4_55 (fun v153 e154 => ?_)
    refine go_lv (lv2 := [(0, .int 31), (1, .int v153)]) rfl ?_
    refine go_iload_n (pc := 58) rfl dJ6_numberOfTrailingZeros_0f7a4_58 ?_
    refine go_iconst (pc := 59) (v := 4) (by decide) dJ6_numberOfTrailingZeros_0f7a4_59 ?_
    refine gx_iushr (pc := 60) dJ6_numberOfTrailingZeros_0f7a4_60 (fun v155 v155x => ?_)
    have v155z : v155 = (1 : Int32) := by rw [v155x]; decide
    subst v155z
    refine go_istore_n (pc := 61) (Nat.le_of_ble_eq_true rfl) dJ6_numberOfTrailingZeros_0f7a4_61 (go_lv (lv2 := [(0, .int 1), (1, .int v153)]) rfl ?_)
    refine go_iload_n (pc := 62) rfl dJ6_numberOfTrailingZeros_0f7a4_62 ?_
    refine go_iconst (pc := 63) (v := 4) (by decide) dJ6_numberOfTrailingZeros_0f7a4_63 ?_
    refine gf_icmp_le (pc := 64) (tgt := 74) (ti_c (v := 1) (a := 1) (by decide)) (ti_c (v := 4) (a := 4) (by decide)) (by decide) dJ6_numberOfTrailingZeros_0f7a4_64 (fun q156 => ?_) (fun q156 => False.elim (by omega))
    refine go_iload_n (pc := 74) rfl dJ6_numberOfTrailingZeros_0f7a4_74 ?_
    refine go_iload_n (pc := 75) rfl dJ6_numberOfTrailingZeros_0f7a4_75 ?_
    refine go_iconst (pc := 76) (v := 1) (by decide) dJ6_numberOfTrailingZeros_0f7a4_76 ?_
    refine gx_iushr (pc := 77) dJ6_numberOfTrailingZeros_0f7a4_77 (fun v157 v157x => ?_)
    have v157z : v157 = (0 : Int32) := by rw [v157x]; decide
    subst v157z
    refine gf_iadd (pc := 78) e154 (ti_c (v := 0) (a := 0) (by decide)) (by omega) (by omega) dJ6_numberOfTrailingZeros_0f7a4_78 (fun v158 e159 => ?_)
    exact gi_iret (pc := 79) e159 ⟨_, rfl, (by rw [show (v158 : Int32).toInt = (((1 + 8) + 4) + 0) from e159]; omega), (by rw [show (v158 : Int32).toInt = (((1 + 8) + 4) + 0) from e159]; omega), rfl, ⟨fun q => by have e : a1 = 0 := Int32.toInt_inj.mp (q.trans (by decide)); rw [e] at k2; exact absurd k2.2.1 (by decide), fun _ => by rw [show (v158 : Int32).toInt = (((1 + 8) + 4) + 0) from e159]; exact k2⟩⟩ hv dJ6_numberOfTrailingZeros_0f7a4_79
  ·
    have z3 : v3 = (16383 : Int32) := k3.trans (by decide)
    subst z3
    refine go_iload_n (pc := 8) rfl dJ6_numberOfTrailingZeros_0f7a4_8 ?_
    refine gf_if_gt (pc := 9) (tgt := 17) (ti_c (v := 16383) (a := 16383) (by decide)) (by decide) dJ6_numberOfTrailingZeros_0f7a4_9 (fun q160 => ?_) (fun q160 => False.elim (by omega))
    refine go_iconst (pc := 17) (v := 1) (by decide) dJ6_numberOfTrailingZeros_0f7a4_17 ?_
    refine go_istore_n (pc := 18) (Nat.le_of_ble_eq_true rfl) dJ6_numberOfTrailingZeros_0f7a4_18 (go_lv (lv2 := [(0, .int 16383), (1, .int 1)]) rfl ?_)
    refine go_iload_n (pc := 19) rfl dJ6_numberOfTrailingZeros_0f7a4_19 ?_
    refine go_ldcw (pc := 20) kL_J6_264 dJ6_numberOfTrailingZeros_0f7a4_20 ?_
    refine gf_icmp_le (pc := 23) (tgt := 34) (ti_c (v := 16383) (a := 16383) (by decide)) (ti_c (v := 65536) (a := 65536) (by decide)) (by decide) dJ6_numberOfTrailingZeros_0f7a4_23 (fun q161 => ?_) (fun q161 => False.elim (by omega))
    refine go_iload_n (pc := 34) rfl dJ6_numberOfTrailingZeros_0f7a4_34 ?_
    refine go_sipush (pc := 35) (v := 256) (by decide) dJ6_numberOfTrailingZeros_0f7a4_35 ?_
    refine gf_icmp_le (pc := 38) (tgt := 49) (ti_c (v := 16383) (a := 16383) (by decide)) (ti_c (v := 256) (a := 256) (by decide)) (by decide) dJ6_numberOfTrailingZeros_0f7a4_38 (fun q162 => False.elim (by omega)) (fun q162 => ?_)
    refine gf_iinc (pc := 41) (Nat.le_of_ble_eq_true rfl) rfl (ti_c (v := 1) (a := 1) (by decide)) (ti_c (by decide)) (by omega) (by omega) dJ6_numberOfTrailingZeros_0f7a4_41 (fun v163 e164 => ?_)
    refine go_lv (lv2 := [(0, .int 16383), (1, .int v163)]) rfl ?_
    refine go_iload_n (pc := 44) rfl dJ6_numberOfTrailingZeros_0f7a4_44 ?_
    refine go_bipush (pc := 45) (v := 8) (by decide) dJ6_numberOfTrailingZeros_0f7a4_45 ?_
    refine gx_iushr (pc := 47) dJ6_numberOfTrailingZeros_0f7a4_47 (fun v165 v165x => ?_)
    have v165z : v165 = (63 : Int32) := by rw [v165x]; decide
    subst v165z
    refine go_istore_n (pc := 48) (Nat.le_of_ble_eq_true rfl) dJ6_numberOfTrailingZeros_0f7a4_48 (go_lv (lv2 := [(0, .int 63), (1, .int v163)]) rfl ?_)
    refine go_iload_n (pc := 49) rfl dJ6_numberOfTrailingZeros_0f7a4_49 ?_
    refine go_bipush (pc := 50) (v := 16) (by decide) dJ6_numberOfTrailingZeros_0f7a4_50 ?_
    refine gf_icmp_le (pc := 52) (tgt := 62) (ti_c (v := 63) (a := 63) (by decide)) (ti_c (v := 16) (a := 16) (by decide)) (by decide) dJ6_numberOfTrailingZeros_0f7a4_52 (fun q166 => False.elim (by omega)) (fun q166 => ?_)
    refine gf_iinc (pc := 55) (Nat.le_of_ble_eq_true rfl) rfl e164 (ti_c (by decide)) (by omega) (by omega) dJ6_numberOfTrailingZeros_0f7a4_55 (fun v167 e168 => ?_)
    refine go_lv (lv2 := [(0, .int 63), (1, .int v167)]) rfl ?_
    refine go_iload_n (pc := 58) rfl dJ6_numberOfTrailingZeros_0f7a4_58 ?_
    refine go_iconst (pc := 59) (v := 4) (by decide) dJ6_numberOfTrailingZeros_0f7a4_59 ?_
    refine gx_iushr (pc := 60) dJ6_numberOfTrailingZeros_0f7a4_60 (fun v169 v169x => ?_)
    have v169z : v169 = (3 : Int32) := by rw [v169x]; decide
    subst v169z
    refine go_istore_n (pc := 61) (Nat.le_of_ble_eq_true rfl) dJ6_numberOfTrailingZeros_0f7a4_61 (go_lv (lv2 := [(0, .int 3), (1, .int v167)]) rfl ?_)
    refine go_iload_n (pc := 62) rfl dJ6_numberOfTrailingZeros_0f7a4_62 ?_
    refine go_iconst (pc := 63) (v := 4) (by decide) dJ6_numberOfTrailingZeros_0f7a4_63 ?_
    refine gf_icmp_le (pc := 64) (tgt := 74) (ti_c (v := 3) (a := 3) (by decide)) (ti_c (v := 4) (a := 4) (by decide)) (by decide) dJ6_numberOfTrailingZeros_0f7a4_64 (fun q170 => ?_) (fun q170 => False.elim (by omega))
    refine go_iload_n (pc := 74) rfl dJ6_numberOfTrailingZeros_0f7a4_74 ?_
    refine go_iload_n (pc := 75) rfl dJ6_numberOfTrailingZeros_0f7a4_75 ?_
    refine go_iconst (pc := 76) (v := 1) (by decide) dJ6_numberOfTrailingZeros_0f7a4_76 ?_
    refine gx_iushr (pc := 77) dJ6_numberOfTrailingZeros_0f7a4_77 (fun v171 v171x => ?_)
    have v171z : v171 = (1 : Int32) := by rw [v171x]; decide
    subst v171z
    refine gf_iadd (pc := 78) e168 (ti_c (v := 1) (a := 1) (by decide)) (by omega) (by omega) dJ6_numberOfTrailingZeros_0f7a4_78 (fun v172 e173 => ?_)
    exact gi_iret (pc := 79) e173 ⟨_, rfl, (by rw [show (v172 : Int32).toInt = (((1 + 8) + 4) + 1) from e173]; omega), (by rw [show (v172 : Int32).toInt = (((1 + 8) + 4) + 1) from e173]; omega), rfl, ⟨fun q => by have e : a1 = 0 := Int32.toInt_inj.mp (q.trans (by decide)); rw [e] at k2; exact absurd k2.2.1 (by decide), fun _ => by rw [show (v172 : Int32).toInt = (((1 + 8) + 4) + 1) from e173]; exact k2⟩⟩ hv dJ6_numberOfTrailingZeros_0f7a4_79
  ·
    have z3 : v3 = (32767 : Int32) := k3.trans (by decide)
    subst z3
    refine go_iload_n (pc := 8) rfl dJ6_numberOfTrailingZeros_0f7a4_8 ?_
    refine gf_if_gt (pc := 9) (tgt := 17) (ti_c (v := 32767) (a := 32767) (by decide)) (by decide) dJ6_numberOfTrailingZeros_0f7a4_9 (fun q174 => ?_) (fun q174 => False.elim (by omega))
    refine go_iconst (pc := 17) (v := 1) (by decide) dJ6_numberOfTrailingZeros_0f7a4_17 ?_
    refine go_istore_n (pc := 18) (Nat.le_of_ble_eq_true rfl) dJ6_numberOfTrailingZeros_0f7a4_18 (go_lv (lv2 := [(0, .int 32767), (1, .int 1)]) rfl ?_)
    refine go_iload_n (pc := 19) rfl dJ6_numberOfTrailingZeros_0f7a4_19 ?_
    refine go_ldcw (pc := 20) kL_J6_264 dJ6_numberOfTrailingZeros_0f7a4_20 ?_
    refine gf_icmp_le (pc := 23) (tgt := 34) (ti_c (v := 32767) (a := 32767) (by decide)) (ti_c (v := 65536) (a := 65536) (by decide)) (by decide) dJ6_numberOfTrailingZeros_0f7a4_23 (fun q175 => ?_) (fun q175 => False.elim (by omega))
    refine go_iload_n (pc := 34) rfl dJ6_numberOfTrailingZeros_0f7a4_34 ?_
    refine go_sipush (pc := 35) (v := 256) (by decide) dJ6_numberOfTrailingZeros_0f7a4_35 ?_
    refine gf_icmp_le (pc := 38) (tgt := 49) (ti_c (v := 32767) (a := 32767) (by decide)) (ti_c (v := 256) (a := 256) (by decide)) (by decide) dJ6_numberOfTrailingZeros_0f7a4_38 (fun q176 => False.elim (by omega)) (fun q176 => ?_)
    refine gf_iinc (pc := 41) (Nat.le_of_ble_eq_true rfl) rfl (ti_c (v := 1) (a := 1) (by decide)) (ti_c (by decide)) (by omega) (by omega) dJ6_numberOfTrailingZeros_0f7a4_41 (fun v177 e178 => ?_)
    refine go_lv (lv2 := [(0, .int 32767), (1, .int v177)]) rfl ?_
    refine go_iload_n (pc := 44) rfl dJ6_numberOfTrailingZeros_0f7a4_44 ?_
    refine go_bipush (pc := 45) (v := 8) (by decide) dJ6_numberOfTrailingZeros_0f7a4_45 ?_
    refine gx_iushr (pc := 47) dJ6_numberOfTrailingZeros_0f7a4_47 (fun v179 v179x => ?_)
    have v179z : v179 = (127 : Int32) := by rw [v179x]; decide
    subst v179z
    refine go_istore_n (pc := 48) (Nat.le_of_ble_eq_true rfl) dJ6_numberOfTrailingZeros_0f7a4_48 (go_lv (lv2 := [(0, .int 127), (1, .int v177)]) rfl ?_)
    refine go_iload_n (pc := 49) rfl dJ6_numberOfTrailingZeros_0f7a4_49 ?_
    refine go_bipush (pc := 50) (v := 16) (by decide) dJ6_numberOfTrailingZeros_0f7a4_50 ?_
    refine gf_icmp_le (pc := 52) (tgt := 62) (ti_c (v := 127) (a := 127) (by decide)) (ti_c (v := 16) (a := 16) (by decide)) (by decide) dJ6_numberOfTrailingZeros_0f7a4_52 (fun q180 => False.elim (by omega)) (fun q180 => ?_)
    refine gf_iinc (pc := 55) (Nat.le_of_ble_eq_true rfl) rfl e178 (ti_c (by decide)) (by omega) (by omega) dJ6_numberOfTrailingZeros_0f7a4_55 (fun v181 e182 => ?_)
    refine go_lv (lv2 := [(0, .int 127), (1, .int v181)]) rfl ?_
    refine go_iload_n (pc := 58) rfl dJ6_numberOfTrailingZeros_0f7a4_58 ?_
    refine go_iconst (pc := 59) (v := 4) (by decide) dJ6_numberOfTrailingZeros_0f7a4_59 ?_
    refine gx_iushr (pc := 60) dJ6_numberOfTrailingZeros_0f7a4_60 (fun v183 v183x => ?_)
    have v183z : v183 = (7 : Int32) := by rw [v183x]; decide
    subst v183z
    refine go_istore_n (pc := 61) (Nat.le_of_ble_eq_true rfl) dJ6_numberOfTrailingZeros_0f7a4_61 (go_lv (lv2 := [(0, .int 7), (1, .int v181)]) rfl ?_)
    refine go_iload_n (pc := 62) rfl dJ6_numberOfTrailingZeros_0f7a4_62 ?_
    refine go_iconst (pc := 63) (v := 4) (by decide) dJ6_numberOfTrailingZeros_0f7a4_63 ?_
    refine gf_icmp_le (pc := 64) (tgt := 74) (ti_c (v := 7) (a := 7) (by decide)) (ti_c (v := 4) (a := 4) (by decide)) (by decide) dJ6_numberOfTrailingZeros_0f7a4_64 (fun q184 => False.elim (by omega)) (fun q184 => ?_)
    refine gf_iinc (pc := 67) (Nat.le_of_ble_eq_true rfl) rfl e182 (ti_c (by decide)) (by omega) (by omega) dJ6_numberOfTrailingZeros_0f7a4_67 (fun v185 e186 => ?_)
    refine go_lv (lv2 := [(0, .int 7), (1, .int v185)]) rfl ?_
    refine go_iload_n (pc := 70) rfl dJ6_numberOfTrailingZeros_0f7a4_70 ?_
    refine go_iconst (pc := 71) (v := 2) (by decide) dJ6_numberOfTrailingZeros_0f7a4_71 ?_
    refine gx_iushr (pc := 72) dJ6_numberOfTrailingZeros_0f7a4_72 (fun v187 v187x => ?_)
    have v187z : v187 = (1 : Int32) := by rw [v187x]; decide
    subst v187z
    refine go_istore_n (pc := 73) (Nat.le_of_ble_eq_true rfl) dJ6_numberOfTrailingZeros_0f7a4_73 (go_lv (lv2 := [(0, .int 1), (1, .int v185)]) rfl ?_)
    refine go_iload_n (pc := 74) rfl dJ6_numberOfTrailingZeros_0f7a4_74 ?_
    refine go_iload_n (pc := 75) rfl dJ6_numberOfTrailingZeros_0f7a4_75 ?_
    refine go_iconst (pc := 76) (v := 1) (by decide) dJ6_numberOfTrailingZeros_0f7a4_76 ?_
    refine gx_iushr (pc := 77) dJ6_numberOfTrailingZeros_0f7a4_77 (fun v188 v188x => ?_)
    have v188z : v188 = (0 : Int32) := by rw [v188x]; decide
    subst v188z
    refine gf_iadd (pc := 78) e186 (ti_c (v := 0) (a := 0) (by decide)) (by omega) (by omega) dJ6_numberOfTrailingZeros_0f7a4_78 (fun v189 e190 => ?_)
    exact gi_iret (pc := 79) e190 ⟨_, rfl, (by rw [show (v189 : Int32).toInt = ((((1 + 8) + 4) + 2) + 0) from e190]; omega), (by rw [show (v189 : Int32).toInt = ((((1 + 8) + 4) + 2) + 0) from e190]; omega), rfl, ⟨fun q => by have e : a1 = 0 := Int32.toInt_inj.mp (q.trans (by decide)); rw [e] at k2; exact absurd k2.2.1 (by decide), fun _ => by rw [show (v189 : Int32).toInt = ((((1 + 8) + 4) + 2) + 0) from e190]; exact k2⟩⟩ hv dJ6_numberOfTrailingZeros_0f7a4_79
  ·
    have z3 : v3 = (65535 : Int32) := k3.trans (by decide)
    subst z3
    refine go_iload_n (pc := 8) rfl dJ6_numberOfTrailingZeros_0f7a4_8 ?_
    refine gf_if_gt (pc := 9) (tgt := 17) (ti_c (v := 65535) (a := 65535) (by decide)) (by decide) dJ6_numberOfTrailingZeros_0f7a4_9 (fun q191 => ?_) (fun q191 => False.elim (by omega))
    refine go_iconst (pc := 17) (v := 1) (by decide) dJ6_numberOfTrailingZeros_0f7a4_17 ?_
    refine go_istore_n (pc := 18) (Nat.le_of_ble_eq_true rfl) dJ6_numberOfTrailingZeros_0f7a4_18 (go_lv (lv2 := [(0, .int 65535), (1, .int 1)]) rfl ?_)
    refine go_iload_n (pc := 19) rfl dJ6_numberOfTrailingZeros_0f7a4_19 ?_
    refine go_ldcw (pc := 20) kL_J6_264 dJ6_numberOfTrailingZeros_0f7a4_20 ?_
    refine gf_icmp_le (pc := 23) (tgt := 34) (ti_c (v := 65535) (a := 65535) (by decide)) (ti_c (v := 65536) (a := 65536) (by decide)) (by decide) dJ6_numberOfTrailingZeros_0f7a4_23 (fun q192 => ?_) (fun q192 => False.elim (by omega))
    refine go_iload_n (pc := 34) rfl dJ6_numberOfTrailingZeros_0f7a4_34 ?_
    refine go_sipush (pc := 35) (v := 256) (by decide) dJ6_numberOfTrailingZeros_0f7a4_35 ?_
    refine gf_icmp_le (pc := 38) (tgt := 49) (ti_c (v := 65535) (a := 65535) (by decide)) (ti_c (v := 256) (a := 256) (by decide)) (by decide) dJ6_numberOfTrailingZeros_0f7a4_38 (fun q193 => False.elim (by omega)) (fun q193 => ?_)
    refine gf_iinc (pc := 41) (Nat.le_of_ble_eq_true rfl) rfl (ti_c (v := 1) (a := 1) (by decide)) (ti_c (by decide)) (by omega) (by omega) dJ6_numberOfTrailingZeros_0f7a4_41 (fun v194 e195 => ?_)
    refine go_lv (lv2 := [(0, .int 65535), (1, .int v194)]) rfl ?_
    refine go_iload_n (pc := 44) rfl dJ6_numberOfTrailingZeros_0f7a4_44 ?_
    refine go_bipush (pc := 45) (v := 8) (by decide) dJ6_numberOfTrailingZeros_0f7a4_45 ?_
    refine gx_iushr (pc := 47) dJ6_numberOfTrailingZeros_0f7a4_47 (fun v196 v196x => ?_)
    have v196z : v196 = (255 : Int32) := by rw [v196x]; decide
    subst v196z
    refine go_istore_n (pc := 48) (Nat.le_of_ble_eq_true rfl) dJ6_numberOfTrailingZeros_0f7a4_48 (go_lv (lv2 := [(0, .int 255), (1, .int v194)]) rfl ?_)
    refine go_iload_n (pc := 49) rfl dJ6_numberOfTrailingZeros_0f7a4_49 ?_
    refine go_bipush (pc := 50) (v := 16) (by decide) dJ6_numberOfTrailingZeros_0f7a4_50 ?_
    refine gf_icmp_le (pc := 52) (tgt := 62) (ti_c (v := 255) (a := 255) (by decide)) (ti_c (v := 16) (a := 16) (by decide)) (by decide) dJ6_numberOfTrailingZeros_0f7a4_52 (fun q197 => False.elim (by omega)) (fun q197 => ?_)
    refine gf_iinc (pc := 55) (Nat.le_of_ble_eq_true rfl) rfl e195 (ti_c (by decide)) (by omega) (by omega) dJ6_numberOfTrailingZeros_0f7a4_55 (fun v198 e199 => ?_)
    refine go_lv (lv2 := [(0, .int 255), (1, .int v198)]) rfl ?_
    refine go_iload_n (pc := 58) rfl dJ6_numberOfTrailingZeros_0f7a4_58 ?_
    refine go_iconst (pc := 59) (v := 4) (by decide) dJ6_numberOfTrailingZeros_0f7a4_59 ?_
    refine gx_iushr (pc := 60) dJ6_numberOfTrailingZeros_0f7a4_60 (fun v200 v200x => ?_)
    have v200z : v200 = (15 : Int32) := by rw [v200x]; decide
    subst v200z
    refine go_istore_n (pc := 61) (Nat.le_of_ble_eq_true rfl) dJ6_numberOfTrailingZeros_0f7a4_61 (go_lv (lv2 := [(0, .int 15), (1, .int v198)]) rfl ?_)
    refine go_iload_n (pc := 62) rfl dJ6_numberOfTrailingZeros_0f7a4_62 ?_
    refine go_iconst (pc := 63) (v := 4) (by decide) dJ6_numberOfTrailingZeros_0f7a4_63 ?_
    refine gf_icmp_le (pc := 64) (tgt := 74) (ti_c (v := 15) (a := 15) (by decide)) (ti_c (v := 4) (a := 4) (by decide)) (by decide) dJ6_numberOfTrailingZeros_0f7a4_64 (fun q201 => False.elim (by omega)) (fun q201 => ?_)
    refine gf_iinc (pc := 67) (Nat.le_of_ble_eq_true rfl) rfl e199 (ti_c (by decide)) (by omega) (by omega) dJ6_numberOfTrailingZeros_0f7a4_67 (fun v202 e203 => ?_)
    refine go_lv (lv2 := [(0, .int 15), (1, .int v202)]) rfl ?_
    refine go_iload_n (pc := 70) rfl dJ6_numberOfTrailingZeros_0f7a4_70 ?_
    refine go_iconst (pc := 71) (v := 2) (by decide) dJ6_numberOfTrailingZeros_0f7a4_71 ?_
    refine gx_iushr (pc := 72) dJ6_numberOfTrailingZeros_0f7a4_72 (fun v204 v204x => ?_)
    have v204z : v204 = (3 : Int32) := by rw [v204x]; decide
    subst v204z
    refine go_istore_n (pc := 73) (Nat.le_of_ble_eq_true rfl) dJ6_numberOfTrailingZeros_0f7a4_73 (go_lv (lv2 := [(0, .int 3), (1, .int v202)]) rfl ?_)
    refine go_iload_n (pc := 74) rfl dJ6_numberOfTrailingZeros_0f7a4_74 ?_
    refine go_iload_n (pc := 75) rfl dJ6_numberOfTrailingZeros_0f7a4_75 ?_
    refine go_iconst (pc := 76) (v := 1) (by decide) dJ6_numberOfTrailingZeros_0f7a4_76 ?_
    refine gx_iushr (pc := 77) dJ6_numberOfTrailingZeros_0f7a4_77 (fun v205 v205x => ?_)
    have v205z : v205 = (1 : Int32) := by rw [v205x]; decide
    subst v205z
    refine gf_iadd (pc := 78) e203 (ti_c (v := 1) (a := 1) (by decide)) (by omega) (by omega) dJ6_numberOfTrailingZeros_0f7a4_78 (fun v206 e207 => ?_)
    exact gi_iret (pc := 79) e207 ⟨_, rfl, (by rw [show (v206 : Int32).toInt = ((((1 + 8) + 4) + 2) + 1) from e207]; omega), (by rw [show (v206 : Int32).toInt = ((((1 + 8) + 4) + 2) + 1) from e207]; omega), rfl, ⟨fun q => by have e : a1 = 0 := Int32.toInt_inj.mp (q.trans (by decide)); rw [e] at k2; exact absurd k2.2.1 (by decide), fun _ => by rw [show (v206 : Int32).toInt = ((((1 + 8) + 4) + 2) + 1) from e207]; exact k2⟩⟩ hv dJ6_numberOfTrailingZeros_0f7a4_79
  ·
    have z3 : v3 = (131071 : Int32) := k3.trans (by decide)
    subst z3
    refine go_iload_n (pc := 8) rfl dJ6_numberOfTrailingZeros_0f7a4_8 ?_
    refine gf_if_gt (pc := 9) (tgt := 17) (ti_c (v := 131071) (a := 131071) (by decide)) (by decide) dJ6_numberOfTrailingZeros_0f7a4_9 (fun q208 => ?_) (fun q208 => False.elim (by omega))
    refine go_iconst (pc := 17) (v := 1) (by decide) dJ6_numberOfTrailingZeros_0f7a4_17 ?_
    refine go_istore_n (pc := 18) (Nat.le_of_ble_eq_true rfl) dJ6_numberOfTrailingZeros_0f7a4_18 (go_lv (lv2 := [(0, .int 131071), (1, .int 1)]) rfl ?_)
    refine go_iload_n (pc := 19) rfl dJ6_numberOfTrailingZeros_0f7a4_19 ?_
    refine go_ldcw (pc := 20) kL_J6_264 dJ6_numberOfTrailingZeros_0f7a4_20 ?_
    refine gf_icmp_le (pc := 23) (tgt := 34) (ti_c (v := 131071) (a := 131071) (by decide)) (ti_c (v := 65536) (a := 65536) (by decide)) (by decide) dJ6_numberOfTrailingZeros_0f7a4_23 (fun q209 => False.elim (by omega)) (fun q209 => ?_)
    refine gf_iinc (pc := 26) (Nat.le_of_ble_eq_true rfl) rfl (ti_c (v := 1) (a := 1) (by decide)) (ti_c (by decide)) (by omega) (by omega) dJ6_numberOfTrailingZeros_0f7a4_26 (fun v210 e211 => ?_)
    refine go_lv (lv2 := [(0, .int 131071), (1, .int v210)]) rfl ?_
    refine go_iload_n (pc := 29) rfl dJ6_numberOfTrailingZeros_0f7a4_29 ?_
    refine go_bipush (pc := 30) (v := 16) (by decide) dJ6_numberOfTrailingZeros_0f7a4_30 ?_
    refine gx_iushr (pc := 32) dJ6_numberOfTrailingZeros_0f7a4_32 (fun v212 v212x => ?_)
    have v212z : v212 = (1 : Int32) := by rw [v212x]; decide
    subst v212z
    refine go_istore_n (pc := 33) (Nat.le_of_ble_eq_true rfl) dJ6_numberOfTrailingZeros_0f7a4_33 (go_lv (lv2 := [(0, .int 1), (1, .int v210)]) rfl ?_)
    refine go_iload_n (pc := 34) rfl dJ6_numberOfTrailingZeros_0f7a4_34 ?_
    refine go_sipush (pc := 35) (v := 256) (by decide) dJ6_numberOfTrailingZeros_0f7a4_35 ?_
    refine gf_icmp_le (pc := 38) (tgt := 49) (ti_c (v := 1) (a := 1) (by decide)) (ti_c (v := 256) (a := 256) (by decide)) (by decide) dJ6_numberOfTrailingZeros_0f7a4_38 (fun q213 => ?_) (fun q213 => False.elim (by omega))
    refine go_iload_n (pc := 49) rfl dJ6_numberOfTrailingZeros_0f7a4_49 ?_
    refine go_bipush (pc := 50) (v := 16) (by decide) dJ6_numberOfTrailingZeros_0f7a4_50 ?_
    refine gf_icmp_le (pc := 52) (tgt := 62) (ti_c (v := 1) (a := 1) (by decide)) (ti_c (v := 16) (a := 16) (by decide)) (by decide) dJ6_numberOfTrailingZeros_0f7a4_52 (fun q214 => ?_) (fun q214 => False.elim (by omega))
    refine go_iload_n (pc := 62) rfl dJ6_numberOfTrailingZeros_0f7a4_62 ?_
    refine go_iconst (pc := 63) (v := 4) (by decide) dJ6_numberOfTrailingZeros_0f7a4_63 ?_
    refine gf_icmp_le (pc := 64) (tgt := 74) (ti_c (v := 1) (a := 1) (by decide)) (ti_c (v := 4) (a := 4) (by decide)) (by decide) dJ6_numberOfTrailingZeros_0f7a4_64 (fun q215 => ?_) (fun q215 => False.elim (by omega))
    refine go_iload_n (pc := 74) rfl dJ6_numberOfTrailingZeros_0f7a4_74 ?_
    refine go_iload_n (pc := 75) rfl dJ6_numberOfTrailingZeros_0f7a4_75 ?_
    refine go_iconst (pc := 76) (v := 1) (by decide) dJ6_numberOfTrailingZeros_0f7a4_76 ?_
    refine gx_iushr (pc := 77) dJ6_numberOfTrailingZeros_0f7a4_77 (fun v216 v216x => ?_)
    have v216z : v216 = (0 : Int32) := by rw [v216x]; decide
    subst v216z
    refine gf_iadd (pc := 78) e211 (ti_c (v := 0) (a := 0) (by decide)) (by omega) (by omega) dJ6_numberOfTrailingZeros_0f7a4_78 (fun v217 e218 => ?_)
    exact gi_iret (pc := 79) e218 ⟨_, rfl, (by rw [show (v217 : Int32).toInt = ((1 + 16) + 0) from e218]; omega), (by rw [show (v217 : Int32).toInt = ((1 + 16) + 0) from e218]; omega), rfl, ⟨fun q => by have e : a1 = 0 := Int32.toInt_inj.mp (q.trans (by decide)); rw [e] at k2; exact absurd k2.2.1 (by decide), fun _ => by rw [show (v217 : Int32).toInt = ((1 + 16) + 0) from e218]; exact k2⟩⟩ hv dJ6_numberOfTrailingZeros_0f7a4_79
  ·
    have z3 : v3 = (262143 : Int32) := k3.trans (by decide)
    subst z3
    refine go_iload_n (pc := 8) rfl dJ6_numberOfTrailingZeros_0f7a4_8 ?_
    refine gf_if_gt (pc := 9) (tgt := 17) (ti_c (v := 262143) (a := 262143) (by decide)) (by decide) dJ6_numberOfTrailingZeros_0f7a4_9 (fun q219 => ?_) (fun q219 => False.elim (by omega))
    refine go_iconst (pc := 17) (v := 1) (by decide) dJ6_numberOfTrailingZeros_0f7a4_17 ?_
    refine go_istore_n (pc := 18) (Nat.le_of_ble_eq_true rfl) dJ6_numberOfTrailingZeros_0f7a4_18 (go_lv (lv2 := [(0, .int 262143), (1, .int 1)]) rfl ?_)
    refine go_iload_n (pc := 19) rfl dJ6_numberOfTrailingZeros_0f7a4_19 ?_
    refine go_ldcw (pc := 20) kL_J6_264 dJ6_numberOfTrailingZeros_0f7a4_20 ?_
    refine gf_icmp_le (pc := 23) (tgt := 34) (ti_c (v := 262143) (a := 262143) (by decide)) (ti_c (v := 65536) (a := 65536) (by decide)) (by decide) dJ6_numberOfTrailingZeros_0f7a4_23 (fun q220 => False.elim (by omega)) (fun q220 => ?_)
    refine gf_iinc (pc := 26) (Nat.le_of_ble_eq_true rfl) rfl (ti_c (v := 1) (a := 1) (by decide)) (ti_c (by decide)) (by omega) (by omega) dJ6_numberOfTrailingZeros_0f7a4_26 (fun v221 e222 => ?_)
    refine go_lv (lv2 := [(0, .int 262143), (1, .int v221)]) rfl ?_
    refine go_iload_n (pc := 29) rfl dJ6_numberOfTrailingZeros_0f7a4_29 ?_
    refine go_bipush (pc := 30) (v := 16) (by decide) dJ6_numberOfTrailingZeros_0f7a4_30 ?_
    refine gx_iushr (pc := 32) dJ6_numberOfTrailingZeros_0f7a4_32 (fun v223 v223x => ?_)
    have v223z : v223 = (3 : Int32) := by rw [v223x]; decide
    subst v223z
    refine go_istore_n (pc := 33) (Nat.le_of_ble_eq_true rfl) dJ6_numberOfTrailingZeros_0f7a4_33 (go_lv (lv2 := [(0, .int 3), (1, .int v221)]) rfl ?_)
    refine go_iload_n (pc := 34) rfl dJ6_numberOfTrailingZeros_0f7a4_34 ?_
    refine go_sipush (pc := 35) (v := 256) (by decide) dJ6_numberOfTrailingZeros_0f7a4_35 ?_
    refine gf_icmp_le (pc := 38) (tgt := 49) (ti_c (v := 3) (a := 3) (by decide)) (ti_c (v := 256) (a := 256) (by decide)) (by decide) dJ6_numberOfTrailingZeros_0f7a4_38 (fun q224 => ?_) (fun q224 => False.elim (by omega))
    refine go_iload_n (pc := 49) rfl dJ6_numberOfTrailingZeros_0f7a4_49 ?_
    refine go_bipush (pc := 50) (v := 16) (by decide) dJ6_numberOfTrailingZeros_0f7a4_50 ?_
    refine gf_icmp_le (pc := 52) (tgt := 62) (ti_c (v := 3) (a := 3) (by decide)) (ti_c (v := 16) (a := 16) (by decide)) (by decide) dJ6_numberOfTrailingZeros_0f7a4_52 (fun q225 => ?_) (fun q225 => False.elim (by omega))
    refine go_iload_n (pc := 62) rfl dJ6_numberOfTrailingZeros_0f7a4_62 ?_
    refine go_iconst (pc := 63) (v := 4) (by decide) dJ6_numberOfTrailingZeros_0f7a4_63 ?_
    refine gf_icmp_le (pc := 64) (tgt := 74) (ti_c (v := 3) (a := 3) (by decide)) (ti_c (v := 4) (a := 4) (by decide)) (by decide) dJ6_numberOfTrailingZeros_0f7a4_64 (fun q226 => ?_) (fun q226 => False.elim (by omega))
    refine go_iload_n (pc := 74) rfl dJ6_numberOfTrailingZeros_0f7a4_74 ?_
    refine go_iload_n (pc := 75) rfl dJ6_numberOfTrailingZeros_0f7a4_75 ?_
    refine go_iconst (pc := 76) (v := 1) (by decide) dJ6_numberOfTrailingZeros_0f7a4_76 ?_
    refine gx_iushr (pc := 77) dJ6_numberOfTrailingZeros_0f7a4_77 (fun v227 v227x => ?_)
    have v227z : v227 = (1 : Int32) := by rw [v227x]; decide
    subst v227z
    refine gf_iadd (pc := 78) e222 (ti_c (v := 1) (a := 1) (by decide)) (by omega) (by omega) dJ6_numberOfTrailingZeros_0f7a4_78 (fun v228 e229 => ?_)
    exact gi_iret (pc := 79) e229 ⟨_, rfl, (by rw [show (v228 : Int32).toInt = ((1 + 16) + 1) from e229]; omega), (by rw [show (v228 : Int32).toInt = ((1 + 16) + 1) from e229]; omega), rfl, ⟨fun q => by have e : a1 = 0 := Int32.toInt_inj.mp (q.trans (by decide)); rw [e] at k2; exact absurd k2.2.1 (by decide), fun _ => by rw [show (v228 : Int32).toInt = ((1 + 16) + 1) from e229]; exact k2⟩⟩ hv dJ6_numberOfTrailingZeros_0f7a4_79
  ·
    have z3 : v3 = (524287 : Int32) := k3.trans (by decide)
    subst z3
    refine go_iload_n (pc := 8) rfl dJ6_numberOfTrailingZeros_0f7a4_8 ?_
    refine gf_if_gt (pc := 9) (tgt := 17) (ti_c (v := 524287) (a := 524287) (by decide)) (by decide) dJ6_numberOfTrailingZeros_0f7a4_9 (fun q230 => ?_) (fun q230 => False.elim (by omega))
    refine go_iconst (pc := 17) (v := 1) (by decide) dJ6_numberOfTrailingZeros_0f7a4_17 ?_
    refine go_istore_n (pc := 18) (Nat.le_of_ble_eq_true rfl) dJ6_numberOfTrailingZeros_0f7a4_18 (go_lv (lv2 := [(0, .int 524287), (1, .int 1)]) rfl ?_)
    refine go_iload_n (pc := 19) rfl dJ6_numberOfTrailingZeros_0f7a4_19 ?_
    refine go_ldcw (pc := 20) kL_J6_264 dJ6_numberOfTrailingZeros_0f7a4_20 ?_
    refine gf_icmp_le (pc := 23) (tgt := 34) (ti_c (v := 524287) (a := 524287) (by decide)) (ti_c (v := 65536) (a := 65536) (by decide)) (by decide) dJ6_numberOfTrailingZeros_0f7a4_23 (fun q231 => False.elim (by omega)) (fun q231 => ?_)
    refine gf_iinc (pc := 26) (Nat.le_of_ble_eq_true rfl) rfl (ti_c (v := 1) (a := 1) (by decide)) (ti_c (by decide)) (by omega) (by omega) dJ6_numberOfTrailingZeros_0f7a4_26 (fun v232 e233 => ?_)
    refine go_lv (lv2 := [(0, .int 524287), (1, .int v232)]) rfl ?_
    refine go_iload_n (pc := 29) rfl dJ6_numberOfTrailingZeros_0f7a4_29 ?_
    refine go_bipush (pc := 30) (v := 16) (by decide) dJ6_numberOfTrailingZeros_0f7a4_30 ?_
    refine gx_iushr (pc := 32) dJ6_numberOfTrailingZeros_0f7a4_32 (fun v234 v234x => ?_)
    have v234z : v234 = (7 : Int32) := by rw [v234x]; decide
    subst v234z
    refine go_istore_n (pc := 33) (Nat.le_of_ble_eq_true rfl) dJ6_numberOfTrailingZeros_0f7a4_33 (go_lv (lv2 := [(0, .int 7), (1, .int v232)]) rfl ?_)
    refine go_iload_n (pc := 34) rfl dJ6_numberOfTrailingZeros_0f7a4_34 ?_
    refine go_sipush (pc := 35) (v := 256) (by decide) dJ6_numberOfTrailingZeros_0f7a4_35 ?_
    refine gf_icmp_le (pc := 38) (tgt := 49) (ti_c (v := 7) (a := 7) (by decide)) (ti_c (v := 256) (a := 256) (by decide)) (by decide) dJ6_numberOfTrailingZeros_0f7a4_38 (fun q235 => ?_) (fun q235 => False.elim (by omega))
    refine go_iload_n (pc := 49) rfl dJ6_numberOfTrailingZeros_0f7a4_49 ?_
    refine go_bipush (pc := 50) (v := 16) (by decide) dJ6_numberOfTrailingZeros_0f7a4_50 ?_
    refine gf_icmp_le (pc := 52) (tgt := 62) (ti_c (v := 7) (a := 7) (by decide)) (ti_c (v := 16) (a := 16) (by decide)) (by decide) dJ6_numberOfTrailingZeros_0f7a4_52 (fun q236 => ?_) (fun q236 => False.elim (by omega))
    refine go_iload_n (pc := 62) rfl dJ6_numberOfTrailingZeros_0f7a4_62 ?_
    refine go_iconst (pc := 63) (v := 4) (by decide) dJ6_numberOfTrailingZeros_0f7a4_63 ?_
    refine gf_icmp_le (pc := 64) (tgt := 74) (ti_c (v := 7) (a := 7) (by decide)) (ti_c (v := 4) (a := 4) (by decide)) (by decide) dJ6_numberOfTrailingZeros_0f7a4_64 (fun q237 => False.elim (by omega)) (fun q237 => ?_)
    refine gf_iinc (pc := 67) (Nat.le_of_ble_eq_true rfl) rfl e233 (ti_c (by decide)) (by omega) (by omega) dJ6_numberOfTrailingZeros_0f7a4_67 (fun v238 e239 => ?_)
    refine go_lv (lv2 := [(0, .int 7), (1, .int v238)]) rfl ?_
    refine go_iload_n (pc := 70) rfl dJ6_numberOfTrailingZeros_0f7a4_70 ?_
    refine go_iconst (pc := 71) (v := 2) (by decide) dJ6_numberOfTrailingZeros_0f7a4_71 ?_
    refine gx_iushr (pc := 72) dJ6_numberOfTrailingZeros_0f7a4_72 (fun v240 v240x => ?_)
    have v240z : v240 = (1 : Int32) := by rw [v240x]; decide
    subst v240z
    refine go_istore_n (pc := 73) (Nat.le_of_ble_eq_true rfl) dJ6_numberOfTrailingZeros_0f7a4_73 (go_lv (lv2 := [(0, .int 1), (1, .int v238)]) rfl ?_)
    refine go_iload_n (pc := 74) rfl dJ6_numberOfTrailingZeros_0f7a4_74 ?_
    refine go_iload_n (pc := 75) rfl dJ6_numberOfTrailingZeros_0f7a4_75 ?_
    refine go_iconst (pc := 76) (v := 1) (by decide) dJ6_numberOfTrailingZeros_0f7a4_76 ?_
    refine gx_iushr (pc := 77) dJ6_numberOfTrailingZeros_0f7a4_77 (fun v241 v241x => ?_)
    have v241z : v241 = (0 : Int32) := by rw [v241x]; decide
    subst v241z
    refine gf_iadd (pc := 78) e239 (ti_c (v := 0) (a := 0) (by decide)) (by omega) (by omega) dJ6_numberOfTrailingZeros_0f7a4_78 (fun v242 e243 => ?_)
    exact gi_iret (pc := 79) e243 ⟨_, rfl, (by rw [show (v242 : Int32).toInt = (((1 + 16) + 2) + 0) from e243]; omega), (by rw [show (v242 : Int32).toInt = (((1 + 16) + 2) + 0) from e243]; omega), rfl, ⟨fun q => by have e : a1 = 0 := Int32.toInt_inj.mp (q.trans (by decide)); rw [e] at k2; exact absurd k2.2.1 (by decide), fun _ => by rw [show (v242 : Int32).toInt = (((1 + 16) + 2) + 0) from e243]; exact k2⟩⟩ hv dJ6_numberOfTrailingZeros_0f7a4_79
  ·
    have z3 : v3 = (1048575 : Int32) := k3.trans (by decide)
    subst z3
    refine go_iload_n (pc := 8) rfl dJ6_numberOfTrailingZeros_0f7a4_8 ?_
    refine gf_if_gt (pc := 9) (tgt := 17) (ti_c (v := 1048575) (a := 1048575) (by decide)) (by decide) dJ6_numberOfTrailingZeros_0f7a4_9 (fun q244 => ?_) (fun q244 => False.elim (by omega))
    refine go_iconst (pc := 17) (v := 1) (by decide) dJ6_numberOfTrailingZeros_0f7a4_17 ?_
    refine go_istore_n (pc := 18) (Nat.le_of_ble_eq_true rfl) dJ6_numberOfTrailingZeros_0f7a4_18 (go_lv (lv2 := [(0, .int 1048575), (1, .int 1)]) rfl ?_)
    refine go_iload_n (pc := 19) rfl dJ6_numberOfTrailingZeros_0f7a4_19 ?_
    refine go_ldcw (pc := 20) kL_J6_264 dJ6_numberOfTrailingZeros_0f7a4_20 ?_
    refine gf_icmp_le (pc := 23) (tgt := 34) (ti_c (v := 1048575) (a := 1048575) (by decide)) (ti_c (v := 65536) (a := 65536) (by decide)) (by decide) dJ6_numberOfTrailingZeros_0f7a4_23 (fun q245 => False.elim (by omega)) (fun q245 => ?_)
    refine gf_iinc (pc := 26) (Nat.le_of_ble_eq_true rfl) rfl (ti_c (v := 1) (a := 1) (by decide)) (ti_c (by decide)) (by omega) (by omega) dJ6_numberOfTrailingZeros_0f7a4_26 (fun v246 e247 => ?_)
    refine go_lv (lv2 := [(0, .int 1048575), (1, .int v246)]) rfl ?_
    refine go_iload_n (pc := 29) rfl dJ6_numberOfTrailingZeros_0f7a4_29 ?_
    refine go_bipush (pc := 30) (v := 16) (by decide) dJ6_numberOfTrailingZeros_0f7a4_30 ?_
    refine gx_iushr (pc := 32) dJ6_numberOfTrailingZeros_0f7a4_32 (fun v248 v248x => ?_)
    have v248z : v248 = (15 : Int32) := by rw [v248x]; decide
    subst v248z
    refine go_istore_n (pc := 33) (Nat.le_of_ble_eq_true rfl) dJ6_numberOfTrailingZeros_0f7a4_33 (go_lv (lv2 := [(0, .int 15), (1, .int v246)]) rfl ?_)
    refine go_iload_n (pc := 34) rfl dJ6_numberOfTrailingZeros_0f7a4_34 ?_
    refine go_sipush (pc := 35) (v := 256) (by decide) dJ6_numberOfTrailingZeros_0f7a4_35 ?_
    refine gf_icmp_le (pc := 38) (tgt := 49) (ti_c (v := 15) (a := 15) (by decide)) (ti_c (v := 256) (a := 256) (by decide)) (by decide) dJ6_numberOfTrailingZeros_0f7a4_38 (fun q249 => ?_) (fun q249 => False.elim (by omega))
    refine go_iload_n (pc := 49) rfl dJ6_numberOfTrailingZeros_0f7a4_49 ?_
    refine go_bipush (pc := 50) (v := 16) (by decide) dJ6_numberOfTrailingZeros_0f7a4_50 ?_
    refine gf_icmp_le (pc := 52) (tgt := 62) (ti_c (v := 15) (a := 15) (by decide)) (ti_c (v := 16) (a := 16) (by decide)) (by decide) dJ6_numberOfTrailingZeros_0f7a4_52 (fun q250 => ?_) (fun q250 => False.elim (by omega))
    refine go_iload_n (pc := 62) rfl dJ6_numberOfTrailingZeros_0f7a4_62 ?_
    refine go_iconst (pc := 63) (v := 4) (by decide) dJ6_numberOfTrailingZeros_0f7a4_63 ?_
    refine gf_icmp_le (pc := 64) (tgt := 74) (ti_c (v := 15) (a := 15) (by decide)) (ti_c (v := 4) (a := 4) (by decide)) (by decide) dJ6_numberOfTrailingZeros_0f7a4_64 (fun q251 => False.elim (by omega)) (fun q251 => ?_)
    refine gf_iinc (pc := 67) (Nat.le_of_ble_eq_true rfl) rfl e247 (ti_c (by decide)) (by omega) (by omega) dJ6_numberOfTrailingZeros_0f7a4_67 (fun v252 e253 => ?_)
    refine go_lv (lv2 := [(0, .int 15), (1, .int v252)]) rfl ?_
    refine go_iload_n (pc := 70) rfl dJ6_numberOfTrailingZeros_0f7a4_70 ?_
    refine go_iconst (pc := 71) (v := 2) (by decide) dJ6_numberOfTrailingZeros_0f7a4_71 ?_
    refine gx_iushr (pc := 72) dJ6_numberOfTrailingZeros_0f7a4_72 (fun v254 v254x => ?_)
    have v254z : v254 = (3 : Int32) := by rw [v254x]; decide
    subst v254z
    refine go_istore_n (pc := 73) (Nat.le_of_ble_eq_true rfl) dJ6_numberOfTrailingZeros_0f7a4_73 (go_lv (lv2 := [(0, .int 3), (1, .int v252)]) rfl ?_)
    refine go_iload_n (pc := 74) rfl dJ6_numberOfTrailingZeros_0f7a4_74 ?_
    refine go_iload_n (pc := 75) rfl dJ6_numberOfTrailingZeros_0f7a4_75 ?_
    refine go_iconst (pc := 76) (v := 1) (by decide) dJ6_numberOfTrailingZeros_0f7a4_76 ?_
    refine gx_iushr (pc := 77) dJ6_numberOfTrailingZeros_0f7a4_77 (fun v255 v255x => ?_)
    have v255z : v255 = (1 : Int32) := by rw [v255x]; decide
    subst v255z
    refine gf_iadd (pc := 78) e253 (ti_c (v := 1) (a := 1) (by decide)) (by omega) (by omega) dJ6_numberOfTrailingZeros_0f7a4_78 (fun v256 e257 => ?_)
    exact gi_iret (pc := 79) e257 ⟨_, rfl, (by rw [show (v256 : Int32).toInt = (((1 + 16) + 2) + 1) from e257]; omega), (by rw [show (v256 : Int32).toInt = (((1 + 16) + 2) + 1) from e257]; omega), rfl, ⟨fun q => by have e : a1 = 0 := Int32.toInt_inj.mp (q.trans (by decide)); rw [e] at k2; exact absurd k2.2.1 (by decide), fun _ => by rw [show (v256 : Int32).toInt = (((1 + 16) + 2) + 1) from e257]; exact k2⟩⟩ hv dJ6_numberOfTrailingZeros_0f7a4_79
  ·
    have z3 : v3 = (2097151 : Int32) := k3.trans (by decide)
    subst z3
    refine go_iload_n (pc := 8) rfl dJ6_numberOfTrailingZeros_0f7a4_8 ?_
    refine gf_if_gt (pc := 9) (tgt := 17) (ti_c (v := 2097151) (a := 2097151) (by decide)) (by decide) dJ6_numberOfTrailingZeros_0f7a4_9 (fun q258 => ?_) (fun q258 => False.elim (by omega))
    refine go_iconst (pc := 17) (v := 1) (by decide) dJ6_numberOfTrailingZeros_0f7a4_17 ?_
    refine go_istore_n (pc := 18) (Nat.le_of_ble_eq_true rfl) dJ6_numberOfTrailingZeros_0f7a4_18 (go_lv (lv2 := [(0, .int 2097151), (1, .int 1)]) rfl ?_)
    refine go_iload_n (pc := 19) rfl dJ6_numberOfTrailingZeros_0f7a4_19 ?_
    refine go_ldcw (pc := 20) kL_J6_264 dJ6_numberOfTrailingZeros_0f7a4_20 ?_
    refine gf_icmp_le (pc := 23) (tgt := 34) (ti_c (v := 2097151) (a := 2097151) (by decide)) (ti_c (v := 65536) (a := 65536) (by decide)) (by decide) dJ6_numberOfTrailingZeros_0f7a4_23 (fun q259 => False.elim (by omega)) (fun q259 => ?_)
    refine gf_iinc (pc := 26) (Nat.le_of_ble_eq_true rfl) rfl (ti_c (v := 1) (a := 1) (by decide)) (ti_c (by decide)) (by omega) (by omega) dJ6_numberOfTrailingZeros_0f7a4_26 (fun v260 e261 => ?_)
    refine go_lv (lv2 := [(0, .int 2097151), (1, .int v260)]) rfl ?_
    refine go_iload_n (pc := 29) rfl dJ6_numberOfTrailingZeros_0f7a4_29 ?_
    refine go_bipush (pc := 30) (v := 16) (by decide) dJ6_numberOfTrailingZeros_0f7a4_30 ?_
    refine gx_iushr (pc := 32) dJ6_numberOfTrailingZeros_0f7a4_32 (fun v262 v262x => ?_)
    have v262z : v262 = (31 : Int32) := by rw [v262x]; decide
    subst v262z
    refine go_istore_n (pc := 33) (Nat.le_of_ble_eq_true rfl) dJ6_numberOfTrailingZeros_0f7a4_33 (go_lv (lv2 := [(0, .int 31), (1, .int v260)]) rfl ?_)
    refine go_iload_n (pc := 34) rfl dJ6_numberOfTrailingZeros_0f7a4_34 ?_
    refine go_sipush (pc := 35) (v := 256) (by decide) dJ6_numberOfTrailingZeros_0f7a4_35 ?_
    refine gf_icmp_le (pc := 38) (tgt := 49) (ti_c (v := 31) (a := 31) (by decide)) (ti_c (v := 256) (a := 256) (by decide)) (by decide) dJ6_numberOfTrailingZeros_0f7a4_38 (fun q263 => ?_) (fun q263 => False.elim (by omega))
    refine go_iload_n (pc := 49) rfl dJ6_numberOfTrailingZeros_0f7a4_49 ?_
    refine go_bipush (pc := 50) (v := 16) (by decide) dJ6_numberOfTrailingZeros_0f7a4_50 ?_
    refine gf_icmp_le (pc := 52) (tgt := 62) (ti_c (v := 31) (a := 31) (by decide)) (ti_c (v := 16) (a := 16) (by decide)) (by decide) dJ6_numberOfTrailingZeros_0f7a4_52 (fun q264 => False.elim (by omega)) (fun q264 => ?_)
    refine gf_iinc (pc := 55) (Nat.le_of_ble_eq_true rfl) rfl e261 (ti_c (by decide)) (by omega) (by omega) dJ6_numberOfTrailingZeros_0f7a4_55 (fun v265 e266 => ?_)
    refine go_lv (lv2 := [(0, .int 31), (1, .int v265)]) rfl ?_
    refine go_iload_n (pc := 58) rfl dJ6_numberOfTrailingZeros_0f7a4_58 ?_
    refine go_iconst (pc := 59) (v := 4) (by decide) dJ6_numberOfTrailingZeros_0f7a4_59 ?_
    refine gx_iushr (pc := 60) dJ6_numberOfTrailingZeros_0f7a4_60 (fun v267 v267x => ?_)
    have v267z : v267 = (1 : Int32) := by rw [v267x]; decide
    subst v267z
    refine go_istore_n (pc := 61) (Nat.le_of_ble_eq_true rfl) dJ6_numberOfTrailingZeros_0f7a4_61 (go_lv (lv2 := [(0, .int 1), (1, .int v265)]) rfl ?_)
    refine go_iload_n (pc := 62) rfl dJ6_numberOfTrailingZeros_0f7a4_62 ?_
    refine go_iconst (pc := 63) (v := 4) (by decide) dJ6_numberOfTrailingZeros_0f7a4_63 ?_
    refine gf_icmp_le (pc := 64) (tgt := 74) (ti_c (v := 1) (a := 1) (by decide)) (ti_c (v := 4) (a := 4) (by decide)) (by decide) dJ6_numberOfTrailingZeros_0f7a4_64 (fun q268 => ?_) (fun q268 => False.elim (by omega))
    refine go_iload_n (pc := 74) rfl dJ6_numberOfTrailingZeros_0f7a4_74 ?_
    refine go_iload_n (pc := 75) rfl dJ6_numberOfTrailingZeros_0f7a4_75 ?_
    refine go_iconst (pc := 76) (v := 1) (by decide) dJ6_numberOfTrailingZeros_0f7a4_76 ?_
    refine gx_iushr (pc := 77) dJ6_numberOfTrailingZeros_0f7a4_77 (fun v269 v269x => ?_)
    have v269z : v269 = (0 : Int32) := by rw [v269x]; decide
    subst v269z
    refine gf_iadd (pc := 78) e266 (ti_c (v := 0) (a := 0) (by decide)) (by omega) (by omega) dJ6_numberOfTrailingZeros_0f7a4_78 (fun v270 e271 => ?_)
    exact gi_iret (pc := 79) e271 ⟨_, rfl, (by rw [show (v270 : Int32).toInt = (((1 + 16) + 4) + 0) from e271]; omega), (by rw [show (v270 : Int32).toInt = (((1 + 16) + 4) + 0) from e271]; omega), rfl, ⟨fun q => by have e : a1 = 0 := Int32.toInt_inj.mp (q.trans (by decide)); rw [e] at k2; exact absurd k2.2.1 (by decide), fun _ => by rw [show (v270 : Int32).toInt = (((1 + 16) + 4) + 0) from e271]; exact k2⟩⟩ hv dJ6_numberOfTrailingZeros_0f7a4_79
  ·
    have z3 : v3 = (4194303 : Int32) := k3.trans (by decide)
    subst z3
    refine go_iload_n (pc := 8) rfl dJ6_numberOfTrailingZeros_0f7a4_8 ?_
    refine gf_if_gt (pc := 9) (tgt := 17) (ti_c (v := 4194303) (a := 4194303) (by decide)) (by decide) dJ6_numberOfTrailingZeros_0f7a4_9 (fun q272 => ?_) (fun q272 => False.elim (by omega))
    refine go_iconst (pc := 17) (v := 1) (by decide) dJ6_numberOfTrailingZeros_0f7a4_17 ?_
    refine go_istore_n (pc := 18) (Nat.le_of_ble_eq_true rfl) dJ6_numberOfTrailingZeros_0f7a4_18 (go_lv (lv2 := [(0, .int 4194303), (1, .int 1)]) rfl ?_)
    refine go_iload_n (pc := 19) rfl dJ6_numberOfTrailingZeros_0f7a4_19 ?_
    refine go_ldcw (pc := 20) kL_J6_264 dJ6_numberOfTrailingZeros_0f7a4_20 ?_
    refine gf_icmp_le (pc := 23) (tgt := 34) (ti_c (v := 4194303) (a := 4194303) (by decide)) (ti_c (v := 65536) (a := 65536) (by decide)) (by decide) dJ6_numberOfTrailingZeros_0f7a4_23 (fun q273 => False.elim (by omega)) (fun q273 => ?_)
    refine gf_iinc (pc := 26) (Nat.le_of_ble_eq_true rfl) rfl (ti_c (v := 1) (a := 1) (by decide)) (ti_c (by decide)) (by omega) (by omega) dJ6_numberOfTrailingZeros_0f7a4_26 (fun v274 e275 => ?_)
    refine go_lv (lv2 := [(0, .int 4194303), (1, .int v274)]) rfl ?_
    refine go_iload_n (pc := 29) rfl dJ6_numberOfTrailingZeros_0f7a4_29 ?_
    refine go_bipush (pc := 30) (v := 16) (by decide) dJ6_numberOfTrailingZeros_0f7a4_30 ?_
    refine gx_iushr (pc := 32) dJ6_numberOfTrailingZeros_0f7a4_32 (fun v276 v276x => ?_)
    have v276z : v276 = (63 : Int32) := by rw [v276x]; decide
    subst v276z
    refine go_istore_n (pc := 33) (Nat.le_of_ble_eq_true rfl) dJ6_numberOfTrailingZeros_0f7a4_33 (go_lv (lv2 := [(0, .int 63), (1, .int v274)]) rfl ?_)
    refine go_iload_n (pc := 34) rfl dJ6_numberOfTrailingZeros_0f7a4_34 ?_
    refine go_sipush (pc := 35) (v := 256) (by decide) dJ6_numberOfTrailingZeros_0f7a4_35 ?_
    refine gf_icmp_le (pc := 38) (tgt := 49) (ti_c (v := 63) (a := 63) (by decide)) (ti_c (v := 256) (a := 256) (by decide)) (by decide) dJ6_numberOfTrailingZeros_0f7a4_38 (fun q277 => ?_) (fun q277 => False.elim (by omega))
    refine go_iload_n (pc := 49) rfl dJ6_numberOfTrailingZeros_0f7a4_49 ?_
    refine go_bipush (pc := 50) (v := 16) (by decide) dJ6_numberOfTrailingZeros_0f7a4_50 ?_
    refine gf_icmp_le (pc := 52) (tgt := 62) (ti_c (v := 63) (a := 63) (by decide)) (ti_c (v := 16) (a := 16) (by decide)) (by decide) dJ6_numberOfTrailingZeros_0f7a4_52 (fun q278 => False.elim (by omega)) (fun q278 => ?_)
    refine gf_iinc (pc := 55) (Nat.le_of_ble_eq_true rfl) rfl e275 (ti_c (by decide)) (by omega) (by omega) dJ6_numberOfTrailingZeros_0f7a4_55 (fun v279 e280 => ?_)
    refine go_lv (lv2 := [(0, .int 63), (1, .int v279)]) rfl ?_
    refine go_iload_n (pc := 58) rfl dJ6_numberOfTrailingZeros_0f7a4_58 ?_
    refine go_iconst (pc := 59) (v := 4) (by decide) dJ6_numberOfTrailingZeros_0f7a4_59 ?_
    refine gx_iushr (pc := 60) dJ6_numberOfTrailingZeros_0f7a4_60 (fun v281 v281x => ?_)
    have v281z : v281 = (3 : Int32) := by rw [v281x]; decide
    subst v281z
    refine go_istore_n (pc := 61) (Nat.le_of_ble_eq_true rfl) dJ6_numberOfTrailingZeros_0f7a4_61 (go_lv (lv2 := [(0, .int 3), (1, .int v279)]) rfl ?_)
    refine go_iload_n (pc := 62) rfl dJ6_numberOfTrailingZeros_0f7a4_62 ?_
    refine go_iconst (pc := 63) (v := 4) (by decide) dJ6_numberOfTrailingZeros_0f7a4_63 ?_
    refine gf_icmp_le (pc := 64) (tgt := 74) (ti_c (v := 3) (a := 3) (by decide)) (ti_c (v := 4) (a := 4) (by decide)) (by decide) dJ6_numberOfTrailingZeros_0f7a4_64 (fun q282 => ?_) (fun q282 => False.elim (by omega))
    refine go_iload_n (pc := 74) rfl dJ6_numberOfTrailingZeros_0f7a4_74 ?_
    refine go_iload_n (pc := 75) rfl dJ6_numberOfTrailingZeros_0f7a4_75 ?_
    refine go_iconst (pc := 76) (v := 1) (by decide) dJ6_numberOfTrailingZeros_0f7a4_76 ?_
    refine gx_iushr (pc := 77) dJ6_numberOfTrailingZeros_0f7a4_77 (fun v283 v283x => ?_)
    have v283z : v283 = (1 : Int32) := by rw [v283x]; decide
    subst v283z
    refine gf_iadd (pc := 78) e280 (ti_c (v := 1) (a := 1) (by decide)) (by omega) (by omega) dJ6_numberOfTrailingZeros_0f7a4_78 (fun v284 e285 => ?_)
    exact gi_iret (pc := 79) e285 ⟨_, rfl, (by rw [show (v284 : Int32).toInt = (((1 + 16) + 4) + 1) from e285]; omega), (by rw [show (v284 : Int32).toInt = (((1 + 16) + 4) + 1) from e285]; omega), rfl, ⟨fun q => by have e : a1 = 0 := Int32.toInt_inj.mp (q.trans (by decide)); rw [e] at k2; exact absurd k2.2.1 (by decide), fun _ => by rw [show (v284 : Int32).toInt = (((1 + 16) + 4) + 1) from e285]; exact k2⟩⟩ hv dJ6_numberOfTrailingZeros_0f7a4_79
  ·
    have z3 : v3 = (8388607 : Int32) := k3.trans (by decide)
    subst z3
    refine go_iload_n (pc := 8) rfl dJ6_numberOfTrailingZeros_0f7a4_8 ?_
    refine gf_if_gt (pc := 9) (tgt := 17) (ti_c (v := 8388607) (a := 8388607) (by decide)) (by decide) dJ6_numberOfTrailingZeros_0f7a4_9 (fun q286 => ?_) (fun q286 => False.elim (by omega))
    refine go_iconst (pc := 17) (v := 1) (by decide) dJ6_numberOfTrailingZeros_0f7a4_17 ?_
    refine go_istore_n (pc := 18) (Nat.le_of_ble_eq_true rfl) dJ6_numberOfTrailingZeros_0f7a4_18 (go_lv (lv2 := [(0, .int 8388607), (1, .int 1)]) rfl ?_)
    refine go_iload_n (pc := 19) rfl dJ6_numberOfTrailingZeros_0f7a4_19 ?_
    refine go_ldcw (pc := 20) kL_J6_264 dJ6_numberOfTrailingZeros_0f7a4_20 ?_
    refine gf_icmp_le (pc := 23) (tgt := 34) (ti_c (v := 8388607) (a := 8388607) (by decide)) (ti_c (v := 65536) (a := 65536) (by decide)) (by decide) dJ6_numberOfTrailingZeros_0f7a4_23 (fun q287 => False.elim (by omega)) (fun q287 => ?_)
    refine gf_iinc (pc := 26) (Nat.le_of_ble_eq_true rfl) rfl (ti_c (v := 1) (a := 1) (by decide)) (ti_c (by decide)) (by omega) (by omega) dJ6_numberOfTrailingZeros_0f7a4_26 (fun v288 e289 => ?_)
    refine go_lv (lv2 := [(0, .int 8388607), (1, .int v288)]) rfl ?_
    refine go_iload_n (pc := 29) rfl dJ6_numberOfTrailingZeros_0f7a4_29 ?_
    refine go_bipush (pc := 30) (v := 16) (by decide) dJ6_numberOfTrailingZeros_0f7a4_30 ?_
    refine gx_iushr (pc := 32) dJ6_numberOfTrailingZeros_0f7a4_32 (fun v290 v290x => ?_)
    have v290z : v290 = (127 : Int32) := by rw [v290x]; decide
    subst v290z
    refine go_istore_n (pc := 33) (Nat.le_of_ble_eq_true rfl) dJ6_numberOfTrailingZeros_0f7a4_33 (go_lv (lv2 := [(0, .int 127), (1, .int v288)]) rfl ?_)
    refine go_iload_n (pc := 34) rfl dJ6_numberOfTrailingZeros_0f7a4_34 ?_
    refine go_sipush (pc := 35) (v := 256) (by decide) dJ6_numberOfTrailingZeros_0f7a4_35 ?_
    refine gf_icmp_le (pc := 38) (tgt := 49) (ti_c (v := 127) (a := 127) (by decide)) (ti_c (v := 256) (a := 256) (by decide)) (by decide) dJ6_numberOfTrailingZeros_0f7a4_38 (fun q291 => ?_) (fun q291 => False.elim (by omega))
    refine go_iload_n (pc := 49) rfl dJ6_numberOfTrailingZeros_0f7a4_49 ?_
    refine go_bipush (pc := 50) (v := 16) (by decide) dJ6_numberOfTrailingZeros_0f7a4_50 ?_
    refine gf_icmp_le (pc := 52) (tgt := 62) (ti_c (v := 127) (a := 127) (by decide)) (ti_c (v := 16) (a := 16) (by decide)) (by decide) dJ6_numberOfTrailingZeros_0f7a4_52 (fun q292 => False.elim (by omega)) (fun q292 => ?_)
    refine gf_iinc (pc := 55) (Nat.le_of_ble_eq_true rfl) rfl e289 (ti_c (by decide)) (by omega) (by omega) dJ6_numberOfTrailingZeros_0f7a4_55 (fun v293 e294 => ?_)
    refine go_lv (lv2 := [(0, .int 127), (1, .int v293)]) rfl ?_
    refine go_iload_n (pc := 58) rfl dJ6_numberOfTrailingZeros_0f7a4_58 ?_
    refine go_iconst (pc := 59) (v := 4) (by decide) dJ6_numberOfTrailingZeros_0f7a4_59 ?_
    refine gx_iushr (pc := 60) dJ6_numberOfTrailingZeros_0f7a4_60 (fun v295 v295x => ?_)
    have v295z : v295 = (7 : Int32) := by rw [v295x]; decide
    subst v295z
    refine go_istore_n (pc := 61) (Nat.le_of_ble_eq_true rfl) dJ6_numberOfTrailingZeros_0f7a4_61 (go_lv (lv2 := [(0, .int 7), (1, .int v293)]) rfl ?_)
    refine go_iload_n (pc := 62) rfl dJ6_numberOfTrailingZeros_0f7a4_62 ?_
    refine go_iconst (pc := 63) (v := 4) (by decide) dJ6_numberOfTrailingZeros_0f7a4_63 ?_
    refine gf_icmp_le (pc := 64) (tgt := 74) (ti_c (v := 7) (a := 7) (by decide)) (ti_c (v := 4) (a := 4) (by decide)) (by decide) dJ6_numberOfTrailingZeros_0f7a4_64 (fun q296 => False.elim (by omega)) (fun q296 => ?_)
    refine gf_iinc (pc := 67) (Nat.le_of_ble_eq_true rfl) rfl e294 (ti_c (by decide)) (by omega) (by omega) dJ6_numberOfTrailingZeros_0f7a4_67 (fun v297 e298 => ?_)
    refine go_lv (lv2 := [(0, .int 7), (1, .int v297)]) rfl ?_
    refine go_iload_n (pc := 70) rfl dJ6_numberOfTrailingZeros_0f7a4_70 ?_
    refine go_iconst (pc := 71) (v := 2) (by decide) dJ6_numberOfTrailingZeros_0f7a4_71 ?_
    refine gx_iushr (pc := 72) dJ6_numberOfTrailingZeros_0f7a4_72 (fun v299 v299x => ?_)
    have v299z : v299 = (1 : Int32) := by rw [v299x]; decide
    subst v299z
    refine go_istore_n (pc := 73) (Nat.le_of_ble_eq_true rfl) dJ6_numberOfTrailingZeros_0f7a4_73 (go_lv (lv2 := [(0, .int 1), (1, .int v297)]) rfl ?_)
    refine go_iload_n (pc := 74) rfl dJ6_numberOfTrailingZeros_0f7a4_74 ?_
    refine go_iload_n (pc := 75) rfl dJ6_numberOfTrailingZeros_0f7a4_75 ?_
    refine go_iconst (pc := 76) (v := 1) (by decide) dJ6_numberOfTrailingZeros_0f7a4_76 ?_
    refine gx_iushr (pc := 77) dJ6_numberOfTrailingZeros_0f7a4_77 (fun v300 v300x => ?_)
    have v300z : v300 = (0 : Int32) := by rw [v300x]; decide
    subst v300z
    refine gf_iadd (pc := 78) e298 (ti_c (v := 0) (a := 0) (by decide)) (by omega) (by omega) dJ6_numberOfTrailingZeros_0f7a4_78 (fun v301 e302 => ?_)
    exact gi_iret (pc := 79) e302 ⟨_, rfl, (by rw [show (v301 : Int32).toInt = ((((1 + 16) + 4) + 2) + 0) from e302]; omega), (by rw [show (v301 : Int32).toInt = ((((1 + 16) + 4) + 2) + 0) from e302]; omega), rfl, ⟨fun q => by have e : a1 = 0 := Int32.toInt_inj.mp (q.trans (by decide)); rw [e] at k2; exact absurd k2.2.1 (by decide), fun _ => by rw [show (v301 : Int32).toInt = ((((1 + 16) + 4) + 2) + 0) from e302]; exact k2⟩⟩ hv dJ6_numberOfTrailingZeros_0f7a4_79
  ·
    have z3 : v3 = (16777215 : Int32) := k3.trans (by decide)
    subst z3
    refine go_iload_n (pc := 8) rfl dJ6_numberOfTrailingZeros_0f7a4_8 ?_
    refine gf_if_gt (pc := 9) (tgt := 17) (ti_c (v := 16777215) (a := 16777215) (by decide)) (by decide) dJ6_numberOfTrailingZeros_0f7a4_9 (fun q303 => ?_) (fun q303 => False.elim (by omega))
    refine go_iconst (pc := 17) (v := 1) (by decide) dJ6_numberOfTrailingZeros_0f7a4_17 ?_
    refine go_istore_n (pc := 18) (Nat.le_of_ble_eq_true rfl) dJ6_numberOfTrailingZeros_0f7a4_18 (go_lv (lv2 := [(0, .int 16777215), (1, .int 1)]) rfl ?_)
    refine go_iload_n (pc := 19) rfl dJ6_numberOfTrailingZeros_0f7a4_19 ?_
    refine go_ldcw (pc := 20) kL_J6_264 dJ6_numberOfTrailingZeros_0f7a4_20 ?_
    refine gf_icmp_le (pc := 23) (tgt := 34) (ti_c (v := 16777215) (a := 16777215) (by decide)) (ti_c (v := 65536) (a := 65536) (by decide)) (by decide) dJ6_numberOfTrailingZeros_0f7a4_23 (fun q304 => False.elim (by omega)) (fun q304 => ?_)
    refine gf_iinc (pc := 26) (Nat.le_of_ble_eq_true rfl) rfl (ti_c (v := 1) (a := 1) (by decide)) (ti_c (by decide)) (by omega) (by omega) dJ6_numberOfTrailingZeros_0f7a4_26 (fun v305 e306 => ?_)
    refine go_lv (lv2 := [(0, .int 16777215), (1, .int v305)]) rfl ?_
    refine go_iload_n (pc := 29) rfl dJ6_numberOfTrailingZeros_0f7a4_29 ?_
    refine go_bipush (pc := 30) (v := 16) (by decide) dJ6_numberOfTrailingZeros_0f7a4_30 ?_
    refine gx_iushr (pc := 32) dJ6_numberOfTrailingZeros_0f7a4_32 (fun v307 v307x => ?_)
    have v307z : v307 = (255 : Int32) := by rw [v307x]; decide
    subst v307z
    refine go_istore_n (pc := 33) (Nat.le_of_ble_eq_true rfl) dJ6_numberOfTrailingZeros_0f7a4_33 (go_lv (lv2 := [(0, .int 255), (1, .int v305)]) rfl ?_)
    refine go_iload_n (pc := 34) rfl dJ6_numberOfTrailingZeros_0f7a4_34 ?_
    refine go_sipush (pc := 35) (v := 256) (by decide) dJ6_numberOfTrailingZeros_0f7a4_35 ?_
    refine gf_icmp_le (pc := 38) (tgt := 49) (ti_c (v := 255) (a := 255) (by decide)) (ti_c (v := 256) (a := 256) (by decide)) (by decide) dJ6_numberOfTrailingZeros_0f7a4_38 (fun q308 => ?_) (fun q308 => False.elim (by omega))
    refine go_iload_n (pc := 49) rfl dJ6_numberOfTrailingZeros_0f7a4_49 ?_
    refine go_bipush (pc := 50) (v := 16) (by decide) dJ6_numberOfTrailingZeros_0f7a4_50 ?_
    refine gf_icmp_le (pc := 52) (tgt := 62) (ti_c (v := 255) (a := 255) (by decide)) (ti_c (v := 16) (a := 16) (by decide)) (by decide) dJ6_numberOfTrailingZeros_0f7a4_52 (fun q309 => False.elim (by omega)) (fun q309 => ?_)
    refine gf_iinc (pc := 55) (Nat.le_of_ble_eq_true rfl) rfl e306 (ti_c (by decide)) (by omega) (by omega) dJ6_numberOfTrailingZeros_0f7a4_55 (fun v310 e311 => ?_)
    refine go_lv (lv2 := [(0, .int 255), (1, .int v310)]) rfl ?_
    refine go_iload_n (pc := 58) rfl dJ6_numberOfTrailingZeros_0f7a4_58 ?_
    refine go_iconst (pc := 59) (v := 4) (by decide) dJ6_numberOfTrailingZeros_0f7a4_59 ?_
    refine gx_iushr (pc := 60) dJ6_numberOfTrailingZeros_0f7a4_60 (fun v312 v312x => ?_)
    have v312z : v312 = (15 : Int32) := by rw [v312x]; decide
    subst v312z
    refine go_istore_n (pc := 61) (Nat.le_of_ble_eq_true rfl) dJ6_numberOfTrailingZeros_0f7a4_61 (go_lv (lv2 := [(0, .int 15), (1, .int v310)]) rfl ?_)
    refine go_iload_n (pc := 62) rfl dJ6_numberOfTrailingZeros_0f7a4_62 ?_
    refine go_iconst (pc := 63) (v := 4) (by decide) dJ6_numberOfTrailingZeros_0f7a4_63 ?_
    refine gf_icmp_le (pc := 64) (tgt := 74) (ti_c (v := 15) (a := 15) (by decide)) (ti_c (v := 4) (a := 4) (by decide)) (by decide) dJ6_numberOfTrailingZeros_0f7a4_64 (fun q313 => False.elim (by omega)) (fun q313 => ?_)
    refine gf_iinc (pc := 67) (Nat.le_of_ble_eq_true rfl) rfl e311 (ti_c (by decide)) (by omega) (by omega) dJ6_numberOfTrailingZeros_0f7a4_67 (fun v314 e315 => ?_)
    refine go_lv (lv2 := [(0, .int 15), (1, .int v314)]) rfl ?_
    refine go_iload_n (pc := 70) rfl dJ6_numberOfTrailingZeros_0f7a4_70 ?_
    refine go_iconst (pc := 71) (v := 2) (by decide) dJ6_numberOfTrailingZeros_0f7a4_71 ?_
    refine gx_iushr (pc := 72) dJ6_numberOfTrailingZeros_0f7a4_72 (fun v316 v316x => ?_)
    have v316z : v316 = (3 : Int32) := by rw [v316x]; decide
    subst v316z
    refine go_istore_n (pc := 73) (Nat.le_of_ble_eq_true rfl) dJ6_numberOfTrailingZeros_0f7a4_73 (go_lv (lv2 := [(0, .int 3), (1, .int v314)]) rfl ?_)
    refine go_iload_n (pc := 74) rfl dJ6_numberOfTrailingZeros_0f7a4_74 ?_
    refine go_iload_n (pc := 75) rfl dJ6_numberOfTrailingZeros_0f7a4_75 ?_
    refine go_iconst (pc := 76) (v := 1) (by decide) dJ6_numberOfTrailingZeros_0f7a4_76 ?_
    refine gx_iushr (pc := 77) dJ6_numberOfTrailingZeros_0f7a4_77 (fun v317 v317x => ?_)
    have v317z : v317 = (1 : Int32) := by rw [v317x]; decide
    subst v317z
    refine gf_iadd (pc := 78) e315 (ti_c (v := 1) (a := 1) (by decide)) (by omega) (by omega) dJ6_numberOfTrailingZeros_0f7a4_78 (fun v318 e319 => ?_)
    exact gi_iret (pc := 79) e319 ⟨_, rfl, (by rw [show (v318 : Int32).toInt = ((((1 + 16) + 4) + 2) + 1) from e319]; omega), (by rw [show (v318 : Int32).toInt = ((((1 + 16) + 4) + 2) + 1) from e319]; omega), rfl, ⟨fun q => by have e : a1 = 0 := Int32.toInt_inj.mp (q.trans (by decide)); rw [e] at k2; exact absurd k2.2.1 (by decide), fun _ => by rw [show (v318 : Int32).toInt = ((((1 + 16) + 4) + 2) + 1) from e319]; exact k2⟩⟩ hv dJ6_numberOfTrailingZeros_0f7a4_79
  ·
    have z3 : v3 = (33554431 : Int32) := k3.trans (by decide)
    subst z3
    refine go_iload_n (pc := 8) rfl dJ6_numberOfTrailingZeros_0f7a4_8 ?_
    refine gf_if_gt (pc := 9) (tgt := 17) (ti_c (v := 33554431) (a := 33554431) (by decide)) (by decide) dJ6_numberOfTrailingZeros_0f7a4_9 (fun q320 => ?_) (fun q320 => False.elim (by omega))
    refine go_iconst (pc := 17) (v := 1) (by decide) dJ6_numberOfTrailingZeros_0f7a4_17 ?_
    refine go_istore_n (pc := 18) (Nat.le_of_ble_eq_true rfl) dJ6_numberOfTrailingZeros_0f7a4_18 (go_lv (lv2 := [(0, .int 33554431), (1, .int 1)]) rfl ?_)
    refine go_iload_n (pc := 19) rfl dJ6_numberOfTrailingZeros_0f7a4_19 ?_
    refine go_ldcw (pc := 20) kL_J6_264 dJ6_numberOfTrailingZeros_0f7a4_20 ?_
    refine gf_icmp_le (pc := 23) (tgt := 34) (ti_c (v := 33554431) (a := 33554431) (by decide)) (ti_c (v := 65536) (a := 65536) (by decide)) (by decide) dJ6_numberOfTrailingZeros_0f7a4_23 (fun q321 => False.elim (by omega)) (fun q321 => ?_)
    refine gf_iinc (pc := 26) (Nat.le_of_ble_eq_true rfl) rfl (ti_c (v := 1) (a := 1) (by decide)) (ti_c (by decide)) (by omega) (by omega) dJ6_numberOfTrailingZeros_0f7a4_26 (fun v322 e323 => ?_)
    refine go_lv (lv2 := [(0, .int 33554431), (1, .int v322)]) rfl ?_
    refine go_iload_n (pc := 29) rfl dJ6_numberOfTrailingZeros_0f7a4_29 ?_
    refine go_bipush (pc := 30) (v := 16) (by decide) dJ6_numberOfTrailingZeros_0f7a4_30 ?_
    refine gx_iushr (pc := 32) dJ6_numberOfTrailingZeros_0f7a4_32 (fun v324 v324x => ?_)
    have v324z : v324 = (511 : Int32) := by rw [v324x]; decide
    subst v324z
    refine go_istore_n (pc := 33) (Nat.le_of_ble_eq_true rfl) dJ6_numberOfTrailingZeros_0f7a4_33 (go_lv (lv2 := [(0, .int 511), (1, .int v322)]) rfl ?_)
    refine go_iload_n (pc := 34) rfl dJ6_numberOfTrailingZeros_0f7a4_34 ?_
    refine go_sipush (pc := 35) (v := 256) (by decide) dJ6_numberOfTrailingZeros_0f7a4_35 ?_
    refine gf_icmp_le (pc := 38) (tgt := 49) (ti_c (v := 511) (a := 511) (by decide)) (ti_c (v := 256) (a := 256) (by decide)) (by decide) dJ6_numberOfTrailingZeros_0f7a4_38 (fun q325 => False.elim (by omega)) (fun q325 => ?_)
    refine gf_iinc (pc := 41) (Nat.le_of_ble_eq_true rfl) rfl e323 (ti_c (by decide)) (by omega) (by omega) dJ6_numberOfTrailingZeros_0f7a4_41 (fun v326 e327 => ?_)
    refine go_lv (lv2 := [(0, .int 511), (1, .int v326)]) rfl ?_
    refine go_iload_n (pc := 44) rfl dJ6_numberOfTrailingZeros_0f7a4_44 ?_
    refine go_bipush (pc := 45) (v := 8) (by decide) dJ6_numberOfTrailingZeros_0f7a4_45 ?_
    refine gx_iushr (pc := 47) dJ6_numberOfTrailingZeros_0f7a4_47 (fun v328 v328x => ?_)
    have v328z : v328 = (1 : Int32) := by rw [v328x]; decide
    subst v328z
    refine go_istore_n (pc := 48) (Nat.le_of_ble_eq_true rfl) dJ6_numberOfTrailingZeros_0f7a4_48 (go_lv (lv2 := [(0, .int 1), (1, .int v326)]) rfl ?_)
    refine go_iload_n (pc := 49) rfl dJ6_numberOfTrailingZeros_0f7a4_49 ?_
    refine go_bipush (pc := 50) (v := 16) (by decide) dJ6_numberOfTrailingZeros_0f7a4_50 ?_
    refine gf_icmp_le (pc := 52) (tgt := 62) (ti_c (v := 1) (a := 1) (by decide)) (ti_c (v := 16) (a := 16) (by decide)) (by decide) dJ6_numberOfTrailingZeros_0f7a4_52 (fun q329 => ?_) (fun q329 => False.elim (by omega))
    refine go_iload_n (pc := 62) rfl dJ6_numberOfTrailingZeros_0f7a4_62 ?_
    refine go_iconst (pc := 63) (v := 4) (by decide) dJ6_numberOfTrailingZeros_0f7a4_63 ?_
    refine gf_icmp_le (pc := 64) (tgt := 74) (ti_c (v := 1) (a := 1) (by decide)) (ti_c (v := 4) (a := 4) (by decide)) (by decide) dJ6_numberOfTrailingZeros_0f7a4_64 (fun q330 => ?_) (fun q330 => False.elim (by omega))
    refine go_iload_n (pc := 74) rfl dJ6_numberOfTrailingZeros_0f7a4_74 ?_
    refine go_iload_n (pc := 75) rfl dJ6_numberOfTrailingZeros_0f7a4_75 ?_
    refine go_iconst (pc := 76) (v := 1) (by decide) dJ6_numberOfTrailingZeros_0f7a4_76 ?_
    refine gx_iushr (pc := 77) dJ6_numberOfTrailingZeros_0f7a4_77 (fun v331 v331x => ?_)
    have v331z : v331 = (0 : Int32) := by rw [v331x]; decide
    subst v331z
    refine gf_iadd (pc := 78) e327 (ti_c (v := 0) (a := 0) (by decide)) (by omega) (by omega) dJ6_numberOfTrailingZeros_0f7a4_78 (fun v332 e333 => ?_)
    exact gi_iret (pc := 79) e333 ⟨_, rfl, (by rw [show (v332 : Int32).toInt = (((1 + 16) + 8) + 0) from e333]; omega), (by rw [show (v332 : Int32).toInt = (((1 + 16) + 8) + 0) from e333]; omega), rfl, ⟨fun q => by have e : a1 = 0 := Int32.toInt_inj.mp (q.trans (by decide)); rw [e] at k2; exact absurd k2.2.1 (by decide), fun _ => by rw [show (v332 : Int32).toInt = (((1 + 16) + 8) + 0) from e333]; exact k2⟩⟩ hv dJ6_numberOfTrailingZeros_0f7a4_79
  ·
    have z3 : v3 = (67108863 : Int32) := k3.trans (by decide)
    subst z3
    refine go_iload_n (pc := 8) rfl dJ6_numberOfTrailingZeros_0f7a4_8 ?_
    refine gf_if_gt (pc := 9) (tgt := 17) (ti_c (v := 67108863) (a := 67108863) (by decide)) (by decide) dJ6_numberOfTrailingZeros_0f7a4_9 (fun q334 => ?_) (fun q334 => False.elim (by omega))
    refine go_iconst (pc := 17) (v := 1) (by decide) dJ6_numberOfTrailingZeros_0f7a4_17 ?_
    refine go_istore_n (pc := 18) (Nat.le_of_ble_eq_true rfl) dJ6_numberOfTrailingZeros_0f7a4_18 (go_lv (lv2 := [(0, .int 67108863), (1, .int 1)]) rfl ?_)
    refine go_iload_n (pc := 19) rfl dJ6_numberOfTrailingZeros_0f7a4_19 ?_
    refine go_ldcw (pc := 20) kL_J6_264 dJ6_numberOfTrailingZeros_0f7a4_20 ?_
    refine gf_icmp_le (pc := 23) (tgt := 34) (ti_c (v := 67108863) (a := 67108863) (by decide)) (ti_c (v := 65536) (a := 65536) (by decide)) (by decide) dJ6_numberOfTrailingZeros_0f7a4_23 (fun q335 => False.elim (by omega)) (fun q335 => ?_)
    refine gf_iinc (pc := 26) (Nat.le_of_ble_eq_true rfl) rfl (ti_c (v := 1) (a := 1) (by decide)) (ti_c (by decide)) (by omega) (by omega) dJ6_numberOfTrailingZeros_0f7a4_26 (fun v336 e337 => ?_)
    refine go_lv (lv2 := [(0, .int 67108863), (1, .int v336)]) rfl ?_
    refine go_iload_n (pc := 29) rfl dJ6_numberOfTrailingZeros_0f7a4_29 ?_
    refine go_bipush (pc := 30) (v := 16) (by decide) dJ6_numberOfTrailingZeros_0f7a4_30 ?_
    refine gx_iushr (pc := 32) dJ6_numberOfTrailingZeros_0f7a4_32 (fun v338 v338x => ?_)
    have v338z : v338 = (1023 : Int32) := by rw [v338x]; decide
    subst v338z
    refine go_istore_n (pc := 33) (Nat.le_of_ble_eq_true rfl) dJ6_numberOfTrailingZeros_0f7a4_33 (go_lv (lv2 := [(0, .int 1023), (1, .int v336)]) rfl ?_)
    refine go_iload_n (pc := 34) rfl dJ6_numberOfTrailingZeros_0f7a4_34 ?_
    refine go_sipush (pc := 35) (v := 256) (by decide) dJ6_numberOfTrailingZeros_0f7a4_35 ?_
    refine gf_icmp_le (pc := 38) (tgt := 49) (ti_c (v := 1023) (a := 1023) (by decide)) (ti_c (v := 256) (a := 256) (by decide)) (by decide) dJ6_numberOfTrailingZeros_0f7a4_38 (fun q339 => False.elim (by omega)) (fun q339 => ?_)
    refine gf_iinc (pc := 41) (Nat.le_of_ble_eq_true rfl) rfl e337 (ti_c (by decide)) (by omega) (by omega) dJ6_numberOfTrailingZeros_0f7a4_41 (fun v340 e341 => ?_)
    refine go_lv (lv2 := [(0, .int 1023), (1, .int v340)]) rfl ?_
    refine go_iload_n (pc := 44) rfl dJ6_numberOfTrailingZeros_0f7a4_44 ?_
    refine go_bipush (pc := 45) (v := 8) (by decide) dJ6_numberOfTrailingZeros_0f7a4_45 ?_
    refine gx_iushr (pc := 47) dJ6_numberOfTrailingZeros_0f7a4_47 (fun v342 v342x => ?_)
    have v342z : v342 = (3 : Int32) := by rw [v342x]; decide
    subst v342z
    refine go_istore_n (pc := 48) (Nat.le_of_ble_eq_true rfl) dJ6_numberOfTrailingZeros_0f7a4_48 (go_lv (lv2 := [(0, .int 3), (1, .int v340)]) rfl ?_)
    refine go_iload_n (pc := 49) rfl dJ6_numberOfTrailingZeros_0f7a4_49 ?_
    refine go_bipush (pc := 50) (v := 16) (by decide) dJ6_numberOfTrailingZeros_0f7a4_50 ?_
    refine gf_icmp_le (pc := 52) (tgt := 62) (ti_c (v := 3) (a := 3) (by decide)) (ti_c (v := 16) (a := 16) (by decide)) (by decide) dJ6_numberOfTrailingZeros_0f7a4_52 (fun q343 => ?_) (fun q343 => False.elim (by omega))
    refine go_iload_n (pc := 62) rfl dJ6_numberOfTrailingZeros_0f7a4_62 ?_
    refine go_iconst (pc := 63) (v := 4) (by decide) dJ6_numberOfTrailingZeros_0f7a4_63 ?_
    refine gf_icmp_le (pc := 64) (tgt := 74) (ti_c (v := 3) (a := 3) (by decide)) (ti_c (v := 4) (a := 4) (by decide)) (by decide) dJ6_numberOfTrailingZeros_0f7a4_64 (fun q344 => ?_) (fun q344 => False.elim (by omega))
    refine go_iload_n (pc := 74) rfl dJ6_numberOfTrailingZeros_0f7a4_74 ?_
    refine go_iload_n (pc := 75) rfl dJ6_numberOfTrailingZeros_0f7a4_75 ?_
    refine go_iconst (pc := 76) (v := 1) (by decide) dJ6_numberOfTrailingZeros_0f7a4_76 ?_
    refine gx_iushr (pc := 77) dJ6_numberOfTrailingZeros_0f7a4_77 (fun v345 v345x => ?_)
    have v345z : v345 = (1 : Int32) := by rw [v345x]; decide
    subst v345z
    refine gf_iadd (pc := 78) e341 (ti_c (v := 1) (a := 1) (by decide)) (by omega) (by omega) dJ6_numberOfTrailingZeros_0f7a4_78 (fun v346 e347 => ?_)
    exact gi_iret (pc := 79) e347 ⟨_, rfl, (by rw [show (v346 : Int32).toInt = (((1 + 16) + 8) + 1) from e347]; omega), (by rw [show (v346 : Int32).toInt = (((1 + 16) + 8) + 1) from e347]; omega), rfl, ⟨fun q => by have e : a1 = 0 := Int32.toInt_inj.mp (q.trans (by decide)); rw [e] at k2; exact absurd k2.2.1 (by decide), fun _ => by rw [show (v346 : Int32).toInt = (((1 + 16) + 8) + 1) from e347]; exact k2⟩⟩ hv dJ6_numberOfTrailingZeros_0f7a4_79
  ·
    have z3 : v3 = (134217727 : Int32) := k3.trans (by decide)
    subst z3
    refine go_iload_n (pc := 8) rfl dJ6_numberOfTrailingZeros_0f7a4_8 ?_
    refine gf_if_gt (pc := 9) (tgt := 17) (ti_c (v := 134217727) (a := 134217727) (by decide)) (by decide) dJ6_numberOfTrailingZeros_0f7a4_9 (fun q348 => ?_) (fun q348 => False.elim (by omega))
    refine go_iconst (pc := 17) (v := 1) (by decide) dJ6_numberOfTrailingZeros_0f7a4_17 ?_
    refine go_istore_n (pc := 18) (Nat.le_of_ble_eq_true rfl) dJ6_numberOfTrailingZeros_0f7a4_18 (go_lv (lv2 := [(0, .int 134217727), (1, .int 1)]) rfl ?_)
    refine go_iload_n (pc := 19) rfl dJ6_numberOfTrailingZeros_0f7a4_19 ?_
    refine go_ldcw (pc := 20) kL_J6_264 dJ6_numberOfTrailingZeros_0f7a4_20 ?_
    refine gf_icmp_le (pc := 23) (tgt := 34) (ti_c (v := 134217727) (a := 134217727) (by decide)) (ti_c (v := 65536) (a := 65536) (by decide)) (by decide) dJ6_numberOfTrailingZeros_0f7a4_23 (fun q349 => False.elim (by omega)) (fun q349 => ?_)
    refine gf_iinc (pc := 26) (Nat.le_of_ble_eq_true rfl) rfl (ti_c (v := 1) (a := 1) (by decide)) (ti_c (by decide)) (by omega) (by omega) dJ6_numberOfTrailingZeros_0f7a4_26 (fun v350 e351 => ?_)
    refine go_lv (lv2 := [(0, .int 134217727), (1, .int v350)]) rfl ?_
    refine go_iload_n (pc := 29) rfl dJ6_numberOfTrailingZeros_0f7a4_29 ?_
    refine go_bipush (pc := 30) (v := 16) (by decide) dJ6_numberOfTrailingZeros_0f7a4_30 ?_
    refine gx_iushr (pc := 32) dJ6_numberOfTrailingZeros_0f7a4_32 (fun v352 v352x => ?_)
    have v352z : v352 = (2047 : Int32) := by rw [v352x]; decide
    subst v352z
    refine go_istore_n (pc := 33) (Nat.le_of_ble_eq_true rfl) dJ6_numberOfTrailingZeros_0f7a4_33 (go_lv (lv2 := [(0, .int 2047), (1, .int v350)]) rfl ?_)
    refine go_iload_n (pc := 34) rfl dJ6_numberOfTrailingZeros_0f7a4_34 ?_
    refine go_sipush (pc := 35) (v := 256) (by decide) dJ6_numberOfTrailingZeros_0f7a4_35 ?_
    refine gf_icmp_le (pc := 38) (tgt := 49) (ti_c (v := 2047) (a := 2047) (by decide)) (ti_c (v := 256) (a := 256) (by decide)) (by decide) dJ6_numberOfTrailingZeros_0f7a4_38 (fun q353 => False.elim (by omega)) (fun q353 => ?_)
    refine gf_iinc (pc := 41) (Nat.le_of_ble_eq_true rfl) rfl e351 (ti_c (by decide)) (by omega) (by omega) dJ6_numberOfTrailingZeros_0f7a4_41 (fun v354 e355 => ?_)
    refine go_lv (lv2 := [(0, .int 2047), (1, .int v354)]) rfl ?_
    refine go_iload_n (pc := 44) rfl dJ6_numberOfTrailingZeros_0f7a4_44 ?_
    refine go_bipush (pc := 45) (v := 8) (by decide) dJ6_numberOfTrailingZeros_0f7a4_45 ?_
    refine gx_iushr (pc := 47) dJ6_numberOfTrailingZeros_0f7a4_47 (fun v356 v356x => ?_)
    have v356z : v356 = (7 : Int32) := by rw [v356x]; decide
    subst v356z
    refine go_istore_n (pc := 48) (Nat.le_of_ble_eq_true rfl) dJ6_numberOfTrailingZeros_0f7a4_48 (go_lv (lv2 := [(0, .int 7), (1, .int v354)]) rfl ?_)
    refine go_iload_n (pc := 49) rfl dJ6_numberOfTrailingZeros_0f7a4_49 ?_
    refine go_bipush (pc := 50) (v := 16) (by decide) dJ6_numberOfTrailingZeros_0f7a4_50 ?_
    refine gf_icmp_le (pc := 52) (tgt := 62) (ti_c (v := 7) (a := 7) (by decide)) (ti_c (v := 16) (a := 16) (by decide)) (by decide) dJ6_numberOfTrailingZeros_0f7a4_52 (fun q357 => ?_) (fun q357 => False.elim (by omega))
    refine go_iload_n (pc := 62) rfl dJ6_numberOfTrailingZeros_0f7a4_62 ?_
    refine go_iconst (pc := 63) (v := 4) (by decide) dJ6_numberOfTrailingZeros_0f7a4_63 ?_
    refine gf_icmp_le (pc := 64) (tgt := 74) (ti_c (v := 7) (a := 7) (by decide)) (ti_c (v := 4) (a := 4) (by decide)) (by decide) dJ6_numberOfTrailingZeros_0f7a4_64 (fun q358 => False.elim (by omega)) (fun q358 => ?_)
    refine gf_iinc (pc := 67) (Nat.le_of_ble_eq_true rfl) rfl e355 (ti_c (by decide)) (by omega) (by omega) dJ6_numberOfTrailingZeros_0f7a4_67 (fun v359 e360 => ?_)
    refine go_lv (lv2 := [(0, .int 7), (1, .int v359)]) rfl ?_
    refine go_iload_n (pc := 70) rfl dJ6_numberOfTrailingZeros_0f7a4_70 ?_
    refine go_iconst (pc := 71) (v := 2) (by decide) dJ6_numberOfTrailingZeros_0f7a4_71 ?_
    refine gx_iushr (pc := 72) dJ6_numberOfTrailingZeros_0f7a4_72 (fun v361 v361x => ?_)
    have v361z : v361 = (1 : Int32) := by rw [v361x]; decide
    subst v361z
    refine go_istore_n (pc := 73) (Nat.le_of_ble_eq_true rfl) dJ6_numberOfTrailingZeros_0f7a4_73 (go_lv (lv2 := [(0, .int 1), (1, .int v359)]) rfl ?_)
    refine go_iload_n (pc := 74) rfl dJ6_numberOfTrailingZeros_0f7a4_74 ?_
    refine go_iload_n (pc := 75) rfl dJ6_numberOfTrailingZeros_0f7a4_75 ?_
    refine go_iconst (pc := 76) (v := 1) (by decide) dJ6_numberOfTrailingZeros_0f7a4_76 ?_
    refine gx_iushr (pc := 77) dJ6_numberOfTrailingZeros_0f7a4_77 (fun v362 v362x => ?_)
    have v362z : v362 = (0 : Int32) := by rw [v362x]; decide
    subst v362z
    refine gf_iadd (pc := 78) e360 (ti_c (v := 0) (a := 0) (by decide)) (by omega) (by omega) dJ6_numberOfTrailingZeros_0f7a4_78 (fun v363 e364 => ?_)
    exact gi_iret (pc := 79) e364 ⟨_, rfl, (by rw [show (v363 : Int32).toInt = ((((1 + 16) + 8) + 2) + 0) from e364]; omega), (by rw [show (v363 : Int32).toInt = ((((1 + 16) + 8) + 2) + 0) from e364]; omega), rfl, ⟨fun q => by have e : a1 = 0 := Int32.toInt_inj.mp (q.trans (by decide)); rw [e] at k2; exact absurd k2.2.1 (by decide), fun _ => by rw [show (v363 : Int32).toInt = ((((1 + 16) + 8) + 2) + 0) from e364]; exact k2⟩⟩ hv dJ6_numberOfTrailingZeros_0f7a4_79
  ·
    have z3 : v3 = (268435455 : Int32) := k3.trans (by decide)
    subst z3
    refine go_iload_n (pc := 8) rfl dJ6_numberOfTrailingZeros_0f7a4_8 ?_
    refine gf_if_gt (pc := 9) (tgt := 17) (ti_c (v := 268435455) (a := 268435455) (by decide)) (by decide) dJ6_numberOfTrailingZeros_0f7a4_9 (fun q365 => ?_) (fun q365 => False.elim (by omega))
    refine go_iconst (pc := 17) (v := 1) (by decide) dJ6_numberOfTrailingZeros_0f7a4_17 ?_
    refine go_istore_n (pc := 18) (Nat.le_of_ble_eq_true rfl) dJ6_numberOfTrailingZeros_0f7a4_18 (go_lv (lv2 := [(0, .int 268435455), (1, .int 1)]) rfl ?_)
    refine go_iload_n (pc := 19) rfl dJ6_numberOfTrailingZeros_0f7a4_19 ?_
    refine go_ldcw (pc := 20) kL_J6_264 dJ6_numberOfTrailingZeros_0f7a4_20 ?_
    refine gf_icmp_le (pc := 23) (tgt := 34) (ti_c (v := 268435455) (a := 268435455) (by decide)) (ti_c (v := 65536) (a := 65536) (by decide)) (by decide) dJ6_numberOfTrailingZeros_0f7a4_23 (fun q366 => False.elim (by omega)) (fun q366 => ?_)
    refine gf_iinc (pc := 26) (Nat.le_of_ble_eq_true rfl) rfl (ti_c (v := 1) (a := 1) (by decide)) (ti_c (by decide)) (by omega) (by omega) dJ6_numberOfTrailingZeros_0f7a4_26 (fun v367 e368 => ?_)
    refine go_lv (lv2 := [(0, .int 268435455), (1, .int v367)]) rfl ?_
    refine go_iload_n (pc := 29) rfl dJ6_numberOfTrailingZeros_0f7a4_29 ?_
    refine go_bipush (pc := 30) (v := 16) (by decide) dJ6_numberOfTrailingZeros_0f7a4_30 ?_
    refine gx_iushr (pc := 32) dJ6_numberOfTrailingZeros_0f7a4_32 (fun v369 v369x => ?_)
    have v369z : v369 = (4095 : Int32) := by rw [v369x]; decide
    subst v369z
    refine go_istore_n (pc := 33) (Nat.le_of_ble_eq_true rfl) dJ6_numberOfTrailingZeros_0f7a4_33 (go_lv (lv2 := [(0, .int 4095), (1, .int v367)]) rfl ?_)
    refine go_iload_n (pc := 34) rfl dJ6_numberOfTrailingZeros_0f7a4_34 ?_
    refine go_sipush (pc := 35) (v := 256) (by decide) dJ6_numberOfTrailingZeros_0f7a4_35 ?_
    refine gf_icmp_le (pc := 38) (tgt := 49) (ti_c (v := 4095) (a := 4095) (by decide)) (ti_c (v := 256) (a := 256) (by decide)) (by decide) dJ6_numberOfTrailingZeros_0f7a4_38 (fun q370 => False.elim (by omega)) (fun q370 => ?_)
    refine gf_iinc (pc := 41) (Nat.le_of_ble_eq_true rfl) rfl e368 (ti_c (by decide)) (by omega) (by omega) dJ6_numberOfTrailingZeros_0f7a4_41 (fun v371 e372 => ?_)
    refine go_lv (lv2 := [(0, .int 4095), (1, .int v371)]) rfl ?_
    refine go_iload_n (pc := 44) rfl dJ6_numberOfTrailingZeros_0f7a4_44 ?_
    refine go_bipush (pc := 45) (v := 8) (by decide) dJ6_numberOfTrailingZeros_0f7a4_45 ?_
    refine gx_iushr (pc := 47) dJ6_numberOfTrailingZeros_0f7a4_47 (fun v373 v373x => ?_)
    have v373z : v373 = (15 : Int32) := by rw [v373x]; decide
    subst v373z
    refine go_istore_n (pc := 48) (Nat.le_of_ble_eq_true rfl) dJ6_numberOfTrailingZeros_0f7a4_48 (go_lv (lv2 := [(0, .int 15), (1, .int v371)]) rfl ?_)
    refine go_iload_n (pc := 49) rfl dJ6_numberOfTrailingZeros_0f7a4_49 ?_
    refine go_bipush (pc := 50) (v := 16) (by decide) dJ6_numberOfTrailingZeros_0f7a4_50 ?_
    refine gf_icmp_le (pc := 52) (tgt := 62) (ti_c (v := 15) (a := 15) (by decide)) (ti_c (v := 16) (a := 16) (by decide)) (by decide) dJ6_numberOfTrailingZeros_0f7a4_52 (fun q374 => ?_) (fun q374 => False.elim (by omega))
    refine go_iload_n (pc := 62) rfl dJ6_numberOfTrailingZeros_0f7a4_62 ?_
    refine go_iconst (pc := 63) (v := 4) (by decide) dJ6_numberOfTrailingZeros_0f7a4_63 ?_
    refine gf_icmp_le (pc := 64) (tgt := 74) (ti_c (v := 15) (a := 15) (by decide)) (ti_c (v := 4) (a := 4) (by decide)) (by decide) dJ6_numberOfTrailingZeros_0f7a4_64 (fun q375 => False.elim (by omega)) (fun q375 => ?_)
    refine gf_iinc (pc := 67) (Nat.le_of_ble_eq_true rfl) rfl e372 (ti_c (by decide)) (by omega) (by omega) dJ6_numberOfTrailingZeros_0f7a4_67 (fun v376 e377 => ?_)
    refine go_lv (lv2 := [(0, .int 15), (1, .int v376)]) rfl ?_
    refine go_iload_n (pc := 70) rfl dJ6_numberOfTrailingZeros_0f7a4_70 ?_
    refine go_iconst (pc := 71) (v := 2) (by decide) dJ6_numberOfTrailingZeros_0f7a4_71 ?_
    refine gx_iushr (pc := 72) dJ6_numberOfTrailingZeros_0f7a4_72 (fun v378 v378x => ?_)
    have v378z : v378 = (3 : Int32) := by rw [v378x]; decide
    subst v378z
    refine go_istore_n (pc := 73) (Nat.le_of_ble_eq_true rfl) dJ6_numberOfTrailingZeros_0f7a4_73 (go_lv (lv2 := [(0, .int 3), (1, .int v376)]) rfl ?_)
    refine go_iload_n (pc := 74) rfl dJ6_numberOfTrailingZeros_0f7a4_74 ?_
    refine go_iload_n (pc := 75) rfl dJ6_numberOfTrailingZeros_0f7a4_75 ?_
    refine go_iconst (pc := 76) (v := 1) (by decide) dJ6_numberOfTrailingZeros_0f7a4_76 ?_
    refine gx_iushr (pc := 77) dJ6_numberOfTrailingZeros_0f7a4_77 (fun v379 v379x => ?_)
    have v379z : v379 = (1 : Int32) := by rw [v379x]; decide
    subst v379z
    refine gf_iadd (pc := 78) e377 (ti_c (v := 1) (a := 1) (by decide)) (by omega) (by omega) dJ6_numberOfTrailingZeros_0f7a4_78 (fun v380 e381 => ?_)
    exact gi_iret (pc := 79) e381 ⟨_, rfl, (by rw [show (v380 : Int32).toInt = ((((1 + 16) + 8) + 2) + 1) from e381]; omega), (by rw [show (v380 : Int32).toInt = ((((1 + 16) + 8) + 2) + 1) from e381]; omega), rfl, ⟨fun q => by have e : a1 = 0 := Int32.toInt_inj.mp (q.trans (by decide)); rw [e] at k2; exact absurd k2.2.1 (by decide), fun _ => by rw [show (v380 : Int32).toInt = ((((1 + 16) + 8) + 2) + 1) from e381]; exact k2⟩⟩ hv dJ6_numberOfTrailingZeros_0f7a4_79
  ·
    have z3 : v3 = (536870911 : Int32) := k3.trans (by decide)
    subst z3
    refine go_iload_n (pc := 8) rfl dJ6_numberOfTrailingZeros_0f7a4_8 ?_
    refine gf_if_gt (pc := 9) (tgt := 17) (ti_c (v := 536870911) (a := 536870911) (by decide)) (by decide) dJ6_numberOfTrailingZeros_0f7a4_9 (fun q382 => ?_) (fun q382 => False.elim (by omega))
    refine go_iconst (pc := 17) (v := 1) (by decide) dJ6_numberOfTrailingZeros_0f7a4_17 ?_
    refine go_istore_n (pc := 18) (Nat.le_of_ble_eq_true rfl) dJ6_numberOfTrailingZeros_0f7a4_18 (go_lv (lv2 := [(0, .int 536870911), (1, .int 1)]) rfl ?_)
    refine go_iload_n (pc := 19) rfl dJ6_numberOfTrailingZeros_0f7a4_19 ?_
    refine go_ldcw (pc := 20) kL_J6_264 dJ6_numberOfTrailingZeros_0f7a4_20 ?_
    refine gf_icmp_le (pc := 23) (tgt := 34) (ti_c (v := 536870911) (a := 536870911) (by decide)) (ti_c (v := 65536) (a := 65536) (by decide)) (by decide) dJ6_numberOfTrailingZeros_0f7a4_23 (fun q383 => False.elim (by omega)) (fun q383 => ?_)
    refine gf_iinc (pc := 26) (Nat.le_of_ble_eq_true rfl) rfl (ti_c (v := 1) (a := 1) (by decide)) (ti_c (by decide)) (by omega) (by omega) dJ6_numberOfTrailingZeros_0f7a4_26 (fun v384 e385 => ?_)
    refine go_lv (lv2 := [(0, .int 536870911), (1, .int v384)]) rfl ?_
    refine go_iload_n (pc := 29) rfl dJ6_numberOfTrailingZeros_0f7a4_29 ?_
    refine go_bipush (pc := 30) (v := 16) (by decide) dJ6_numberOfTrailingZeros_0f7a4_30 ?_
    refine gx_iushr (pc := 32) dJ6_numberOfTrailingZeros_0f7a4_32 (fun v386 v386x => ?_)
    have v386z : v386 = (8191 : Int32) := by rw [v386x]; decide
    subst v386z
    refine go_istore_n (pc := 33) (Nat.le_of_ble_eq_true rfl) dJ6_numberOfTrailingZeros_0f7a4_33 (go_lv (lv2 := [(0, .int 8191), (1, .int v384)]) rfl ?_)
    refine go_iload_n (pc := 34) rfl dJ6_numberOfTrailingZeros_0f7a4_34 ?_
    refine go_sipush (pc := 35) (v := 256) (by decide) dJ6_numberOfTrailingZeros_0f7a4_35 ?_
    refine gf_icmp_le (pc := 38) (tgt := 49) (ti_c (v := 8191) (a := 8191) (by decide)) (ti_c (v := 256) (a := 256) (by decide)) (by decide) dJ6_numberOfTrailingZeros_0f7a4_38 (fun q387 => False.elim (by omega)) (fun q387 => ?_)
    refine gf_iinc (pc := 41) (Nat.le_of_ble_eq_true rfl) rfl e385 (ti_c (by decide)) (by omega) (by omega) dJ6_numberOfTrailingZeros_0f7a4_41 (fun v388 e389 => ?_)
    refine go_lv (lv2 := [(0, .int 8191), (1, .int v388)]) rfl ?_
    refine go_iload_n (pc := 44) rfl dJ6_numberOfTrailingZeros_0f7a4_44 ?_
    refine go_bipush (pc := 45) (v := 8) (by decide) dJ6_numberOfTrailingZeros_0f7a4_45 ?_
    refine gx_iushr (pc := 47) dJ6_numberOfTrailingZeros_0f7a4_47 (fun v390 v390x => ?_)
    have v390z : v390 = (31 : Int32) := by rw [v390x]; decide
    subst v390z
    refine go_istore_n (pc := 48) (Nat.le_of_ble_eq_true rfl) dJ6_numberOfTrailingZeros_0f7a4_48 (go_lv (lv2 := [(0, .int 31), (1, .int v388)]) rfl ?_)
    refine go_iload_n (pc := 49) rfl dJ6_numberOfTrailingZeros_0f7a4_49 ?_
    refine go_bipush (pc := 50) (v := 16) (by decide) dJ6_numberOfTrailingZeros_0f7a4_50 ?_
    refine gf_icmp_le (pc := 52) (tgt := 62) (ti_c (v := 31) (a := 31) (by decide)) (ti_c (v := 16) (a := 16) (by decide)) (by decide) dJ6_numberOfTrailingZeros_0f7a4_52 (fun q391 => False.elim (by omega)) (fun q391 => ?_)
    refine gf_iinc (pc := 55) (Nat.le_of_ble_eq_true rfl) rfl e389 (ti_c (by decide)) (by omega) (by omega) dJ6_numberOfTrailingZeros_0f7a4_55 (fun v392 e393 => ?_)
    refine go_lv (lv2 := [(0, .int 31), (1, .int v392)]) rfl ?_
    refine go_iload_n (pc := 58) rfl dJ6_numberOfTrailingZeros_0f7a4_58 ?_
    refine go_iconst (pc := 59) (v := 4) (by decide) dJ6_numberOfTrailingZeros_0f7a4_59 ?_
    refine gx_iushr (pc := 60) dJ6_numberOfTrailingZeros_0f7a4_60 (fun v394 v394x => ?_)
    have v394z : v394 = (1 : Int32) := by rw [v394x]; decide
    subst v394z
    refine go_istore_n (pc := 61) (Nat.le_of_ble_eq_true rfl) dJ6_numberOfTrailingZeros_0f7a4_61 (go_lv (lv2 := [(0, .int 1), (1, .int v392)]) rfl ?_)
    refine go_iload_n (pc := 62) rfl dJ6_numberOfTrailingZeros_0f7a4_62 ?_
    refine go_iconst (pc := 63) (v := 4) (by decide) dJ6_numberOfTrailingZeros_0f7a4_63 ?_
    refine gf_icmp_le (pc := 64) (tgt := 74) (ti_c (v := 1) (a := 1) (by decide)) (ti_c (v := 4) (a := 4) (by decide)) (by decide) dJ6_numberOfTrailingZeros_0f7a4_64 (fun q395 => ?_) (fun q395 => False.elim (by omega))
    refine go_iload_n (pc := 74) rfl dJ6_numberOfTrailingZeros_0f7a4_74 ?_
    refine go_iload_n (pc := 75) rfl dJ6_numberOfTrailingZeros_0f7a4_75 ?_
    refine go_iconst (pc := 76) (v := 1) (by decide) dJ6_numberOfTrailingZeros_0f7a4_76 ?_
    refine gx_iushr (pc := 77) dJ6_numberOfTrailingZeros_0f7a4_77 (fun v396 v396x => ?_)
    have v396z : v396 = (0 : Int32) := by rw [v396x]; decide
    subst v396z
    refine gf_iadd (pc := 78) e393 (ti_c (v := 0) (a := 0) (by decide)) (by omega) (by omega) dJ6_numberOfTrailingZeros_0f7a4_78 (fun v397 e398 => ?_)
    exact gi_iret (pc := 79) e398 ⟨_, rfl, (by rw [show (v397 : Int32).toInt = ((((1 + 16) + 8) + 4) + 0) from e398]; omega), (by rw [show (v397 : Int32).toInt = ((((1 + 16) + 8) + 4) + 0) from e398]; omega), rfl, ⟨fun q => by have e : a1 = 0 := Int32.toInt_inj.mp (q.trans (by decide)); rw [e] at k2; exact absurd k2.2.1 (by decide), fun _ => by rw [show (v397 : Int32).toInt = ((((1 + 16) + 8) + 4) + 0) from e398]; exact k2⟩⟩ hv dJ6_numberOfTrailingZeros_0f7a4_79
  ·
    have z3 : v3 = (1073741823 : Int32) := k3.trans (by decide)
    subst z3
    refine go_iload_n (pc := 8) rfl dJ6_numberOfTrailingZeros_0f7a4_8 ?_
    refine gf_if_gt (pc := 9) (tgt := 17) (ti_c (v := 1073741823) (a := 1073741823) (by decide)) (by decide) dJ6_numberOfTrailingZeros_0f7a4_9 (fun q399 => ?_) (fun q399 => False.elim (by omega))
    refine go_iconst (pc := 17) (v := 1) (by decide) dJ6_numberOfTrailingZeros_0f7a4_17 ?_
    refine go_istore_n (pc := 18) (Nat.le_of_ble_eq_true rfl) dJ6_numberOfTrailingZeros_0f7a4_18 (go_lv (lv2 := [(0, .int 1073741823), (1, .int 1)]) rfl ?_)
    refine go_iload_n (pc := 19) rfl dJ6_numberOfTrailingZeros_0f7a4_19 ?_
    refine go_ldcw (pc := 20) kL_J6_264 dJ6_numberOfTrailingZeros_0f7a4_20 ?_
    refine gf_icmp_le (pc := 23) (tgt := 34) (ti_c (v := 1073741823) (a := 1073741823) (by decide)) (ti_c (v := 65536) (a := 65536) (by decide)) (by decide) dJ6_numberOfTrailingZeros_0f7a4_23 (fun q400 => False.elim (by omega)) (fun q400 => ?_)
    refine gf_iinc (pc := 26) (Nat.le_of_ble_eq_true rfl) rfl (ti_c (v := 1) (a := 1) (by decide)) (ti_c (by decide)) (by omega) (by omega) dJ6_numberOfTrailingZeros_0f7a4_26 (fun v401 e402 => ?_)
    refine go_lv (lv2 := [(0, .int 1073741823), (1, .int v401)]) rfl ?_
    refine go_iload_n (pc := 29) rfl dJ6_numberOfTrailingZeros_0f7a4_29 ?_
    refine go_bipush (pc := 30) (v := 16) (by decide) dJ6_numberOfTrailingZeros_0f7a4_30 ?_
    refine gx_iushr (pc := 32) dJ6_numberOfTrailingZeros_0f7a4_32 (fun v403 v403x => ?_)
    have v403z : v403 = (16383 : Int32) := by rw [v403x]; decide
    subst v403z
    refine go_istore_n (pc := 33) (Nat.le_of_ble_eq_true rfl) dJ6_numberOfTrailingZeros_0f7a4_33 (go_lv (lv2 := [(0, .int 16383), (1, .int v401)]) rfl ?_)
    refine go_iload_n (pc := 34) rfl dJ6_numberOfTrailingZeros_0f7a4_34 ?_
    refine go_sipush (pc := 35) (v := 256) (by decide) dJ6_numberOfTrailingZeros_0f7a4_35 ?_
    refine gf_icmp_le (pc := 38) (tgt := 49) (ti_c (v := 16383) (a := 16383) (by decide)) (ti_c (v := 256) (a := 256) (by decide)) (by decide) dJ6_numberOfTrailingZeros_0f7a4_38 (fun q404 => False.elim (by omega)) (fun q404 => ?_)
    refine gf_iinc (pc := 41) (Nat.le_of_ble_eq_true rfl) rfl e402 (ti_c (by decide)) (by omega) (by omega) dJ6_numberOfTrailingZeros_0f7a4_41 (fun v405 e406 => ?_)
    refine go_lv (lv2 := [(0, .int 16383), (1, .int v405)]) rfl ?_
    refine go_iload_n (pc := 44) rfl dJ6_numberOfTrailingZeros_0f7a4_44 ?_
    refine go_bipush (pc := 45) (v := 8) (by decide) dJ6_numberOfTrailingZeros_0f7a4_45 ?_
    refine gx_iushr (pc := 47) dJ6_numberOfTrailingZeros_0f7a4_47 (fun v407 v407x => ?_)
    have v407z : v407 = (63 : Int32) := by rw [v407x]; decide
    subst v407z
    refine go_istore_n (pc := 48) (Nat.le_of_ble_eq_true rfl) dJ6_numberOfTrailingZeros_0f7a4_48 (go_lv (lv2 := [(0, .int 63), (1, .int v405)]) rfl ?_)
    refine go_iload_n (pc := 49) rfl dJ6_numberOfTrailingZeros_0f7a4_49 ?_
    refine go_bipush (pc := 50) (v := 16) (by decide) dJ6_numberOfTrailingZeros_0f7a4_50 ?_
    refine gf_icmp_le (pc := 52) (tgt := 62) (ti_c (v := 63) (a := 63) (by decide)) (ti_c (v := 16) (a := 16) (by decide)) (by decide) dJ6_numberOfTrailingZeros_0f7a4_52 (fun q408 => False.elim (by omega)) (fun q408 => ?_)
    refine gf_iinc (pc := 55) (Nat.le_of_ble_eq_true rfl) rfl e406 (ti_c (by decide)) (by omega) (by omega) dJ6_numberOfTrailingZeros_0f7a4_55 (fun v409 e410 => ?_)
    refine go_lv (lv2 := [(0, .int 63), (1, .int v409)]) rfl ?_
    refine go_iload_n (pc := 58) rfl dJ6_numberOfTrailingZeros_0f7a4_58 ?_
    refine go_iconst (pc := 59) (v := 4) (by decide) dJ6_numberOfTrailingZeros_0f7a4_59 ?_
    refine gx_iushr (pc := 60) dJ6_numberOfTrailingZeros_0f7a4_60 (fun v411 v411x => ?_)
    have v411z : v411 = (3 : Int32) := by rw [v411x]; decide
    subst v411z
    refine go_istore_n (pc := 61) (Nat.le_of_ble_eq_true rfl) dJ6_numberOfTrailingZeros_0f7a4_61 (go_lv (lv2 := [(0, .int 3), (1, .int v409)]) rfl ?_)
    refine go_iload_n (pc := 62) rfl dJ6_numberOfTrailingZeros_0f7a4_62 ?_
    refine go_iconst (pc := 63) (v := 4) (by decide) dJ6_numberOfTrailingZeros_0f7a4_63 ?_
    refine gf_icmp_le (pc := 64) (tgt := 74) (ti_c (v := 3) (a := 3) (by decide)) (ti_c (v := 4) (a := 4) (by decide)) (by decide) dJ6_numberOfTrailingZeros_0f7a4_64 (fun q412 => ?_) (fun q412 => False.elim (by omega))
    refine go_iload_n (pc := 74) rfl dJ6_numberOfTrailingZeros_0f7a4_74 ?_
    refine go_iload_n (pc := 75) rfl dJ6_numberOfTrailingZeros_0f7a4_75 ?_
    refine go_iconst (pc := 76) (v := 1) (by decide) dJ6_numberOfTrailingZeros_0f7a4_76 ?_
    refine gx_iushr (pc := 77) dJ6_numberOfTrailingZeros_0f7a4_77 (fun v413 v413x => ?_)
    have v413z : v413 = (1 : Int32) := by rw [v413x]; decide
    subst v413z
    refine gf_iadd (pc := 78) e410 (ti_c (v := 1) (a := 1) (by decide)) (by omega) (by omega) dJ6_numberOfTrailingZeros_0f7a4_78 (fun v414 e415 => ?_)
    exact gi_iret (pc := 79) e415 ⟨_, rfl, (by rw [show (v414 : Int32).toInt = ((((1 + 16) + 8) + 4) + 1) from e415]; omega), (by rw [show (v414 : Int32).toInt = ((((1 + 16) + 8) + 4) + 1) from e415]; omega), rfl, ⟨fun q => by have e : a1 = 0 := Int32.toInt_inj.mp (q.trans (by decide)); rw [e] at k2; exact absurd k2.2.1 (by decide), fun _ => by rw [show (v414 : Int32).toInt = ((((1 + 16) + 8) + 4) + 1) from e415]; exact k2⟩⟩ hv dJ6_numberOfTrailingZeros_0f7a4_79
  ·
    have z3 : v3 = (2147483647 : Int32) := k3.trans (by decide)
    subst z3
    refine go_iload_n (pc := 8) rfl dJ6_numberOfTrailingZeros_0f7a4_8 ?_
    refine gf_if_gt (pc := 9) (tgt := 17) (ti_c (v := 2147483647) (a := 2147483647) (by decide)) (by decide) dJ6_numberOfTrailingZeros_0f7a4_9 (fun q416 => ?_) (fun q416 => False.elim (by omega))
    refine go_iconst (pc := 17) (v := 1) (by decide) dJ6_numberOfTrailingZeros_0f7a4_17 ?_
    refine go_istore_n (pc := 18) (Nat.le_of_ble_eq_true rfl) dJ6_numberOfTrailingZeros_0f7a4_18 (go_lv (lv2 := [(0, .int 2147483647), (1, .int 1)]) rfl ?_)
    refine go_iload_n (pc := 19) rfl dJ6_numberOfTrailingZeros_0f7a4_19 ?_
    refine go_ldcw (pc := 20) kL_J6_264 dJ6_numberOfTrailingZeros_0f7a4_20 ?_
    refine gf_icmp_le (pc := 23) (tgt := 34) (ti_c (v := 2147483647) (a := 2147483647) (by decide)) (ti_c (v := 65536) (a := 65536) (by decide)) (by decide) dJ6_numberOfTrailingZeros_0f7a4_23 (fun q417 => False.elim (by omega)) (fun q417 => ?_)
    refine gf_iinc (pc := 26) (Nat.le_of_ble_eq_true rfl) rfl (ti_c (v := 1) (a := 1) (by decide)) (ti_c (by decide)) (by omega) (by omega) dJ6_numberOfTrailingZeros_0f7a4_26 (fun v418 e419 => ?_)
    refine go_lv (lv2 := [(0, .int 2147483647), (1, .int v418)]) rfl ?_
    refine go_iload_n (pc := 29) rfl dJ6_numberOfTrailingZeros_0f7a4_29 ?_
    refine go_bipush (pc := 30) (v := 16) (by decide) dJ6_numberOfTrailingZeros_0f7a4_30 ?_
    refine gx_iushr (pc := 32) dJ6_numberOfTrailingZeros_0f7a4_32 (fun v420 v420x => ?_)
    have v420z : v420 = (32767 : Int32) := by rw [v420x]; decide
    subst v420z
    refine go_istore_n (pc := 33) (Nat.le_of_ble_eq_true rfl) dJ6_numberOfTrailingZeros_0f7a4_33 (go_lv (lv2 := [(0, .int 32767), (1, .int v418)]) rfl ?_)
    refine go_iload_n (pc := 34) rfl dJ6_numberOfTrailingZeros_0f7a4_34 ?_
    refine go_sipush (pc := 35) (v := 256) (by decide) dJ6_numberOfTrailingZeros_0f7a4_35 ?_
    refine gf_icmp_le (pc := 38) (tgt := 49) (ti_c (v := 32767) (a := 32767) (by decide)) (ti_c (v := 256) (a := 256) (by decide)) (by decide) dJ6_numberOfTrailingZeros_0f7a4_38 (fun q421 => False.elim (by omega)) (fun q421 => ?_)
    refine gf_iinc (pc := 41) (Nat.le_of_ble_eq_true rfl) rfl e419 (ti_c (by decide)) (by omega) (by omega) dJ6_numberOfTrailingZeros_0f7a4_41 (fun v422 e423 => ?_)
    refine go_lv (lv2 := [(0, .int 32767), (1, .int v422)]) rfl ?_
    refine go_iload_n (pc := 44) rfl dJ6_numberOfTrailingZeros_0f7a4_44 ?_
    refine go_bipush (pc := 45) (v := 8) (by decide) dJ6_numberOfTrailingZeros_0f7a4_45 ?_
    refine gx_iushr (pc := 47) dJ6_numberOfTrailingZeros_0f7a4_47 (fun v424 v424x => ?_)
    have v424z : v424 = (127 : Int32) := by rw [v424x]; decide
    subst v424z
    refine go_istore_n (pc := 48) (Nat.le_of_ble_eq_true rfl) dJ6_numberOfTrailingZeros_0f7a4_48 (go_lv (lv2 := [(0, .int 127), (1, .int v422)]) rfl ?_)
    refine go_iload_n (pc := 49) rfl dJ6_numberOfTrailingZeros_0f7a4_49 ?_
    refine go_bipush (pc := 50) (v := 16) (by decide) dJ6_numberOfTrailingZeros_0f7a4_50 ?_
    refine gf_icmp_le (pc := 52) (tgt := 62) (ti_c (v := 127) (a := 127) (by decide)) (ti_c (v := 16) (a := 16) (by decide)) (by decide) dJ6_numberOfTrailingZeros_0f7a4_52 (fun q425 => False.elim (by omega)) (fun q425 => ?_)
    refine gf_iinc (pc := 55) (Nat.le_of_ble_eq_true rfl) rfl e423 (ti_c (by decide)) (by omega) (by omega) dJ6_numberOfTrailingZeros_0f7a4_55 (fun v426 e427 => ?_)
    refine go_lv (lv2 := [(0, .int 127), (1, .int v426)]) rfl ?_
    refine go_iload_n (pc := 58) rfl dJ6_numberOfTrailingZeros_0f7a4_58 ?_
    refine go_iconst (pc := 59) (v := 4) (by decide) dJ6_numberOfTrailingZeros_0f7a4_59 ?_
    refine gx_iushr (pc := 60) dJ6_numberOfTrailingZeros_0f7a4_60 (fun v428 v428x => ?_)
    have v428z : v428 = (7 : Int32) := by rw [v428x]; decide
    subst v428z
    refine go_istore_n (pc := 61) (Nat.le_of_ble_eq_true rfl) dJ6_numberOfTrailingZeros_0f7a4_61 (go_lv (lv2 := [(0, .int 7), (1, .int v426)]) rfl ?_)
    refine go_iload_n (pc := 62) rfl dJ6_numberOfTrailingZeros_0f7a4_62 ?_
    refine go_iconst (pc := 63) (v := 4) (by decide) dJ6_numberOfTrailingZeros_0f7a4_63 ?_
    refine gf_icmp_le (pc := 64) (tgt := 74) (ti_c (v := 7) (a := 7) (by decide)) (ti_c (v := 4) (a := 4) (by decide)) (by decide) dJ6_numberOfTrailingZeros_0f7a4_64 (fun q429 => False.elim (by omega)) (fun q429 => ?_)
    refine gf_iinc (pc := 67) (Nat.le_of_ble_eq_true rfl) rfl e427 (ti_c (by decide)) (by omega) (by omega) dJ6_numberOfTrailingZeros_0f7a4_67 (fun v430 e431 => ?_)
    refine go_lv (lv2 := [(0, .int 7), (1, .int v430)]) rfl ?_
    refine go_iload_n (pc := 70) rfl dJ6_numberOfTrailingZeros_0f7a4_70 ?_
    refine go_iconst (pc := 71) (v := 2) (by decide) dJ6_numberOfTrailingZeros_0f7a4_71 ?_
    refine gx_iushr (pc := 72) dJ6_numberOfTrailingZeros_0f7a4_72 (fun v432 v432x => ?_)
    have v432z : v432 = (1 : Int32) := by rw [v432x]; decide
    subst v432z
    refine go_istore_n (pc := 73) (Nat.le_of_ble_eq_true rfl) dJ6_numberOfTrailingZeros_0f7a4_73 (go_lv (lv2 := [(0, .int 1), (1, .int v430)]) rfl ?_)
    refine go_iload_n (pc := 74) rfl dJ6_numberOfTrailingZeros_0f7a4_74 ?_
    refine go_iload_n (pc := 75) rfl dJ6_numberOfTrailingZeros_0f7a4_75 ?_
    refine go_iconst (pc := 76) (v := 1) (by decide) dJ6_numberOfTrailingZeros_0f7a4_76 ?_
    refine gx_iushr (pc := 77) dJ6_numberOfTrailingZeros_0f7a4_77 (fun v433 v433x => ?_)
    have v433z : v433 = (0 : Int32) := by rw [v433x]; decide
    subst v433z
    refine gf_iadd (pc := 78) e431 (ti_c (v := 0) (a := 0) (by decide)) (by omega) (by omega) dJ6_numberOfTrailingZeros_0f7a4_78 (fun v434 e435 => ?_)
    exact gi_iret (pc := 79) e435 ⟨_, rfl, (by rw [show (v434 : Int32).toInt = (((((1 + 16) + 8) + 4) + 2) + 0) from e435]; omega), (by rw [show (v434 : Int32).toInt = (((((1 + 16) + 8) + 4) + 2) + 0) from e435]; omega), rfl, ⟨fun q => by have e : a1 = 0 := Int32.toInt_inj.mp (q.trans (by decide)); rw [e] at k2; exact absurd k2.2.1 (by decide), fun _ => by rw [show (v434 : Int32).toInt = (((((1 + 16) + 8) + 4) + 2) + 0) from e435]; exact k2⟩⟩ hv dJ6_numberOfTrailingZeros_0f7a4_79
set_option maxHeartbeats 4000000 in
set_option maxRecDepth 100000 in
theorem s_J13_numberOfTrailingZeros_95d88 (l : Launch) (d : Nat) {P : PP} {h : HP} (hv : Iv P h) (a1 : Int64) : Mt l yJ13_numberOfTrailingZeros_95d88 cJ13_numberOfTrailingZeros_95d88 3 (some .int) (d + 2) [.long a1] h 0 0 (fun r h' => ∃ v : Int32, r = some (.int v) ∧ 0 ≤ v.toInt ∧ v.toInt ≤ 64 ∧ h = h' ∧ (¬ a1 = 0 → v.toInt ≤ 63 ∧ LB a1.toBitVec v.toInt.toNat)) := by
  refine Mt_iv hv (by decide) (Nat.le_of_ble_eq_true rfl) ?_
  show Go l RJ13 cJ13_numberOfTrailingZeros_95d88 3 (g_rm (d + 2) 0 0) "numberOfTrailingZeros" (some .int) 117 0 0 (fun _ _ => True) (fun r h' => ∃ v : Int32, r = some (.int v) ∧ 0 ≤ v.toInt ∧ v.toInt ≤ 64 ∧ h = h' ∧ (¬ a1 = 0 → v.toInt ≤ 63 ∧ LB a1.toBitVec v.toInt.toNat)) 0 0 [(0, .long a1)] [] h
  refine go_lload_n (pc := 0) rfl dJ13_numberOfTrailingZeros_95d88_0 ?_
  refine gx_l2i (pc := 1) dJ13_numberOfTrailingZeros_95d88_1 (fun v1 v1x => ?_)
  refine go_istore_n (pc := 2) (Nat.le_of_ble_eq_true rfl) dJ13_numberOfTrailingZeros_95d88_2 (go_lv (lv2 := [(0, .long a1), (2, .int v1)]) rfl ?_)
  refine go_iload_n (pc := 3) rfl dJ13_numberOfTrailingZeros_95d88_3 ?_
  refine gf_if_ne (pc := 4) (tgt := 21) (ti_rfl v1) (by decide) dJ13_numberOfTrailingZeros_95d88_4 (fun q2 => ?_) (fun q2 => ?_)
  ·
    refine go_iload_n (pc := 21) rfl dJ13_numberOfTrailingZeros_95d88_21 ?_
    refine go_invS (pc := 22) (sl := 0) (s_J6_numberOfTrailingZeros_0f7a4 l (d + 0) hv v1) mL_J13_311 iM_J6_numberOfTrailingZeros_0f7a4 rfl rfl (Nat.le_of_ble_eq_true rfl) (show d + 0 + 1 + 1 ≤ d + 2 by omega) (show 8 + (2 + 11) + 40 * (d + 0 + 1) ≤ 40 * (d + 2) by omega) (g_c0 hv.ln) (Nat.le_of_ble_eq_true rfl) dJ13_numberOfTrailingZeros_95d88_22 ?_
    intro r h3 hq _
    obtain ⟨v5, rfl, v5l, v5u, rfl, f4⟩ := hq
    exact gi_iret (pc := 25) (ti_rfl v5) ⟨_, rfl, (by rw [show (v5 : Int32).toInt = v5.toInt from (ti_rfl v5)]; omega), (by rw [show (v5 : Int32).toInt = v5.toInt from (ti_rfl v5)]; omega), rfl, (fun _ => by have q := f4.2 (by omega); rw [v1x] at q; have q2 := q.1; exact ⟨by omega, low_lo q⟩)⟩ hv dJ13_numberOfTrailingZeros_95d88_25
  ·
    refine go_bipush (pc := 7) (v := 32) (by decide) dJ13_numberOfTrailingZeros_95d88_7 ?_
    refine go_lload_n (pc := 9) rfl dJ13_numberOfTrailingZeros_95d88_9 ?_
    refine go_bipush (pc := 10) (v := 32) (by decide) dJ13_numberOfTrailingZeros_95d88_10 ?_
    refine gx_lushr (pc := 12) dJ13_numberOfTrailingZeros_95d88_12 (fun v6 v6x => ?_)
    refine gx_l2i (pc := 13) dJ13_numberOfTrailingZeros_95d88_13 (fun v7 v7x => ?_)
    refine go_invS (pc := 14) (sl := 0) (s_J6_numberOfTrailingZeros_0f7a4 l (d + 0) hv v7) mL_J13_311 iM_J6_numberOfTrailingZeros_0f7a4 rfl rfl (Nat.le_of_ble_eq_true rfl) (show d + 0 + 1 + 1 ≤ d + 2 by omega) (show 8 + (2 + 11) + 40 * (d + 0 + 1) ≤ 40 * (d + 2) by omega) (g_c0 hv.ln) (Nat.le_of_ble_eq_true rfl) dJ13_numberOfTrailingZeros_95d88_14 ?_
    intro r h8 hq _
    obtain ⟨v10, rfl, v10l, v10u, rfl, f9⟩ := hq
    refine gf_iadd (pc := 17) (ti_c (v := 32) (a := 32) (by decide)) (ti_rfl v10) (by omega) (by omega) dJ13_numberOfTrailingZeros_95d88_17 (fun v11 e12 => ?_)
    refine go_goto (pc := 18) (tgt := 25) (by decide) dJ13_numberOfTrailingZeros_95d88_18 ?_
    have nl : ¬ a1 = 0 → (v11 : Int32).toInt ≤ 63 ∧ LB a1.toBitVec (v11 : Int32).toInt.toNat := by
      intro q
      have z0 : a1.toInt32 = 0 := by rw [← v1x]; exact Int32.toInt_inj.mp (show v1.toInt = (0 : Int32).toInt from (show v1.toInt = 0 by omega).trans (by decide))
      have hy : ∀ j, j < 32 → v6.toInt32.toBitVec.getLsbD j = a1.toBitVec.getLsbD (32 + j) := fun j hj => by rw [v6x]; exact hi_bits a1 j hj
      have nz : ¬ v7.toInt = 0 := fun z => q (zero_halves z0 hy (by rw [← v7x]; exact Int32.toInt_inj.mp (z.trans (by decide))))
      have lb := f9.2 nz
      rw [v7x] at lb
      have lb1 := lb.1
      have ev : (v11 : Int32).toInt = (32 + v10.toInt) := e12
      refine ⟨by omega, ?_⟩
      rw [show (v11 : Int32).toInt.toNat = 32 + v10.toInt.toNat by omega]
      exact low_hi z0 hy lb
    exact gi_iret (pc := 25) e12 ⟨_, rfl, (by rw [show (v11 : Int32).toInt = (32 + v10.toInt) from e12]; omega), (by rw [show (v11 : Int32).toInt = (32 + v10.toInt) from e12]; omega), rfl, nl⟩ hv dJ13_numberOfTrailingZeros_95d88_25

