/-! bits of longs and of ints, more -/
theorem land_r {x y : Int64} {j : Int} : bt (o_land x y) j ↔ bt x j ∧ bt y j := by
  unfold o_land bt
  rw [Int64.toBitVec_and, BitVec.getLsbD_and, Bool.and_eq_true]
theorem lxor_r {x y : Int64} {j : Int} : bt (o_lxor x y) j ↔ ¬ (bt x j ↔ bt y j) := by
  unfold o_lxor bt
  rw [Int64.toBitVec_xor, BitVec.getLsbD_xor]
  cases x.toBitVec.getLsbD j.toNat <;> cases y.toBitVec.getLsbD j.toNat <;> simp
theorem bt_ge {x : Int64} {j : Int} (h : 64 ≤ j) : ¬ bt x j := by
  unfold bt
  rw [BitVec.getLsbD_of_ge _ _ (by omega)]
  decide
theorem bt_ext {x y : Int64} (h : ∀ j, 0 ≤ j → j < 64 → (bt x j ↔ bt y j)) : x = y := by
  refine Int64.toBitVec_inj.mp (BitVec.eq_of_getLsbD_eq (fun i hi => ?_))
  have q := h (i : Int) (by omega) (by omega)
  unfold bt at q
  rw [show ((i : Int)).toNat = i from Int.toNat_natCast i] at q
  cases h1 : x.toBitVec.getLsbD i <;> cases h2 : y.toBitVec.getLsbD i <;> rw [h1, h2] at q <;> simp at q <;> rfl
theorem shl_r {v j : Int} (h0 : 0 ≤ v) (h1 : v ≤ 63) (hj : 0 ≤ j) : bt (o_lshl 1 v) j ↔ j = v := bit_r (s := (fun _ _ => 0, fun _ _ => 0, fun _ _ => 0)) h0 h1 hj
theorem lowb_tab : ∀ j : Fin 64, (((1099511627775 : Int64).toBitVec.getLsbD j.val = true ↔ j.val < 40) ∧ ((-1099511627776 : Int64).toBitVec.getLsbD j.val = true ↔ 40 ≤ j.val) ∧ (-1 : Int64).toBitVec.getLsbD j.val = true ∧ ¬ (0 : Int64).toBitVec.getLsbD j.val = true) := by decide +kernel
theorem low_r {j : Int} (h0 : 0 ≤ j) : bt 1099511627775 j ↔ j < 40 := by
  by_cases h : j < 64
  · have t := (lowb_tab ⟨j.toNat, by omega⟩).1
    unfold bt
    rw [t]
    dsimp only
    omega
  · exact ⟨fun q => absurd q (bt_ge (by omega)), fun q => by omega⟩
theorem high_r {j : Int} (h0 : 0 ≤ j) (h1 : j < 64) : bt (-1099511627776) j ↔ 40 ≤ j := by
  have t := (lowb_tab ⟨j.toNat, by omega⟩).2.1
  unfold bt
  rw [t]
  dsimp only
  omega
theorem all_1 {j : Int} (h0 : 0 ≤ j) (h1 : j < 64) : bt (-1) j := (lowb_tab ⟨j.toNat, by omega⟩).2.2.1
theorem not_r {x : Int64} {j : Int} (h0 : 0 ≤ j) (h1 : j < 64) : bt (o_lxor x (-1)) j ↔ ¬ bt x j := by
  rw [lxor_r]
  have a := all_1 h0 h1
  exact ⟨fun q z => q ⟨fun _ => a, fun _ => z⟩, fun q z => q (z.mpr a)⟩
theorem lcmp_r {x y : Int64} : o_lcmp x y = 0 ↔ x = y := cmp_eq x y
theorem bt_0 {j : Int} : ¬ bt 0 j := bt_zero
theorem has2_r {s : ST} {x : Int64} {k : Int} (h0 : 0 ≤ k) (h1 : k ≤ 63) : f_X8_has2 s x k = 0 ↔ ¬ bt x k := by
  unfold f_X8_has2
  repeat rewrite [bd_r]
  have e := ofI h0 (by omega)
  have b := has_bit (x := x) (k := Int32.ofInt k) (by omega) (by omega)
  rw [e] at b
  have c : o_lcmp (o_land (o_lshr x k) 1) 1 = 0 ↔ bt x k := by
    rw [lcmp_r, ← b]
    rfl
  by_cases z : bt x k
  · rw [if_neg (fun y => y (c.mpr z))]
    exact ⟨fun y => absurd y (by decide), fun y => absurd z y⟩
  · rw [if_pos (fun y => z (c.mp y))]
    exact ⟨fun _ => z, fun _ => rfl⟩
theorem hasx2_r {s : ST} {x : Int64} {k : Int} (h0 : 0 ≤ k) (h1 : k ≤ 63) : f_X8_has_x2 s x k = 0 ↔ ¬ bt x k := has2_r (s := s) h0 h1
/-- bits of an int -/
def ib (v k : Int) : Prop := (Int32.ofInt v).toBitVec.getLsbD k.toNat = true
theorem ib_or {v k j : Int} (h0 : 0 ≤ k) (h1 : k ≤ 31) (j0 : 0 ≤ j) (j1 : j < 32) : ib (o_ior v (o_ishl 1 k)) j ↔ ib v j ∨ j = k := by
  unfold ib o_ior o_ishl p_ior p_ishl
  rw [Int32.ofInt_toInt, Int32.ofInt_toInt]
  have e := ofI h0 (by omega)
  have q := or_bit (x := Int32.ofInt v) (k := Int32.ofInt k) (by omega) (by omega) (show j.toNat < 32 by omega)
  rw [e] at q
  have e1 : Int32.ofInt 1 = (1 : Int32) := by decide
  rw [e1]
  refine q.trans (or_congr Iff.rfl ?_)
  omega
theorem ib_us {v k : Int} (h0 : 0 ≤ k) (h1 : k ≤ 31) : o_iand (o_iushr v k) 1 = 1 ↔ ib v k := by
  unfold ib o_iand o_iushr p_iand p_iushr
  rw [Int32.ofInt_toInt]
  have e := ofI h0 (by omega)
  have q := ur_bit (x := Int32.ofInt v) (k := Int32.ofInt k) (by omega) (by omega)
  rw [e] at q
  have e1 : Int32.ofInt 1 = (1 : Int32) := by decide
  rw [e1]
  exact q
theorem ib_0 {k : Int} : ¬ ib 0 k := by
  unfold ib
  have e : (Int32.ofInt 0).toBitVec = 0#32 := by decide
  rw [e, BitVec.getLsbD_zero]
  decide
/-- small flags -/
theorem ior_01 {x y : Int} (hx : x = 0 ∨ x = 1) (hy : y = 0 ∨ y = 1) : (o_ior x y = 0 ∨ o_ior x y = 1) ∧ (o_ior x y = 0 ↔ x = 0 ∧ y = 0) := by
  rcases hx with rfl | rfl <;> rcases hy with rfl | rfl <;> decide
theorem sL_eq (s : ST) (c j : Nat) (a : Int64) : (sL s c j a).2.1 c j = a := if_pos ⟨rfl, rfl⟩
theorem sL_ne {s : ST} {c j p q : Nat} {a : Int64} (h : ¬ (p = c ∧ q = j)) : (sL s c j a).2.1 p q = s.2.1 p q := if_neg h

