def TI (v : Int32) (a : Int) : Prop := v.toInt = a
theorem ti_rfl (v : Int32) : TI v v.toInt := rfl
theorem ti_lo (v : Int32) : -2147483648 ≤ v.toInt := by have := Int32.le_toInt v; omega
theorem ti_hi (v : Int32) : v.toInt ≤ 2147483647 := by have := Int32.toInt_lt v; omega
theorem ti_bmod {a : Int} (h1 : -2147483648 ≤ a) (h2 : a ≤ 2147483647) : a.bmod (2 ^ 32) = a := by
  rw [Int.bmod_eq_of_le] <;> omega
theorem ti_add {x y : Int32} {a b : Int} (ex : TI x a) (ey : TI y b) (h1 : -2147483648 ≤ a + b) (h2 : a + b ≤ 2147483647) : TI (x + y) (a + b) := by
  unfold TI at *
  rw [Int32.toInt_add, ex, ey]
  exact ti_bmod h1 h2
theorem ti_sub {x y : Int32} {a b : Int} (ex : TI x a) (ey : TI y b) (h1 : -2147483648 ≤ a - b) (h2 : a - b ≤ 2147483647) : TI (x - y) (a - b) := by
  unfold TI at *
  rw [Int32.toInt_sub, ex, ey]
  exact ti_bmod h1 h2
theorem ti_mul {x y : Int32} {a b : Int} (ex : TI x a) (ey : TI y b) (h1 : -2147483648 ≤ a * b) (h2 : a * b ≤ 2147483647) : TI (x * y) (a * b) := by
  unfold TI at *
  rw [Int32.toInt_mul, ex, ey]
  exact ti_bmod h1 h2
theorem ti_div {x y : Int32} {a b : Int} (ex : TI x a) (ey : TI y b) (h0 : 0 ≤ a) (hb : 0 < b) : TI (x / y) (a / b) := by
  unfold TI at *
  have hx := ti_hi x
  rw [Int32.toInt_div, ex, ey, Int.tdiv_eq_ediv_of_nonneg h0]
  have h1 : 0 ≤ a / b := Int.ediv_nonneg h0 (Int.le_of_lt hb)
  have h2 : a / b ≤ a := Int.ediv_le_self b h0
  exact ti_bmod (by omega) (by omega)
theorem ti_rem {x y : Int32} {a b : Int} (ex : TI x a) (ey : TI y b) (h0 : 0 ≤ a) (hb : 0 < b) : TI (x - x / y * y) (a % b) := by
  have hx : a ≤ 2147483647 := by unfold TI at ex; rw [← ex]; exact ti_hi x
  have h1 : 0 ≤ a / b := Int.ediv_nonneg h0 (Int.le_of_lt hb)
  have h3 : a / b * b ≤ a := Int.ediv_mul_le a (by omega)
  have h4 : 0 ≤ a / b * b := Int.mul_nonneg h1 (Int.le_of_lt hb)
  have e1 := ti_mul (ti_div ex ey h0 hb) ey (by omega) (by omega)
  have e2 := ti_sub ex e1 (by omega) (by omega)
  have e3 : a - a / b * b = a % b := by rw [Int.emod_def, Int.mul_comm]
  rw [e3] at e2
  exact e2
theorem ti_lt {x y : Int32} {a b : Int} (ex : TI x a) (ey : TI y b) : x < y ↔ a < b := by unfold TI at *; rw [Int32.lt_iff_toInt_lt, ex, ey]
theorem ti_le {x y : Int32} {a b : Int} (ex : TI x a) (ey : TI y b) : x ≤ y ↔ a ≤ b := by unfold TI at *; rw [Int32.le_iff_toInt_le, ex, ey]
theorem ti_eq {x y : Int32} {a b : Int} (ex : TI x a) (ey : TI y b) : x = y ↔ a = b := by unfold TI at *; rw [← Int32.toInt_inj, ex, ey]
theorem ti_c {v : Int32} {a : Int} (h : v.toInt = a) : TI v a := h
theorem ti_0 : TI 0 0 := ti_c (by decide)
theorem ti_in {x : Int32} {a : Int} {n : Nat} (ex : TI x a) (h0 : 0 ≤ a) (hn : a < n) : vp_in x n := by
  unfold TI at ex
  have h1 : (x.toNatClampNeg : Int) = a := by show ((x.toInt.toNat : Nat) : Int) = a; rw [ex]; omega
  rintro (h | h)
  · have := (ti_lt (ti_rfl x) ti_0).mp h
    omega
  · omega
theorem ti_ix {x : Int32} {a : Int} (ex : TI x a) (h0 : 0 ≤ a) : x.toNatClampNeg = a.toNat := by
  unfold TI at ex
  have h1 : (x.toNatClampNeg : Int) = a := by show ((x.toInt.toNat : Nat) : Int) = a; rw [ex]; omega
  omega
theorem ti_bool {v : Int32} (h0 : 0 ≤ v.toInt) (h1 : v.toInt ≤ 1) : v = 0 ∨ v = 1 := by
  have : v.toInt = 0 ∨ v.toInt = 1 := by omega
  rcases this with q | q
  · exact Or.inl (Int32.toInt_inj.mp q)
  · exact Or.inr (Int32.toInt_inj.mp q)
theorem ti_nb {v : Int32} (h0 : 0 ≤ v.toInt) (h1 : v.toInt ≤ 1) : narrow .boolean (.int v) = .int v := by
  rcases ti_bool h0 h1 with rfl | rfl <;> rfl
theorem ti_fb {v : Int32} (h0 : 0 ≤ v.toInt) (h1 : v.toInt ≤ 1) : fits .boolean (.int v) = true := by
  rcases ti_bool h0 h1 with rfl | rfl <;> rfl
theorem ti_ge {x : Int32} {a : Int} (e : TI x a) : -2147483648 ≤ a := by unfold TI at e; rw [← e]; exact ti_lo x
theorem ti_le2 {x : Int32} {a : Int} (e : TI x a) : a ≤ 2147483647 := by unfold TI at e; rw [← e]; exact ti_hi x
theorem ti_mask {x y : Int32} {b : Int} (ey : TI y b) (hb : 0 ≤ b) : 0 ≤ (x &&& y).toInt ∧ (x &&& y).toInt ≤ b := by
  have e1 : (x &&& y).toBitVec.toNat ≤ y.toBitVec.toNat := by rw [Int32.toBitVec_and, BitVec.toNat_and]; exact Nat.and_le_right
  have e2 : y.toInt = _ := BitVec.toInt_eq_toNat_cond y.toBitVec
  have e3 : (x &&& y).toInt = _ := BitVec.toInt_eq_toNat_cond (x &&& y).toBitVec
  unfold TI at ey
  rw [ey] at e2
  have l1 := y.toBitVec.isLt
  split at e2 <;> split at e3 <;> omega
theorem ti_orB {x y : Int32} {a b : Int} (ex : TI x a) (ey : TI y b) (h1 : 0 ≤ a) (h2 : a ≤ 1) (h3 : 0 ≤ b) (h4 : b ≤ 1) : 0 ≤ (x ||| y).toInt ∧ (x ||| y).toInt ≤ 1 := by
  unfold TI at *
  rcases ti_bool (v := x) (by omega) (by omega) with rfl | rfl <;> rcases ti_bool (v := y) (by omega) (by omega) with rfl | rfl <;> decide
/-! what a method does, as a function of the state: ints as integers, longs, and which code a reference names -/
abbrev ST : Type := (Nat → Nat → Int) × (Nat → Nat → Int64) × (Nat → Nat → Nat)
def sI (s : ST) (c j : Nat) (a : Int) : ST := (fun p q => if p = c ∧ q = j then a else s.1 p q, s.2.1, s.2.2)
def sL (s : ST) (c j : Nat) (a : Int64) : ST := (s.1, fun p q => if p = c ∧ q = j then a else s.2.1 p q, s.2.2)
def sR (s : ST) (c j k : Nat) : ST := (s.1, s.2.1, fun p q => if p = c ∧ q = j then k else s.2.2 p q)
def bd {α β : Type} (x : β) (K : β → α) : α := K x
def bd2 {α β γ : Type} (x : β × γ) (K : β → γ → α) : α := K x.1 x.2
theorem bd_e {α β : Type} {fin : α} {x y : β} {K : β → α} (h : fin = bd x K) (e : x = y) : fin = K y := by subst e; exact h
theorem bd2_e {α β γ : Type} {fin : α} {x : β × γ} {a : β} {b : γ} {K : β → γ → α} (h : fin = bd2 x K) (e : (a, b) = x) : fin = K a b := by subst e; exact h
theorem if_t {α : Type} {fin A B : α} {c : Prop} {_ : Decidable c} (h : fin = if c then A else B) (q : c) : fin = A := by rw [h, if_pos q]
theorem if_f {α : Type} {fin A B : α} {c : Prop} {_ : Decidable c} (h : fin = if c then A else B) (q : ¬ c) : fin = B := by rw [h, if_neg q]
theorem ti_of {x : Int32} {a : Int} (t : TI x a) : Int32.ofInt a = x := by unfold TI at t; rw [← t, Int32.ofInt_toInt]
def o_i2b (a : Int) : Int := ((Int32.ofInt a).toInt8.toInt32).toInt
theorem so_i2b {x v : Int32} {a : Int} (t : TI x a) (e : v = x.toInt8.toInt32) : o_i2b a = v.toInt := by unfold o_i2b; rw [ti_of t, e]
def p_iadd (x y : Int32) : Int32 := x + y
def o_iadd (a b : Int) : Int := (p_iadd (Int32.ofInt a) (Int32.ofInt b)).toInt
theorem so_iadd {x y v : Int32} {a b : Int} (t : TI x a) (u : TI y b) (e : v = x + y) : o_iadd a b = v.toInt := by unfold o_iadd; rw [ti_of t, ti_of u, e]; rfl
def p_isub (x y : Int32) : Int32 := x - y
def o_isub (a b : Int) : Int := (p_isub (Int32.ofInt a) (Int32.ofInt b)).toInt
theorem so_isub {x y v : Int32} {a b : Int} (t : TI x a) (u : TI y b) (e : v = x - y) : o_isub a b = v.toInt := by unfold o_isub; rw [ti_of t, ti_of u, e]; rfl
def p_imul (x y : Int32) : Int32 := x * y
def o_imul (a b : Int) : Int := (p_imul (Int32.ofInt a) (Int32.ofInt b)).toInt
theorem so_imul {x y v : Int32} {a b : Int} (t : TI x a) (u : TI y b) (e : v = x * y) : o_imul a b = v.toInt := by unfold o_imul; rw [ti_of t, ti_of u, e]; rfl
def p_iand (x y : Int32) : Int32 := x &&& y
def o_iand (a b : Int) : Int := (p_iand (Int32.ofInt a) (Int32.ofInt b)).toInt
theorem so_iand {x y v : Int32} {a b : Int} (t : TI x a) (u : TI y b) (e : v = x &&& y) : o_iand a b = v.toInt := by unfold o_iand; rw [ti_of t, ti_of u, e]; rfl
def p_ior (x y : Int32) : Int32 := x ||| y
def o_ior (a b : Int) : Int := (p_ior (Int32.ofInt a) (Int32.ofInt b)).toInt
theorem so_ior {x y v : Int32} {a b : Int} (t : TI x a) (u : TI y b) (e : v = x ||| y) : o_ior a b = v.toInt := by unfold o_ior; rw [ti_of t, ti_of u, e]; rfl
def p_ixor (x y : Int32) : Int32 := x ^^^ y
def o_ixor (a b : Int) : Int := (p_ixor (Int32.ofInt a) (Int32.ofInt b)).toInt
theorem so_ixor {x y v : Int32} {a b : Int} (t : TI x a) (u : TI y b) (e : v = x ^^^ y) : o_ixor a b = v.toInt := by unfold o_ixor; rw [ti_of t, ti_of u, e]; rfl
def p_ishl (x y : Int32) : Int32 := x <<< (y &&& 31)
def o_ishl (a b : Int) : Int := (p_ishl (Int32.ofInt a) (Int32.ofInt b)).toInt
theorem so_ishl {x y v : Int32} {a b : Int} (t : TI x a) (u : TI y b) (e : v = x <<< (y &&& 31)) : o_ishl a b = v.toInt := by unfold o_ishl; rw [ti_of t, ti_of u, e]; rfl
def p_ishr (x y : Int32) : Int32 := x >>> (y &&& 31)
def o_ishr (a b : Int) : Int := (p_ishr (Int32.ofInt a) (Int32.ofInt b)).toInt
theorem so_ishr {x y v : Int32} {a b : Int} (t : TI x a) (u : TI y b) (e : v = x >>> (y &&& 31)) : o_ishr a b = v.toInt := by unfold o_ishr; rw [ti_of t, ti_of u, e]; rfl
def p_iushr (x y : Int32) : Int32 := (x.toUInt32 >>> (y.toUInt32 &&& Int32.toUInt32 31)).toInt32
def o_iushr (a b : Int) : Int := (p_iushr (Int32.ofInt a) (Int32.ofInt b)).toInt
theorem so_iushr {x y v : Int32} {a b : Int} (t : TI x a) (u : TI y b) (e : v = (x.toUInt32 >>> (y.toUInt32 &&& Int32.toUInt32 31)).toInt32) : o_iushr a b = v.toInt := by unfold o_iushr; rw [ti_of t, ti_of u, e]; rfl
def o_ladd (x y : Int64) : Int64 := x + y
theorem so_ladd {x y v : Int64} (e : v = x + y) : o_ladd x y = v := e.symm
def o_lsub (x y : Int64) : Int64 := x - y
theorem so_lsub {x y v : Int64} (e : v = x - y) : o_lsub x y = v := e.symm
def o_land (x y : Int64) : Int64 := x &&& y
theorem so_land {x y v : Int64} (e : v = x &&& y) : o_land x y = v := e.symm
def o_lor (x y : Int64) : Int64 := x ||| y
theorem so_lor {x y v : Int64} (e : v = x ||| y) : o_lor x y = v := e.symm
def o_lxor (x y : Int64) : Int64 := x ^^^ y
theorem so_lxor {x y v : Int64} (e : v = x ^^^ y) : o_lxor x y = v := e.symm
def p_lshl (x : Int64) (y : Int32) : Int64 := x <<< (y.toInt64 &&& 63)
def o_lshl (x : Int64) (b : Int) : Int64 := p_lshl x (Int32.ofInt b)
theorem so_lshl {x v : Int64} {y : Int32} {b : Int} (u : TI y b) (e : v = x <<< (y.toInt64 &&& 63)) : o_lshl x b = v := by unfold o_lshl; rw [ti_of u, e]; rfl
def p_lshr (x : Int64) (y : Int32) : Int64 := x >>> (y.toInt64 &&& 63)
def o_lshr (x : Int64) (b : Int) : Int64 := p_lshr x (Int32.ofInt b)
theorem so_lshr {x v : Int64} {y : Int32} {b : Int} (u : TI y b) (e : v = x >>> (y.toInt64 &&& 63)) : o_lshr x b = v := by unfold o_lshr; rw [ti_of u, e]; rfl
def p_lushr (x : Int64) (y : Int32) : Int64 := (x.toUInt64 >>> (y.toInt64.toUInt64 &&& Int64.toUInt64 63)).toInt64
def o_lushr (x : Int64) (b : Int) : Int64 := p_lushr x (Int32.ofInt b)
theorem so_lushr {x v : Int64} {y : Int32} {b : Int} (u : TI y b) (e : v = (x.toUInt64 >>> (y.toInt64.toUInt64 &&& Int64.toUInt64 63)).toInt64) : o_lushr x b = v := by unfold o_lushr; rw [ti_of u, e]; rfl
def o_i2l (a : Int) : Int64 := (Int32.ofInt a).toInt64
theorem so_i2l {x : Int32} {v : Int64} {a : Int} (t : TI x a) (e : v = x.toInt64) : o_i2l a = v := by unfold o_i2l; rw [ti_of t, e]
def o_l2i (x : Int64) : Int := x.toInt32.toInt
theorem so_l2i {x : Int64} {v : Int32} (e : v = x.toInt32) : o_l2i x = v.toInt := by rw [e]; rfl
def o_lcmp (x y : Int64) : Int := (lg_cmp x y).toInt
theorem so_lcmp {x y : Int64} {v : Int32} (e : v = lg_cmp x y) : o_lcmp x y = v.toInt := by rw [e]; rfl
