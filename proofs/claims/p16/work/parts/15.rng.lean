/-! numbers as integers: 'TI v a': v is the int a -/
def TI (v : Int32) (a : Int) : Prop := v.toInt = a
theorem ti_rfl (v : Int32) : TI v v.toInt := rfl
theorem ti_lo (v : Int32) : -2147483648 ≤ v.toInt := by have := Int32.le_toInt v; omega
theorem ti_hi (v : Int32) : v.toInt ≤ 2147483647 := by have := Int32.toInt_lt v; omega
theorem ti_bmod {a : Int} (h1 : -2147483648 ≤ a) (h2 : a ≤ 2147483647) : a.bmod (2 ^ 32) = a := by
  rw [Int.bmod_eq_of_le] <;> omega
theorem ti_add {x y : Int32} {a b : Int} (ex : TI x a) (ey : TI y b) (h1 : -2147483648 ≤ a + b) (h2 : a + b ≤ 2147483647) : TI (x + y) (a + b) := by
  unfold TI at *
  rw [Int32.toInt_add, ex, ey]
  exact ti_bmod h1 h2
theorem ti_sub {x y : Int32} {a b : Int} (ex : TI x a) (ey : TI y b) (h1 : -2147483648 ≤ a - b) (h2 : a - b ≤ 2147483647) : TI (x - y) (a - b) := by
  unfold TI at *
  rw [Int32.toInt_sub, ex, ey]
  exact ti_bmod h1 h2
theorem ti_mul {x y : Int32} {a b : Int} (ex : TI x a) (ey : TI y b) (h1 : -2147483648 ≤ a * b) (h2 : a * b ≤ 2147483647) : TI (x * y) (a * b) := by
  unfold TI at *
  rw [Int32.toInt_mul, ex, ey]
  exact ti_bmod h1 h2
theorem ti_div {x y : Int32} {a b : Int} (ex : TI x a) (ey : TI y b) (h0 : 0 ≤ a) (hb : 0 < b) : TI (x / y) (a / b) := by
  unfold TI at *
  have hx := ti_hi x
  rw [Int32.toInt_div, ex, ey, Int.tdiv_eq_ediv_of_nonneg h0]
  have h1 : 0 ≤ a / b := Int.ediv_nonneg h0 (Int.le_of_lt hb)
  have h2 : a / b ≤ a := Int.ediv_le_self b h0
  exact ti_bmod (by omega) (by omega)
theorem ti_rem {x y : Int32} {a b : Int} (ex : TI x a) (ey : TI y b) (h0 : 0 ≤ a) (hb : 0 < b) : TI (x - x / y * y) (a % b) := by
  have hx : a ≤ 2147483647 := by unfold TI at ex; rw [← ex]; exact ti_hi x
  have h1 : 0 ≤ a / b := Int.ediv_nonneg h0 (Int.le_of_lt hb)
  have h3 : a / b * b ≤ a := Int.ediv_mul_le a (by omega)
  have h4 : 0 ≤ a / b * b := Int.mul_nonneg h1 (Int.le_of_lt hb)
  have e1 := ti_mul (ti_div ex ey h0 hb) ey (by omega) (by omega)
  have e2 := ti_sub ex e1 (by omega) (by omega)
  have e3 : a - a / b * b = a % b := by rw [Int.emod_def, Int.mul_comm]
  rw [e3] at e2
  exact e2
theorem ti_lt {x y : Int32} {a b : Int} (ex : TI x a) (ey : TI y b) : x < y ↔ a < b := by unfold TI at *; rw [Int32.lt_iff_toInt_lt, ex, ey]
theorem ti_le {x y : Int32} {a b : Int} (ex : TI x a) (ey : TI y b) : x ≤ y ↔ a ≤ b := by unfold TI at *; rw [Int32.le_iff_toInt_le, ex, ey]
theorem ti_eq {x y : Int32} {a b : Int} (ex : TI x a) (ey : TI y b) : x = y ↔ a = b := by unfold TI at *; rw [← Int32.toInt_inj, ex, ey]
theorem ti_c {v : Int32} {a : Int} (h : v.toInt = a) : TI v a := h
theorem ti_0 : TI 0 0 := ti_c (by decide)
theorem ti_in {x : Int32} {a : Int} {n : Nat} (ex : TI x a) (h0 : 0 ≤ a) (hn : a < n) : vp_in x n := by
  unfold TI at ex
  have h1 : (x.toNatClampNeg : Int) = a := by show ((x.toInt.toNat : Nat) : Int) = a; rw [ex]; omega
  rintro (h | h)
  · have := (ti_lt (ti_rfl x) ti_0).mp h
    omega
  · omega
theorem ti_ix {x : Int32} {a : Int} (ex : TI x a) (h0 : 0 ≤ a) : x.toNatClampNeg = a.toNat := by
  unfold TI at ex
  have h1 : (x.toNatClampNeg : Int) = a := by show ((x.toInt.toNat : Nat) : Int) = a; rw [ex]; omega
  omega
theorem ti_bool {v : Int32} (h0 : 0 ≤ v.toInt) (h1 : v.toInt ≤ 1) : v = 0 ∨ v = 1 := by
  have : v.toInt = 0 ∨ v.toInt = 1 := by omega
  rcases this with q | q
  · exact Or.inl (Int32.toInt_inj.mp q)
  · exact Or.inr (Int32.toInt_inj.mp q)
theorem ti_nb {v : Int32} (h0 : 0 ≤ v.toInt) (h1 : v.toInt ≤ 1) : narrow .boolean (.int v) = .int v := by
  rcases ti_bool h0 h1 with rfl | rfl <;> rfl
theorem ti_fb {v : Int32} (h0 : 0 ≤ v.toInt) (h1 : v.toInt ≤ 1) : fits .boolean (.int v) = true := by
  rcases ti_bool h0 h1 with rfl | rfl <;> rfl
theorem ti_ge {x : Int32} {a : Int} (e : TI x a) : -2147483648 ≤ a := by unfold TI at e; rw [← e]; exact ti_lo x
theorem ti_le2 {x : Int32} {a : Int} (e : TI x a) : a ≤ 2147483647 := by unfold TI at e; rw [← e]; exact ti_hi x
theorem ti_mask {x y : Int32} {b : Int} (ey : TI y b) (hb : 0 ≤ b) : 0 ≤ (x &&& y).toInt ∧ (x &&& y).toInt ≤ b := by
  have e1 : (x &&& y).toBitVec.toNat ≤ y.toBitVec.toNat := by rw [Int32.toBitVec_and, BitVec.toNat_and]; exact Nat.and_le_right
  have e2 : y.toInt = _ := BitVec.toInt_eq_toNat_cond y.toBitVec
  have e3 : (x &&& y).toInt = _ := BitVec.toInt_eq_toNat_cond (x &&& y).toBitVec
  unfold TI at ey
  rw [ey] at e2
  have l1 := y.toBitVec.isLt
  split at e2 <;> split at e3 <;> omega
theorem ti_orB {x y : Int32} {a b : Int} (ex : TI x a) (ey : TI y b) (h1 : 0 ≤ a) (h2 : a ≤ 1) (h3 : 0 ≤ b) (h4 : b ≤ 1) : 0 ≤ (x ||| y).toInt ∧ (x ||| y).toInt ≤ 1 := by
  unfold TI at *
  rcases ti_bool (v := x) (by omega) (by omega) with rfl | rfl <;> rcases ti_bool (v := y) (by omega) (by omega) with rfl | rfl <;> decide
section GF
variable {l : Launch} {own : String} {cc : ByteArray} {nL : Nat} {R : Room} {nm : String} {rt : Option FieldType} {n0 mc ms : Nat} {Xf : Nat → State → Prop} {Qf : Option Value → HP → Prop} {sl pc : Nat} {lv : List (Nat × Value)} {st : List Value} {h : HP}
theorem gf_iadd {x y : Int32} {a b : Int} (ex : TI x a) (ey : TI y b) (h1 : -2147483648 ≤ a + b) (h2 : a + b ≤ 2147483647) (hd : decode cc pc = .ok (.iadd, 1)) (k : ∀ v : Int32, TI v (a + b) → Go l own cc nL R nm rt n0 mc ms Xf Qf sl (pc + 1) lv (.int v :: st) h) : Go l own cc nL R nm rt n0 mc ms Xf Qf sl pc lv (.int y :: .int x :: st) h := go_iadd hd (k _ (ti_add ex ey h1 h2))
theorem gf_isub {x y : Int32} {a b : Int} (ex : TI x a) (ey : TI y b) (h1 : -2147483648 ≤ a - b) (h2 : a - b ≤ 2147483647) (hd : decode cc pc = .ok (.isub, 1)) (k : ∀ v : Int32, TI v (a - b) → Go l own cc nL R nm rt n0 mc ms Xf Qf sl (pc + 1) lv (.int v :: st) h) : Go l own cc nL R nm rt n0 mc ms Xf Qf sl pc lv (.int y :: .int x :: st) h := go_isub hd (k _ (ti_sub ex ey h1 h2))
theorem gf_imul {x y : Int32} {a b : Int} (ex : TI x a) (ey : TI y b) (h1 : -2147483648 ≤ a * b) (h2 : a * b ≤ 2147483647) (hd : decode cc pc = .ok (.imul, 1)) (k : ∀ v : Int32, TI v (a * b) → Go l own cc nL R nm rt n0 mc ms Xf Qf sl (pc + 1) lv (.int v :: st) h) : Go l own cc nL R nm rt n0 mc ms Xf Qf sl pc lv (.int y :: .int x :: st) h := go_imul hd (k _ (ti_mul ex ey h1 h2))
theorem gf_idiv {x y : Int32} {a b : Int} (ex : TI x a) (ey : TI y b) (h0 : 0 ≤ a) (hb : 0 < b) (hd : decode cc pc = .ok (.idiv, 1)) (k : ∀ v : Int32, TI v (a / b) → Go l own cc nL R nm rt n0 mc ms Xf Qf sl (pc + 1) lv (.int v :: st) h) : Go l own cc nL R nm rt n0 mc ms Xf Qf sl pc lv (.int y :: .int x :: st) h := go_idiv (fun q => by subst q; have := (ti_eq ey ti_0).mp rfl; omega) hd (k _ (ti_div ex ey h0 hb))
theorem gf_irem {x y : Int32} {a b : Int} (ex : TI x a) (ey : TI y b) (h0 : 0 ≤ a) (hb : 0 < b) (hd : decode cc pc = .ok (.irem, 1)) (k : ∀ v : Int32, TI v (a % b) → Go l own cc nL R nm rt n0 mc ms Xf Qf sl (pc + 1) lv (.int v :: st) h) : Go l own cc nL R nm rt n0 mc ms Xf Qf sl pc lv (.int y :: .int x :: st) h := go_irem (fun q => by subst q; have := (ti_eq ey ti_0).mp rfl; omega) hd (k _ (ti_rem ex ey h0 hb))
theorem gu_iadd {x y : Int32} (hd : decode cc pc = .ok (.iadd, 1)) (k : ∀ v : Int32, Go l own cc nL R nm rt n0 mc ms Xf Qf sl (pc + 1) lv (.int v :: st) h) : Go l own cc nL R nm rt n0 mc ms Xf Qf sl pc lv (.int y :: .int x :: st) h := go_iadd hd (k _)
theorem gu_isub {x y : Int32} (hd : decode cc pc = .ok (.isub, 1)) (k : ∀ v : Int32, Go l own cc nL R nm rt n0 mc ms Xf Qf sl (pc + 1) lv (.int v :: st) h) : Go l own cc nL R nm rt n0 mc ms Xf Qf sl pc lv (.int y :: .int x :: st) h := go_isub hd (k _)
theorem gu_imul {x y : Int32} (hd : decode cc pc = .ok (.imul, 1)) (k : ∀ v : Int32, Go l own cc nL R nm rt n0 mc ms Xf Qf sl (pc + 1) lv (.int v :: st) h) : Go l own cc nL R nm rt n0 mc ms Xf Qf sl pc lv (.int y :: .int x :: st) h := go_imul hd (k _)
theorem gu_ior {x y : Int32} (hd : decode cc pc = .ok (.ior, 1)) (k : ∀ v : Int32, Go l own cc nL R nm rt n0 mc ms Xf Qf sl (pc + 1) lv (.int v :: st) h) : Go l own cc nL R nm rt n0 mc ms Xf Qf sl pc lv (.int y :: .int x :: st) h := go_ior hd (k _)
theorem gu_ishl {x y : Int32} (hd : decode cc pc = .ok (.ishl, 1)) (k : ∀ v : Int32, Go l own cc nL R nm rt n0 mc ms Xf Qf sl (pc + 1) lv (.int v :: st) h) : Go l own cc nL R nm rt n0 mc ms Xf Qf sl pc lv (.int y :: .int x :: st) h := go_ishl hd (k _)
theorem gu_iushr {x y : Int32} (hd : decode cc pc = .ok (.iushr, 1)) (k : ∀ v : Int32, Go l own cc nL R nm rt n0 mc ms Xf Qf sl (pc + 1) lv (.int v :: st) h) : Go l own cc nL R nm rt n0 mc ms Xf Qf sl pc lv (.int y :: .int x :: st) h := go_iushr hd (k _)
theorem gf_iand {x y : Int32} {b : Int} (ey : TI y b) (hb : 0 ≤ b) (hd : decode cc pc = .ok (.iand, 1)) (k : ∀ v : Int32, 0 ≤ v.toInt → v.toInt ≤ b → Go l own cc nL R nm rt n0 mc ms Xf Qf sl (pc + 1) lv (.int v :: st) h) : Go l own cc nL R nm rt n0 mc ms Xf Qf sl pc lv (.int y :: .int x :: st) h := go_iand hd (k _ (ti_mask ey hb).1 (ti_mask ey hb).2)
theorem gu_l2i {x : Int64} (hd : decode cc pc = .ok (.l2i, 1)) (k : ∀ v : Int32, Go l own cc nL R nm rt n0 mc ms Xf Qf sl (pc + 1) lv (.int v :: st) h) : Go l own cc nL R nm rt n0 mc ms Xf Qf sl pc lv (.long x :: st) h := go_l2i hd (k _)
theorem gu_ladd {x y : Int64} (hd : decode cc pc = .ok (.ladd, 1)) (k : ∀ v : Int64, Go l own cc nL R nm rt n0 mc ms Xf Qf sl (pc + 1) lv (.long v :: st) h) : Go l own cc nL R nm rt n0 mc ms Xf Qf sl pc lv (.long y :: .long x :: st) h := go_ladd hd (k _)
theorem gu_lsub {x y : Int64} (hd : decode cc pc = .ok (.lsub, 1)) (k : ∀ v : Int64, Go l own cc nL R nm rt n0 mc ms Xf Qf sl (pc + 1) lv (.long v :: st) h) : Go l own cc nL R nm rt n0 mc ms Xf Qf sl pc lv (.long y :: .long x :: st) h := go_lsub hd (k _)
theorem gu_land {x y : Int64} (hd : decode cc pc = .ok (.land, 1)) (k : ∀ v : Int64, Go l own cc nL R nm rt n0 mc ms Xf Qf sl (pc + 1) lv (.long v :: st) h) : Go l own cc nL R nm rt n0 mc ms Xf Qf sl pc lv (.long y :: .long x :: st) h := go_land hd (k _)
theorem gu_lor {x y : Int64} (hd : decode cc pc = .ok (.lor, 1)) (k : ∀ v : Int64, Go l own cc nL R nm rt n0 mc ms Xf Qf sl (pc + 1) lv (.long v :: st) h) : Go l own cc nL R nm rt n0 mc ms Xf Qf sl pc lv (.long y :: .long x :: st) h := go_lor hd (k _)
theorem gu_lshl {x : Int64} {y : Int32} (hd : decode cc pc = .ok (.lshl, 1)) (k : ∀ v : Int64, Go l own cc nL R nm rt n0 mc ms Xf Qf sl (pc + 1) lv (.long v :: st) h) : Go l own cc nL R nm rt n0 mc ms Xf Qf sl pc lv (.int y :: .long x :: st) h := go_lshl hd (k _)
theorem gu_lushr {x : Int64} {y : Int32} (hd : decode cc pc = .ok (.lushr, 1)) (k : ∀ v : Int64, Go l own cc nL R nm rt n0 mc ms Xf Qf sl (pc + 1) lv (.long v :: st) h) : Go l own cc nL R nm rt n0 mc ms Xf Qf sl pc lv (.int y :: .long x :: st) h := go_lushr hd (k _)
theorem gu_iinc {q : Nat} {n : Int} {x : Int32} (hq : q < nL) (hv : g_lv lv q = some (.int x)) (hd : decode cc pc = .ok (.iinc q n, 3)) (k : ∀ v : Int32, Go l own cc nL R nm rt n0 mc ms Xf Qf sl (pc + 3) (g_s1 lv q (.int v)) st h) : Go l own cc nL R nm rt n0 mc ms Xf Qf sl pc lv st h := go_iinc hq hv hd (k _)
theorem gf_iinc {q : Nat} {n : Int} {x : Int32} {a : Int} (hq : q < nL) (hv : g_lv lv q = some (.int x)) (ex : TI x a) (en : TI (Int32.ofInt n) n) (h1 : -2147483648 ≤ a + n) (h2 : a + n ≤ 2147483647) (hd : decode cc pc = .ok (.iinc q n, 3)) (k : ∀ v : Int32, TI v (a + n) → Go l own cc nL R nm rt n0 mc ms Xf Qf sl (pc + 3) (g_s1 lv q (.int v)) st h) : Go l own cc nL R nm rt n0 mc ms Xf Qf sl pc lv st h := go_iinc hq hv hd (k _ (ti_add ex en h1 h2))
theorem gf_if_eq {x : Int32} {a : Int} (ex : TI x a) {off : Int} {tgt : Nat} (ht : (pc : Int) + off = (tgt : Int)) (hd : decode cc pc = .ok (.ifCond .eq off, 3)) (kt : a = 0 → Go l own cc nL R nm rt n0 mc ms Xf Qf sl tgt lv st h) (kf : ¬ a = 0 → Go l own cc nL R nm rt n0 mc ms Xf Qf sl (pc + 3) lv st h) : Go l own cc nL R nm rt n0 mc ms Xf Qf sl pc lv (.int x :: st) h := by have ey := ti_0; exact go_if_eq ht hd (fun q => kt ((ti_eq ex ey).mp q)) (fun q => kf (fun w => q ((ti_eq ex ey).mpr w)))
theorem gf_icmp_eq {x y : Int32} {a b : Int} (ex : TI x a) (ey : TI y b) {off : Int} {tgt : Nat} (ht : (pc : Int) + off = (tgt : Int)) (hd : decode cc pc = .ok (.if_icmp .eq off, 3)) (kt : a = b → Go l own cc nL R nm rt n0 mc ms Xf Qf sl tgt lv st h) (kf : ¬ a = b → Go l own cc nL R nm rt n0 mc ms Xf Qf sl (pc + 3) lv st h) : Go l own cc nL R nm rt n0 mc ms Xf Qf sl pc lv (.int y :: .int x :: st) h := by exact go_icmp_eq ht hd (fun q => kt ((ti_eq ex ey).mp q)) (fun q => kf (fun w => q ((ti_eq ex ey).mpr w)))
theorem gf_if_ne {x : Int32} {a : Int} (ex : TI x a) {off : Int} {tgt : Nat} (ht : (pc : Int) + off = (tgt : Int)) (hd : decode cc pc = .ok (.ifCond .ne off, 3)) (kt : ¬ a = 0 → Go l own cc nL R nm rt n0 mc ms Xf Qf sl tgt lv st h) (kf : a = 0 → Go l own cc nL R nm rt n0 mc ms Xf Qf sl (pc + 3) lv st h) : Go l own cc nL R nm rt n0 mc ms Xf Qf sl pc lv (.int x :: st) h := by have ey := ti_0; exact go_if_ne ht hd (fun q => kt (fun w => q ((ti_eq ex ey).mpr w))) (fun q => kf ((ti_eq ex ey).mp q))
theorem gf_icmp_ne {x y : Int32} {a b : Int} (ex : TI x a) (ey : TI y b) {off : Int} {tgt : Nat} (ht : (pc : Int) + off = (tgt : Int)) (hd : decode cc pc = .ok (.if_icmp .ne off, 3)) (kt : ¬ a = b → Go l own cc nL R nm rt n0 mc ms Xf Qf sl tgt lv st h) (kf : a = b → Go l own cc nL R nm rt n0 mc ms Xf Qf sl (pc + 3) lv st h) : Go l own cc nL R nm rt n0 mc ms Xf Qf sl pc lv (.int y :: .int x :: st) h := by exact go_icmp_ne ht hd (fun q => kt (fun w => q ((ti_eq ex ey).mpr w))) (fun q => kf ((ti_eq ex ey).mp q))
theorem gf_if_lt {x : Int32} {a : Int} (ex : TI x a) {off : Int} {tgt : Nat} (ht : (pc : Int) + off = (tgt : Int)) (hd : decode cc pc = .ok (.ifCond .lt off, 3)) (kt : a < 0 → Go l own cc nL R nm rt n0 mc ms Xf Qf sl tgt lv st h) (kf : 0 ≤ a → Go l own cc nL R nm rt n0 mc ms Xf Qf sl (pc + 3) lv st h) : Go l own cc nL R nm rt n0 mc ms Xf Qf sl pc lv (.int x :: st) h := by have ey := ti_0; exact go_if_lt ht hd (fun q => kt ((ti_lt ex ey).mp q)) (fun q => kf (by have := mt (ti_lt ex ey).mpr q; omega))
theorem gf_icmp_lt {x y : Int32} {a b : Int} (ex : TI x a) (ey : TI y b) {off : Int} {tgt : Nat} (ht : (pc : Int) + off = (tgt : Int)) (hd : decode cc pc = .ok (.if_icmp .lt off, 3)) (kt : a < b → Go l own cc nL R nm rt n0 mc ms Xf Qf sl tgt lv st h) (kf : b ≤ a → Go l own cc nL R nm rt n0 mc ms Xf Qf sl (pc + 3) lv st h) : Go l own cc nL R nm rt n0 mc ms Xf Qf sl pc lv (.int y :: .int x :: st) h := by exact go_icmp_lt ht hd (fun q => kt ((ti_lt ex ey).mp q)) (fun q => kf (by have := mt (ti_lt ex ey).mpr q; omega))
theorem gf_if_ge {x : Int32} {a : Int} (ex : TI x a) {off : Int} {tgt : Nat} (ht : (pc : Int) + off = (tgt : Int)) (hd : decode cc pc = .ok (.ifCond .ge off, 3)) (kt : 0 ≤ a → Go l own cc nL R nm rt n0 mc ms Xf Qf sl tgt lv st h) (kf : a < 0 → Go l own cc nL R nm rt n0 mc ms Xf Qf sl (pc + 3) lv st h) : Go l own cc nL R nm rt n0 mc ms Xf Qf sl pc lv (.int x :: st) h := by have ey := ti_0; exact go_if_ge ht hd (fun q => kt ((ti_le ey ex).mp q)) (fun q => kf (by have := mt (ti_le ey ex).mpr q; omega))
theorem gf_icmp_ge {x y : Int32} {a b : Int} (ex : TI x a) (ey : TI y b) {off : Int} {tgt : Nat} (ht : (pc : Int) + off = (tgt : Int)) (hd : decode cc pc = .ok (.if_icmp .ge off, 3)) (kt : b ≤ a → Go l own cc nL R nm rt n0 mc ms Xf Qf sl tgt lv st h) (kf : a < b → Go l own cc nL R nm rt n0 mc ms Xf Qf sl (pc + 3) lv st h) : Go l own cc nL R nm rt n0 mc ms Xf Qf sl pc lv (.int y :: .int x :: st) h := by exact go_icmp_ge ht hd (fun q => kt ((ti_le ey ex).mp q)) (fun q => kf (by have := mt (ti_le ey ex).mpr q; omega))
theorem gf_if_gt {x : Int32} {a : Int} (ex : TI x a) {off : Int} {tgt : Nat} (ht : (pc : Int) + off = (tgt : Int)) (hd : decode cc pc = .ok (.ifCond .gt off, 3)) (kt : 0 < a → Go l own cc nL R nm rt n0 mc ms Xf Qf sl tgt lv st h) (kf : a ≤ 0 → Go l own cc nL R nm rt n0 mc ms Xf Qf sl (pc + 3) lv st h) : Go l own cc nL R nm rt n0 mc ms Xf Qf sl pc lv (.int x :: st) h := by have ey := ti_0; exact go_if_gt ht hd (fun q => kt ((ti_lt ey ex).mp q)) (fun q => kf (by have := mt (ti_lt ey ex).mpr q; omega))
theorem gf_icmp_gt {x y : Int32} {a b : Int} (ex : TI x a) (ey : TI y b) {off : Int} {tgt : Nat} (ht : (pc : Int) + off = (tgt : Int)) (hd : decode cc pc = .ok (.if_icmp .gt off, 3)) (kt : b < a → Go l own cc nL R nm rt n0 mc ms Xf Qf sl tgt lv st h) (kf : a ≤ b → Go l own cc nL R nm rt n0 mc ms Xf Qf sl (pc + 3) lv st h) : Go l own cc nL R nm rt n0 mc ms Xf Qf sl pc lv (.int y :: .int x :: st) h := by exact go_icmp_gt ht hd (fun q => kt ((ti_lt ey ex).mp q)) (fun q => kf (by have := mt (ti_lt ey ex).mpr q; omega))
theorem gf_if_le {x : Int32} {a : Int} (ex : TI x a) {off : Int} {tgt : Nat} (ht : (pc : Int) + off = (tgt : Int)) (hd : decode cc pc = .ok (.ifCond .le off, 3)) (kt : a ≤ 0 → Go l own cc nL R nm rt n0 mc ms Xf Qf sl tgt lv st h) (kf : 0 < a → Go l own cc nL R nm rt n0 mc ms Xf Qf sl (pc + 3) lv st h) : Go l own cc nL R nm rt n0 mc ms Xf Qf sl pc lv (.int x :: st) h := by have ey := ti_0; exact go_if_le ht hd (fun q => kt ((ti_le ex ey).mp q)) (fun q => kf (by have := mt (ti_le ex ey).mpr q; omega))
theorem gf_icmp_le {x y : Int32} {a b : Int} (ex : TI x a) (ey : TI y b) {off : Int} {tgt : Nat} (ht : (pc : Int) + off = (tgt : Int)) (hd : decode cc pc = .ok (.if_icmp .le off, 3)) (kt : a ≤ b → Go l own cc nL R nm rt n0 mc ms Xf Qf sl tgt lv st h) (kf : b < a → Go l own cc nL R nm rt n0 mc ms Xf Qf sl (pc + 3) lv st h) : Go l own cc nL R nm rt n0 mc ms Xf Qf sl pc lv (.int y :: .int x :: st) h := by exact go_icmp_le ht hd (fun q => kt ((ti_le ex ey).mp q)) (fun q => kf (by have := mt (ti_le ex ey).mpr q; omega))
end GF
