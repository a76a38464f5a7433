/-! how many bits a long has -/
theorem tb_sp {x y i : Nat} (hx : x < 256) : (x + 256 * y).testBit i = if i < 8 then x.testBit i else y.testBit (i - 8) := by
  rw [show x + 256 * y = 2 ^ 8 * y + x by omega]
  exact Nat.testBit_two_pow_mul_add y hx i
theorem land_lt {a c : Nat} (hc : c < 256) : a &&& c < 256 := Nat.and_lt_two_pow (n := 8) a hc
theorem land_sp {a c m M : Nat} (ha : a < 256) (hc : c < 256) : (a + 256 * m) &&& (c + 256 * M) = (a &&& c) + 256 * (m &&& M) := by
  apply Nat.eq_of_testBit_eq
  intro i
  rw [Nat.testBit_and, tb_sp ha, tb_sp hc, tb_sp (land_lt hc)]
  by_cases z : i < 8
  · rw [if_pos z, if_pos z, if_pos z, Nat.testBit_and]
  · rw [if_neg z, if_neg z, if_neg z, Nat.testBit_and]
theorem shr_land {b c m M k : Nat} (hb : b < 256) (hk : k ≤ 8) (hc : c < 2 ^ (8 - k)) (hc8 : c < 256) : ((b + 256 * m) >>> k) &&& (c + 256 * M) = ((b >>> k) &&& c) + 256 * ((m >>> k) &&& M) := by
  apply Nat.eq_of_testBit_eq
  intro i
  rw [Nat.testBit_and, Nat.testBit_shiftRight, tb_sp hb, tb_sp hc8, tb_sp (land_lt hc8)]
  by_cases z : i < 8
  · rw [if_pos z, if_pos z, Nat.testBit_and, Nat.testBit_shiftRight]
    by_cases y : k + i < 8
    · rw [if_pos y]
    · have f : c.testBit i = false := Nat.testBit_lt_two_pow (Nat.lt_of_lt_of_le hc (Nat.pow_le_pow_right (by omega) (by omega)))
      rw [f, Bool.and_false, Bool.and_false]
  · rw [if_neg z, if_neg z, if_neg (show ¬ k + i < 8 by omega), Nat.testBit_and, Nat.testBit_shiftRight, show k + i - 8 = k + (i - 8) by omega]
def ev : List Nat → Nat
  | [] => 0
  | b :: l => b + 256 * ev l
def mk_ (c : Nat) : Nat → Nat
  | 0 => 0
  | n + 1 => c + 256 * mk_ c n
def AL (p : Nat → Prop) (l : List Nat) : Prop := ∀ b, b ∈ l → p b
theorem AL.c {p : Nat → Prop} {b : Nat} {l : List Nat} (h : AL p (b :: l)) : p b ∧ AL p l := ⟨h b (List.mem_cons_self ..), fun x z => h x (List.mem_cons_of_mem _ z)⟩
theorem AL.m {p q : Nat → Prop} {f : Nat → Nat} {l : List Nat} (h : AL p l) (g : ∀ b, p b → q (f b)) : AL q (l.map f) := fun x z => by
  obtain ⟨b, b1, b2⟩ := List.mem_map.mp z
  rw [← b2]
  exact g b (h b b1)
theorem ev_land {c : Nat} (hc : c < 256) : ∀ l : List Nat, AL (fun b => b < 256) l → ev l &&& mk_ c l.length = ev (l.map fun b => b &&& c) := by
  intro l
  induction l with
  | nil => intro _; exact Nat.and_zero 0
  | cons b l ih =>
    intro h
    have z := ih h.c.2
    show (b + 256 * ev l) &&& (c + 256 * mk_ c l.length) = (b &&& c) + 256 * ev (l.map fun b => b &&& c)
    rw [land_sp h.c.1 hc, z]
theorem ev_shr {c k : Nat} (hk : k ≤ 8) (hc : c < 2 ^ (8 - k)) (hc8 : c < 256) : ∀ l : List Nat, AL (fun b => b < 256) l → (ev l >>> k) &&& mk_ c l.length = ev (l.map fun b => (b >>> k) &&& c) := by
  intro l
  induction l with
  | nil => intro _; show (0 >>> k) &&& 0 = 0; rw [Nat.and_zero]
  | cons b l ih =>
    intro h
    have z := ih h.c.2
    show ((b + 256 * ev l) >>> k) &&& (c + 256 * mk_ c l.length) = ((b >>> k) &&& c) + 256 * ev (l.map fun b => (b >>> k) &&& c)
    rw [shr_land h.c.1 hk hc hc8, z]
theorem ev_add (f g : Nat → Nat) : ∀ l : List Nat, ev (l.map f) + ev (l.map g) = ev (l.map fun b => f b + g b) := by
  intro l
  induction l with
  | nil => rfl
  | cons b l ih =>
    show (f b + 256 * ev (l.map f)) + (g b + 256 * ev (l.map g)) = (f b + g b) + 256 * ev (l.map fun b => f b + g b)
    omega
theorem ev_id (f : Nat → Nat) (p : Nat → Prop) (hf : ∀ b, p b → f b = b) : ∀ l : List Nat, AL p l → ev (l.map f) = ev l := by
  intro l
  induction l with
  | nil => intro _; rfl
  | cons b l ih =>
    intro h
    show f b + 256 * ev (l.map f) = b + 256 * ev l
    rw [hf b h.c.1, ih h.c.2]
theorem ev_16 {l : List Nat} (h : AL (fun y => y % 16 ≤ 4 ∧ y / 16 ≤ 4) l) : ev l % 16 ≤ 4 := by
  cases l with
  | nil => decide
  | cons b l =>
    have := h.c.1.1
    show (b + 256 * ev l) % 16 ≤ 4
    omega
theorem ev_nib : ∀ l : List Nat, AL (fun y => y % 16 ≤ 4 ∧ y / 16 ≤ 4) l → (ev l + (ev l >>> 4)) &&& mk_ 15 l.length = ev (l.map fun y => y % 16 + y / 16) := by
  intro l
  induction l with
  | nil => intro _; exact Nat.and_zero (0 + (0 >>> 4))
  | cons b l ih =>
    intro h
    have z := ih h.c.2
    have b1 := h.c.1
    have m1 := ev_16 h.c.2
    show ((b + 256 * ev l) + ((b + 256 * ev l) >>> 4)) &&& (15 + 256 * mk_ 15 l.length) = (b % 16 + b / 16) + 256 * ev (l.map fun y => y % 16 + y / 16)
    have e : (b + 256 * ev l) + ((b + 256 * ev l) >>> 4) = (b + b / 16 + 16 * (ev l % 16)) + 256 * (ev l + (ev l >>> 4)) := by
      rw [Nat.shiftRight_eq_div_pow, Nat.shiftRight_eq_div_pow]
      omega
    rw [e, land_sp (by omega) (by omega), z]
    have q : (b + b / 16 + 16 * (ev l % 16)) &&& 15 = b % 16 + b / 16 := by
      have := Nat.and_two_pow_sub_one_eq_mod (b + b / 16 + 16 * (ev l % 16)) 4
      have w : (b + b / 16 + 16 * (ev l % 16)) &&& 15 = (b + b / 16 + 16 * (ev l % 16)) % 16 := this
      rw [w]
      omega
    rw [q]
def q1 (b : Nat) : Nat := b - ((b >>> 1) &&& 85)
def q2 (b : Nat) : Nat := (b &&& 51) + ((b >>> 2) &&& 51)
def q3 (y : Nat) : Nat := y % 16 + y / 16
def bsum (f : Nat → Bool) : Nat → Nat
  | 0 => 0
  | n + 1 => bsum f n + (f n).toNat
theorem byte_tab : ∀ b : Fin 256, ((b.val >>> 1) &&& 85) ≤ b.val ∧ q1 b.val < 256 ∧ q2 (q1 b.val) < 256 ∧ q2 (q1 b.val) % 16 ≤ 4 ∧ q2 (q1 b.val) / 16 ≤ 4 ∧ q3 (q2 (q1 b.val)) = bsum b.val.testBit 8 := by decide +kernel
theorem byte_r {b : Nat} (h : b < 256) : ((b >>> 1) &&& 85) ≤ b ∧ q1 b < 256 ∧ q2 (q1 b) < 256 ∧ q2 (q1 b) % 16 ≤ 4 ∧ q2 (q1 b) / 16 ≤ 4 ∧ q3 (q2 (q1 b)) = bsum b.testBit 8 := byte_tab ⟨b, h⟩
theorem bsum_le (f : Nat → Bool) : ∀ n, bsum f n ≤ n := by
  intro n
  induction n with
  | zero => exact Nat.le_refl _
  | succ n ih =>
    have : (f n).toNat ≤ 1 := by cases f n <;> decide
    show bsum f n + (f n).toNat ≤ n + 1
    omega
theorem bsum_add (f : Nat → Bool) (a : Nat) : ∀ b, bsum f (a + b) = bsum f a + bsum (fun k => f (a + k)) b := by
  intro b
  induction b with
  | zero => rfl
  | succ b ih =>
    show bsum f (a + b) + (f (a + b)).toNat = bsum f a + (bsum (fun k => f (a + k)) b + (f (a + b)).toNat)
    omega
theorem bsum_c {f g : Nat → Bool} : ∀ n, (∀ k, k < n → f k = g k) → bsum f n = bsum g n := by
  intro n
  induction n with
  | zero => intro _; rfl
  | succ n ih =>
    intro h
    show bsum f n + (f n).toNat = bsum g n + (g n).toNat
    rw [ih (fun k z => h k (by omega)), h n (by omega)]
def nb (x : Int64) : Nat := x.toBitVec.toNat
theorem nb_lt (x : Int64) : nb x < 18446744073709551616 := x.toBitVec.isLt
theorem nb_and (x y : Int64) : nb (o_land x y) = nb x &&& nb y := rfl
theorem nb_add {x y : Int64} (h : nb x + nb y < 18446744073709551616) : nb (o_ladd x y) = nb x + nb y := by
  have e : nb (o_ladd x y) = (nb x + nb y) % 2 ^ 64 := BitVec.toNat_add x.toBitVec y.toBitVec
  rw [e]
  omega
theorem nb_sub {x y : Int64} (h : nb y ≤ nb x) : nb (o_lsub x y) = nb x - nb y := by
  have e : nb (o_lsub x y) = (2 ^ 64 - nb y + nb x) % 2 ^ 64 := BitVec.toNat_sub x.toBitVec y.toBitVec
  have := nb_lt x
  rw [e]
  omega
theorem nb_u1 (x : Int64) : nb (o_lushr x 1) = nb x >>> 1 := rfl
theorem nb_u2 (x : Int64) : nb (o_lushr x 2) = nb x >>> 2 := rfl
theorem nb_u4 (x : Int64) : nb (o_lushr x 4) = nb x >>> 4 := rfl
theorem nb_u8 (x : Int64) : nb (o_lushr x 8) = nb x >>> 8 := rfl
theorem nb_u16 (x : Int64) : nb (o_lushr x 16) = nb x >>> 16 := rfl
theorem nb_u32 (x : Int64) : nb (o_lushr x 32) = nb x >>> 32 := rfl
theorem l2i_127 (x : Int64) : o_iand (o_l2i x) 127 = ((nb x % 128 : Nat) : Int) := by
  unfold o_iand p_iand o_l2i
  rw [Int32.ofInt_toInt]
  have e : (x.toInt32 &&& Int32.ofInt 127).toInt = (x.toInt32.toBitVec &&& 127#32).toInt := rfl
  rw [e]
  have n : (x.toInt32.toBitVec &&& 127#32).toNat = nb x % 128 := by
    rw [BitVec.toNat_and]
    have a : x.toInt32.toBitVec.toNat = nb x % 2 ^ 32 := by
      have y : x.toInt32.toBitVec = x.toBitVec.signExtend 32 := rfl
      rw [y, BitVec.signExtend_eq_setWidth_of_le _ (by omega), BitVec.toNat_setWidth]
      rfl
    rw [a, show (127#32).toNat = 2 ^ 7 - 1 from rfl, Nat.and_two_pow_sub_one_eq_mod]
    omega
  rw [BitVec.toInt_eq_toNat_of_lt (by rw [n]; omega), n]
/-- a number below 2^64 by its bytes -/
def bys (n : Nat) : List Nat := [n % 256, n / 256 % 256, n / 65536 % 256, n / 16777216 % 256, n / 4294967296 % 256, n / 1099511627776 % 256, n / 281474976710656 % 256, n / 72057594037927936 % 256]
theorem bys_ev {n : Nat} (h : n < 18446744073709551616) : ev (bys n) = n := by
  show n % 256 + 256 * (n / 256 % 256 + 256 * (n / 65536 % 256 + 256 * (n / 16777216 % 256 + 256 * (n / 4294967296 % 256 + 256 * (n / 1099511627776 % 256 + 256 * (n / 281474976710656 % 256 + 256 * (n / 72057594037927936 % 256 + 256 * 0))))))) = n
  omega
theorem bys_lt (n : Nat) : AL (fun b => b < 256) (bys n) := fun b h => by
  simp only [bys, List.mem_cons, List.mem_nil_iff, or_false] at h
  rcases h with h | h | h | h | h | h | h | h <;> (rw [h]; exact Nat.mod_lt _ (by decide))
theorem bys_bit {n i r : Nat} (hr : r < 8) : (n / 256 ^ i % 256).testBit r = n.testBit (8 * i + r) := by
  have e : n / 256 ^ i % 256 = (n >>> (8 * i)) % 2 ^ 8 := by
    rw [Nat.shiftRight_eq_div_pow, show (2 : Nat) ^ (8 * i) = 256 ^ i by rw [Nat.pow_mul]]
  rw [e, Nat.testBit_mod_two_pow, Nat.testBit_shiftRight]
  simp [hr]
theorem bys_sum (n : Nat) : bsum n.testBit 64 = bsum (n % 256).testBit 8 + bsum (n / 256 % 256).testBit 8 + bsum (n / 65536 % 256).testBit 8 + bsum (n / 16777216 % 256).testBit 8 + bsum (n / 4294967296 % 256).testBit 8 + bsum (n / 1099511627776 % 256).testBit 8 + bsum (n / 281474976710656 % 256).testBit 8 + bsum (n / 72057594037927936 % 256).testBit 8 := by
  have b : ∀ i, bsum (fun k => n.testBit (8 * i + k)) 8 = bsum (n / 256 ^ i % 256).testBit 8 := fun i => bsum_c 8 (fun k z => (bys_bit z).symm)
  have s : ∀ i, bsum n.testBit (8 * i + 8) = bsum n.testBit (8 * i) + bsum (n / 256 ^ i % 256).testBit 8 := fun i => by rw [bsum_add, b]
  have s0 : bsum n.testBit 8 = 0 + bsum (n / 256 ^ 0 % 256).testBit 8 := s 0
  have s1 : bsum n.testBit 16 = bsum n.testBit 8 + bsum (n / 256 ^ 1 % 256).testBit 8 := s 1
  have s2 : bsum n.testBit 24 = bsum n.testBit 16 + bsum (n / 256 ^ 2 % 256).testBit 8 := s 2
  have s3 : bsum n.testBit 32 = bsum n.testBit 24 + bsum (n / 256 ^ 3 % 256).testBit 8 := s 3
  have s4 : bsum n.testBit 40 = bsum n.testBit 32 + bsum (n / 256 ^ 4 % 256).testBit 8 := s 4
  have s5 : bsum n.testBit 48 = bsum n.testBit 40 + bsum (n / 256 ^ 5 % 256).testBit 8 := s 5
  have s6 : bsum n.testBit 56 = bsum n.testBit 48 + bsum (n / 256 ^ 6 % 256).testBit 8 := s 6
  have s7 : bsum n.testBit 64 = bsum n.testBit 56 + bsum (n / 256 ^ 7 % 256).testBit 8 := s 7
  have p0 : (256 : Nat) ^ 0 = 1 := rfl
  have p1 : (256 : Nat) ^ 1 = 256 := rfl
  have p2 : (256 : Nat) ^ 2 = 65536 := rfl
  have p3 : (256 : Nat) ^ 3 = 16777216 := rfl
  have p4 : (256 : Nat) ^ 4 = 4294967296 := rfl
  have p5 : (256 : Nat) ^ 5 = 1099511627776 := rfl
  have p6 : (256 : Nat) ^ 6 = 281474976710656 := rfl
  have p7 : (256 : Nat) ^ 7 = 72057594037927936 := rfl
  rw [p0, Nat.div_one] at s0
  rw [p1] at s1
  rw [p2] at s2
  rw [p3] at s3
  rw [p4] at s4
  rw [p5] at s5
  rw [p6] at s6
  rw [p7] at s7
  omega
theorem dvk {n r X : Nat} (h : n = r + 256 * X) (hr : r < 256) : n / 256 = X := by omega
theorem bc_8 {n r0 r1 r2 r3 r4 r5 r6 r7 : Nat} (b0 : r0 ≤ 8) (b1 : r1 ≤ 8) (b2 : r2 ≤ 8) (b3 : r3 ≤ 8) (b4 : r4 ≤ 8) (b5 : r5 ≤ 8) (b6 : r6 ≤ 8) (b7 : r7 ≤ 8) (h : n = r0 + 256 * (r1 + 256 * (r2 + 256 * (r3 + 256 * (r4 + 256 * (r5 + 256 * (r6 + 256 * (r7)))))))) : n >>> 8 = r1 + 256 * (r2 + 256 * (r3 + 256 * (r4 + 256 * (r5 + 256 * (r6 + 256 * (r7)))))) := by
  rw [Nat.shiftRight_eq_div_pow]
  exact dvk h (by omega)
theorem bc_9 {n r0 r1 r2 r3 r4 r5 r6 r7 : Nat} (b0 : r0 ≤ 8) (b1 : r1 ≤ 8) (b2 : r2 ≤ 8) (b3 : r3 ≤ 8) (b4 : r4 ≤ 8) (b5 : r5 ≤ 8) (b6 : r6 ≤ 8) (b7 : r7 ≤ 8) (h : n = r0 + 256 * (r1 + 256 * (r2 + 256 * (r3 + 256 * (r4 + 256 * (r5 + 256 * (r6 + 256 * (r7)))))))) : n + n >>> 8 = (r0 + r1) + 256 * ((r1 + r2) + 256 * ((r2 + r3) + 256 * ((r3 + r4) + 256 * ((r4 + r5) + 256 * ((r5 + r6) + 256 * ((r6 + r7) + 256 * (r7))))))) := by
  rw [bc_8 b0 b1 b2 b3 b4 b5 b6 b7 h, h]
  omega
theorem dvk2 {n r q X : Nat} (h : n = r + 256 * (q + 256 * X)) (hr : r < 256) (hq : q < 256) : n >>> 16 = X := by
  rw [Nat.shiftRight_eq_div_pow]
  omega
theorem dvk4 {n r q t u X : Nat} (h : n = r + 256 * (q + 256 * (t + 256 * (u + 256 * X)))) (hr : r < 256) (hq : q < 256) (ht : t < 256) (hu : u < 256) : n >>> 32 = X := by
  rw [Nat.shiftRight_eq_div_pow]
  omega
theorem bc_16 {n r0 r1 r2 r3 r4 r5 r6 r7 : Nat} (b0 : r0 ≤ 8) (b1 : r1 ≤ 8) (b2 : r2 ≤ 8) (b3 : r3 ≤ 8) (b4 : r4 ≤ 8) (b5 : r5 ≤ 8) (b6 : r6 ≤ 8) (b7 : r7 ≤ 8) (h : n = (r0 + r1) + 256 * ((r1 + r2) + 256 * ((r2 + r3) + 256 * ((r3 + r4) + 256 * ((r4 + r5) + 256 * ((r5 + r6) + 256 * ((r6 + r7) + 256 * (r7)))))))) : n + n >>> 16 = (r0 + r1 + r2 + r3) + 256 * ((r1 + r2 + r3 + r4) + 256 * ((r2 + r3 + r4 + r5) + 256 * ((r3 + r4 + r5 + r6) + 256 * ((r4 + r5 + r6 + r7) + 256 * ((r5 + r6 + r7) + 256 * ((r6 + r7) + 256 * (r7))))))) := by
  rw [dvk2 h (by omega) (by omega), h]
  omega
theorem bc_32 {n r0 r1 r2 r3 r4 r5 r6 r7 : Nat} (b0 : r0 ≤ 8) (b1 : r1 ≤ 8) (b2 : r2 ≤ 8) (b3 : r3 ≤ 8) (b4 : r4 ≤ 8) (b5 : r5 ≤ 8) (b6 : r6 ≤ 8) (b7 : r7 ≤ 8) (h : n = (r0 + r1 + r2 + r3) + 256 * ((r1 + r2 + r3 + r4) + 256 * ((r2 + r3 + r4 + r5) + 256 * ((r3 + r4 + r5 + r6) + 256 * ((r4 + r5 + r6 + r7) + 256 * ((r5 + r6 + r7) + 256 * ((r6 + r7) + 256 * (r7)))))))) : (n + n >>> 32) % 128 = r0 + r1 + r2 + r3 + r4 + r5 + r6 + r7 := by
  rw [dvk4 h (by omega) (by omega) (by omega) (by omega), h]
  omega
theorem bc_lt {n k : Nat} (h : n < 4000000000000000000) : n + n >>> k < 18446744073709551616 := by
  have : n >>> k ≤ n := by rw [Nat.shiftRight_eq_div_pow]; exact Nat.div_le_self _ _
  omega
theorem bc_u {r0 r1 r2 r3 r4 r5 r6 r7 : Nat} (b0 : r0 ≤ 8) (b1 : r1 ≤ 8) (b2 : r2 ≤ 8) (b3 : r3 ≤ 8) (b4 : r4 ≤ 8) (b5 : r5 ≤ 8) (b6 : r6 ≤ 8) (b7 : r7 ≤ 8) : r0 + 256 * (r1 + 256 * (r2 + 256 * (r3 + 256 * (r4 + 256 * (r5 + 256 * (r6 + 256 * (r7))))))) < 4000000000000000000 ∧ (r0 + r1) + 256 * ((r1 + r2) + 256 * ((r2 + r3) + 256 * ((r3 + r4) + 256 * ((r4 + r5) + 256 * ((r5 + r6) + 256 * ((r6 + r7) + 256 * (r7))))))) < 4000000000000000000 ∧ (r0 + r1 + r2 + r3) + 256 * ((r1 + r2 + r3 + r4) + 256 * ((r2 + r3 + r4 + r5) + 256 * ((r3 + r4 + r5 + r6) + 256 * ((r4 + r5 + r6 + r7) + 256 * ((r5 + r6 + r7) + 256 * ((r6 + r7) + 256 * (r7))))))) < 4000000000000000000 := by
  refine ⟨by omega, by omega, by omega⟩
theorem bit_count {s : ST} (x : Int64) : f_J13_bitCount_95d88 s x = ((bsum (nb x).testBit 64 : Nat) : Int) := by
  obtain ⟨fin, kf⟩ : ∃ z, z = f_J13_bitCount_95d88 s x := ⟨_, rfl⟩
  rw [← kf]
  unfold f_J13_bitCount_95d88 at kf
  obtain ⟨l, el⟩ : ∃ l, l = bys (nb x) := ⟨_, rfl⟩
  have hl : AL (fun b => b < 256) l := by rw [el]; exact bys_lt _
  have n8 : l.length = 8 := by rw [el]; rfl
  have e0 : nb x = ev l := by rw [el]; exact (bys_ev (nb_lt x)).symm
  have c5 : nb (6148914691236517205 : Int64) = mk_ 85 l.length := by rw [n8]; decide +kernel
  have c3 : ∀ m : List Nat, m.length = 8 → nb (3689348814741910323 : Int64) = mk_ 51 m.length := fun m h => by rw [h]; decide +kernel
  have cf : ∀ m : List Nat, m.length = 8 → nb (1085102592571150095 : Int64) = mk_ 15 m.length := fun m h => by rw [h]; decide +kernel
  have k1 := bd_e kf rfl
  have k2 := bd_e k1 rfl
  have k3 := bd_e k2 rfl
  obtain ⟨v3, h3⟩ : ∃ z, z = o_land (o_lushr x 1) (6148914691236517205 : Int64) := ⟨_, rfl⟩
  have w3 : nb v3 = ev (l.map fun b => (b >>> 1) &&& 85) := by
    rw [h3, nb_and, nb_u1, c5, e0]
    exact ev_shr (by decide) (by decide) (by decide) l hl
  obtain ⟨v5, h5⟩ : ∃ z, z = o_lsub x v3 := ⟨_, rfl⟩
  have w5 : nb v5 = ev (l.map q1) := by
    have a := ev_add (fun b => (b >>> 1) &&& 85) q1 l
    have b := ev_id (fun b => ((b >>> 1) &&& 85) + q1 b) (fun b => b < 256) (fun b z => by have := (byte_r z).1; unfold q1; omega) l hl
    rw [b] at a
    rw [h5, nb_sub (by rw [w3, e0]; omega), w3, e0]
    omega
  rw [← h3, ← h5] at k3
  have hl5 : AL (fun b => b < 256) (l.map q1) := hl.m (fun b z => (byte_r z).2.1)
  have n5 : (l.map q1).length = 8 := by rw [List.length_map]; exact n8
  have k4 := bd_e k3 rfl
  have k5 := bd_e k4 rfl
  have k6 := bd_e k5 rfl
  have k7 := bd_e k6 rfl
  obtain ⟨v13, h13⟩ : ∃ z, z = o_ladd (o_land v5 (3689348814741910323 : Int64)) (o_land (o_lushr v5 2) (3689348814741910323 : Int64)) := ⟨_, rfl⟩
  rw [← h13] at k7
  have w13 : nb v13 = ev ((l.map q1).map q2) := by
    have a : nb (o_land v5 (3689348814741910323 : Int64)) = ev ((l.map q1).map fun b => b &&& 51) := by
      rw [nb_and, w5, c3 _ n5]
      exact ev_land (by decide) _ hl5
    have b : nb (o_land (o_lushr v5 2) (3689348814741910323 : Int64)) = ev ((l.map q1).map fun b => (b >>> 2) &&& 51) := by
      rw [nb_and, nb_u2, w5, c3 _ n5]
      exact ev_shr (by decide) (by decide) (by decide) _ hl5
    have a1 : nb (o_land v5 (3689348814741910323 : Int64)) ≤ nb (3689348814741910323 : Int64) := by rw [nb_and]; exact Nat.and_le_right
    have b1 : nb (o_land (o_lushr v5 2) (3689348814741910323 : Int64)) ≤ nb (3689348814741910323 : Int64) := by rw [nb_and]; exact Nat.and_le_right
    have cc : nb (3689348814741910323 : Int64) = 3689348814741910323 := by decide +kernel
    rw [cc] at a1 b1
    rw [h13, nb_add (by omega), a, b]
    exact ev_add (fun b => b &&& 51) (fun b => (b >>> 2) &&& 51) _
  have k8 := bd_e k7 rfl
  have k9 := bd_e k8 rfl
  have k10 := bd_e k9 rfl
  obtain ⟨v19, h19⟩ : ∃ z, z = o_land (o_ladd v13 (o_lushr v13 4)) (1085102592571150095 : Int64) := ⟨_, rfl⟩
  rw [← h19] at k10
  have hl13 : AL (fun y => y % 16 ≤ 4 ∧ y / 16 ≤ 4) ((l.map q1).map q2) := by
    rw [List.map_map]
    exact hl.m (fun b z => ⟨(byte_r z).2.2.2.1, (byte_r z).2.2.2.2.1⟩)
  have n13 : ((l.map q1).map q2).length = 8 := by rw [List.length_map]; exact n5
  obtain ⟨r0, r1, r2, r3, r4, r5, r6, r7, er, er2⟩ : ∃ r0 r1 r2 r3 r4 r5 r6 r7 : Nat, ((l.map q1).map q2).map q3 = [r0, r1, r2, r3, r4, r5, r6, r7] ∧ (r0 ≤ 8 ∧ r1 ≤ 8 ∧ r2 ≤ 8 ∧ r3 ≤ 8 ∧ r4 ≤ 8 ∧ r5 ≤ 8 ∧ r6 ≤ 8 ∧ r7 ≤ 8 ∧ r0 + r1 + r2 + r3 + r4 + r5 + r6 + r7 = bsum (nb x).testBit 64) := by
    rw [el]
    refine ⟨_, _, _, _, _, _, _, _, rfl, ?_⟩
    have m : ∀ z : Nat, q3 (q2 (q1 (z % 256))) = bsum (z % 256).testBit 8 := fun z => (byte_r (Nat.mod_lt z (by decide))).2.2.2.2.2
    rw [m, m, m, m, m, m, m, m]
    refine ⟨bsum_le _ 8, bsum_le _ 8, bsum_le _ 8, bsum_le _ 8, bsum_le _ 8, bsum_le _ 8, bsum_le _ 8, bsum_le _ 8, (bys_sum (nb x)).symm⟩
  have lt13 : nb v13 < 8000000000000000000 := by
    have a : nb v13 ≤ 4919131752989213764 := by
      rw [w13, el]
      have m : ∀ z : Nat, q2 (q1 (z % 256)) ≤ 68 := fun z => by have := (byte_r (Nat.mod_lt z (by decide))).2.2.2; omega
      have m0 := m (nb x)
      have m1 := m (nb x / 256)
      have m2 := m (nb x / 65536)
      have m3 := m (nb x / 16777216)
      have m4 := m (nb x / 4294967296)
      have m5 := m (nb x / 1099511627776)
      have m6 := m (nb x / 281474976710656)
      have m7 := m (nb x / 72057594037927936)
      show q2 (q1 (nb x % 256)) + 256 * (q2 (q1 (nb x / 256 % 256)) + 256 * (q2 (q1 (nb x / 65536 % 256)) + 256 * (q2 (q1 (nb x / 16777216 % 256)) + 256 * (q2 (q1 (nb x / 4294967296 % 256)) + 256 * (q2 (q1 (nb x / 1099511627776 % 256)) + 256 * (q2 (q1 (nb x / 281474976710656 % 256)) + 256 * (q2 (q1 (nb x / 72057594037927936 % 256)) + 256 * 0))))))) ≤ _
      omega
    omega
  have w19 : nb v19 = r0 + 256 * (r1 + 256 * (r2 + 256 * (r3 + 256 * (r4 + 256 * (r5 + 256 * (r6 + 256 * (r7 + 256 * 0))))))) := by
    have a : nb v19 = ev (((l.map q1).map q2).map q3) := by
      rw [h19, nb_and, nb_add (by rw [nb_u4, Nat.shiftRight_eq_div_pow]; omega), nb_u4, w13, cf _ n13]
      exact ev_nib _ hl13
    rw [a, er]
    rfl
  have k11 := bd_e k10 rfl
  have k12 := bd_e k11 rfl
  obtain ⟨v23, h23⟩ : ∃ z, z = o_ladd v19 (o_lushr v19 8) := ⟨_, rfl⟩
  rw [← h23] at k12
  have k13 := bd_e k12 rfl
  have k14 := bd_e k13 rfl
  obtain ⟨v27, h27⟩ : ∃ z, z = o_ladd v23 (o_lushr v23 16) := ⟨_, rfl⟩
  rw [← h27] at k14
  have k15 := bd_e k14 rfl
  have k16 := bd_e k15 rfl
  obtain ⟨v31, h31⟩ : ∃ z, z = o_ladd v27 (o_lushr v27 32) := ⟨_, rfl⟩
  rw [← h31] at k16
  have k17 := bd_e k16 rfl
  have k18 := bd_e k17 rfl
  obtain ⟨b0, b1, b2, b3, b4, b5, b6, b7, bs⟩ := er2
  have w19b : nb v19 = r0 + 256 * (r1 + 256 * (r2 + 256 * (r3 + 256 * (r4 + 256 * (r5 + 256 * (r6 + 256 * (r7))))))) := w19
  have bu := bc_u b0 b1 b2 b3 b4 b5 b6 b7
  have w23 : nb v23 = (r0 + r1) + 256 * ((r1 + r2) + 256 * ((r2 + r3) + 256 * ((r3 + r4) + 256 * ((r4 + r5) + 256 * ((r5 + r6) + 256 * ((r6 + r7) + 256 * (r7))))))) := by
    rw [h23, nb_add (by rw [nb_u8]; exact bc_lt (by rw [w19b]; exact bu.1)), nb_u8]
    exact bc_9 b0 b1 b2 b3 b4 b5 b6 b7 w19b
  have w27 : nb v27 = (r0 + r1 + r2 + r3) + 256 * ((r1 + r2 + r3 + r4) + 256 * ((r2 + r3 + r4 + r5) + 256 * ((r3 + r4 + r5 + r6) + 256 * ((r4 + r5 + r6 + r7) + 256 * ((r5 + r6 + r7) + 256 * ((r6 + r7) + 256 * (r7))))))) := by
    rw [h27, nb_add (by rw [nb_u16]; exact bc_lt (by rw [w23]; exact bu.2.1)), nb_u16]
    exact bc_16 b0 b1 b2 b3 b4 b5 b6 b7 w23
  have w31 : nb v31 % 128 = r0 + r1 + r2 + r3 + r4 + r5 + r6 + r7 := by
    rw [h31, nb_add (by rw [nb_u32]; exact bc_lt (by rw [w27]; exact bu.2.2)), nb_u32]
    exact bc_32 b0 b1 b2 b3 b4 b5 b6 b7 w27
  rw [k18, l2i_127, w31, bs]
