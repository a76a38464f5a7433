/-! sets of places: words of 32 bits -/
def sbb (F : FN) (c n : Nat) : Bool := (F c (n / 32)).toBitVec.getLsbD (n % 32)
def sb (F : FN) (c : Nat) (x : Int) : Prop := sbb F c x.toNat = true
/-- how many of the first n are in -/
def cn (F : FN) (c : Nat) : Nat → Nat
  | 0 => 0
  | n + 1 => cn F c n + (if sbb F c n = true then 1 else 0)
theorem cn_le (F : FN) (c n : Nat) : cn F c n ≤ n := by
  induction n with
  | zero => exact Nat.le_refl _
  | succ n ih =>
    show cn F c n + (if sbb F c n = true then 1 else 0) ≤ n + 1
    split <;> omega
theorem cn_mono {F G : FN} {c n : Nat} (h : ∀ k, k < n → sbb F c k = true → sbb G c k = true) : cn F c n ≤ cn G c n := by
  induction n with
  | zero => exact Nat.le_refl _
  | succ n ih =>
    have i := ih (fun k hk => h k (by omega))
    have j := h n (by omega)
    show cn F c n + (if sbb F c n = true then 1 else 0) ≤ cn G c n + (if sbb G c n = true then 1 else 0)
    by_cases q : sbb F c n = true
    · rw [if_pos q, if_pos (j q)]; omega
    · rw [if_neg q]; omega
theorem cn_lt {F G : FN} {c n x : Nat} (h : ∀ k, k < n → sbb F c k = true → sbb G c k = true) (hx : x < n) (h0 : ¬ sbb F c x = true) (h1 : sbb G c x = true) : cn F c n + 1 ≤ cn G c n := by
  induction n with
  | zero => omega
  | succ n ih =>
    have j := h n (by omega)
    show cn F c n + (if sbb F c n = true then 1 else 0) + 1 ≤ cn G c n + (if sbb G c n = true then 1 else 0)
    by_cases q : x = n
    · subst q
      have i := cn_mono (F := F) (G := G) (c := c) (n := x) (fun k hk => h k (by omega))
      rw [if_neg h0, if_pos h1]; omega
    · have i := ih (fun k hk => h k (by omega)) (by omega)
      by_cases q2 : sbb F c n = true
      · rw [if_pos q2, if_pos (j q2)]; omega
      · rw [if_neg q2]; split <;> omega
theorem cn_add {F G : FN} {c n x : Nat} (h : ∀ k, k < n → (sbb G c k = true ↔ sbb F c k = true ∨ k = x)) (hx : x < n) (h0 : ¬ sbb F c x = true) : cn G c n = cn F c n + 1 := by
  induction n with
  | zero => omega
  | succ n ih =>
    have j := h n (by omega)
    show cn G c n + (if sbb G c n = true then 1 else 0) = cn F c n + (if sbb F c n = true then 1 else 0) + 1
    by_cases q : x = n
    · subst q
      have e : cn G c x = cn F c x := by
        refine Nat.le_antisymm (cn_mono (fun k hk g => ?_)) (cn_mono (fun k hk g => ?_))
        · rcases (h k (by omega)).mp g with w | w
          · exact w
          · omega
        · exact (h k (by omega)).mpr (Or.inl g)
      rw [if_neg h0, if_pos (j.mpr (Or.inr rfl)), e]
    · have i := ih (fun k hk => h k (by omega)) (by omega)
      rw [i]
      by_cases q2 : sbb F c n = true
      · rw [if_pos q2, if_pos (j.mpr (Or.inl q2))]
      · rw [if_neg q2, if_neg (fun g => by rcases j.mp g with w | w; (exact q2 w); (omega))]
/-- how many places are in -/
def ct (F : FN) (c : Nat) : Int := (cn F c 585 : Int)
theorem ct_lo (F : FN) (c : Nat) : 0 ≤ ct F c := by unfold ct; omega
theorem ct_hi (F : FN) (c : Nat) : ct F c ≤ 585 := by
  unfold ct
  have := cn_le F c 585
  omega
/-! bits of ints -/
theorem sl_tab : ∀ n : Fin 32, (((Int32.ofNat n.val) &&& 31).toBitVec.smod 32).toNat = n.val := by decide +kernel
theorem sr_tab : ∀ n : Fin 32, (((Int32.ofNat n.val).toUInt32 &&& Int32.toUInt32 31).toBitVec % 32).toNat = n.val := by decide +kernel
theorem i32_of {k : Int32} (h0 : 0 ≤ k.toInt) : k = Int32.ofNat k.toInt.toNat := by
  apply Int32.toInt_inj.mp
  have := Int32.toInt_lt k
  rw [Int32.toInt_ofNat_of_lt (by omega)]
  omega
theorem sl_n {k : Int32} (h0 : 0 ≤ k.toInt) (h1 : k.toInt ≤ 31) : ((k &&& 31).toBitVec.smod 32).toNat = k.toInt.toNat := by
  have q : (((Int32.ofNat k.toInt.toNat) &&& 31).toBitVec.smod 32).toNat = k.toInt.toNat := sl_tab ⟨k.toInt.toNat, by omega⟩
  rw [← i32_of h0] at q
  exact q
theorem sr_n {k : Int32} (h0 : 0 ≤ k.toInt) (h1 : k.toInt ≤ 31) : ((k.toUInt32 &&& Int32.toUInt32 31).toBitVec % 32).toNat = k.toInt.toNat := by
  have q : (((Int32.ofNat k.toInt.toNat).toUInt32 &&& Int32.toUInt32 31).toBitVec % 32).toNat = k.toInt.toNat := sr_tab ⟨k.toInt.toNat, by omega⟩
  rw [← i32_of h0] at q
  exact q
theorem and_one32 (y : Int32) : (y &&& 1).toInt = 1 ↔ y.toBitVec.getLsbD 0 = true := by
  have h1 : (y &&& 1).toInt = 1 ↔ y &&& 1 = 1 := ⟨fun h => Int32.toInt_inj.mp (h.trans (by decide)), fun h => by rw [h]; decide⟩
  rw [h1, ← Int32.toBitVec_inj, Int32.toBitVec_and]
  have e : (1 : Int32).toBitVec = 1#32 := rfl
  rw [e]
  constructor
  · intro h
    have q := congrArg (fun z : BitVec 32 => z.getLsbD 0) h
    have q2 : (y.toBitVec &&& 1#32).getLsbD 0 = (1#32).getLsbD 0 := q
    rw [BitVec.getLsbD_and, BitVec.getLsbD_one] at q2
    revert q2
    cases y.toBitVec.getLsbD 0 <;> simp
  · intro h
    apply BitVec.eq_of_getLsbD_eq
    intro i hi
    rw [BitVec.getLsbD_and, BitVec.getLsbD_one]
    by_cases q : i = 0
    · subst q; rw [h]; simp
    · simp [q]
/-- word >>> k & 1 -/
theorem ur_bit {x : Int32} {k : Int32} (h0 : 0 ≤ k.toInt) (h1 : k.toInt ≤ 31) : ((x.toUInt32 >>> (k.toUInt32 &&& Int32.toUInt32 31)).toInt32 &&& 1).toInt = 1 ↔ x.toBitVec.getLsbD k.toInt.toNat = true := by
  rw [and_one32]
  have e : ((x.toUInt32 >>> (k.toUInt32 &&& Int32.toUInt32 31)).toInt32).toBitVec = x.toBitVec >>> ((k.toUInt32 &&& Int32.toUInt32 31).toBitVec % 32).toNat := rfl
  rw [e, sr_n h0 h1, BitVec.getLsbD_ushiftRight, Nat.add_zero]
/-- word >> k & 1 -/
theorem sr_bit {x : Int32} {k : Int32} (h0 : 0 ≤ k.toInt) (h1 : k.toInt ≤ 31) : ((x >>> (k &&& 31)) &&& 1).toInt = 1 ↔ x.toBitVec.getLsbD k.toInt.toNat = true := by
  rw [and_one32]
  have e : (x >>> (k &&& 31)).toBitVec = x.toBitVec.sshiftRight ((k &&& 31).toBitVec.smod 32).toNat := rfl
  rw [e, sl_n h0 h1, BitVec.getLsbD_sshiftRight, if_pos (by omega)]
  simp
theorem or_bit {x k : Int32} (h0 : 0 ≤ k.toInt) (h1 : k.toInt ≤ 31) {j : Nat} (hj : j < 32) : (x ||| (1 <<< (k &&& 31))).toBitVec.getLsbD j = true ↔ x.toBitVec.getLsbD j = true ∨ j = k.toInt.toNat := by
  rw [Int32.toBitVec_or, BitVec.getLsbD_or, Bool.or_eq_true]
  refine or_congr Iff.rfl ?_
  have e : ((1 : Int32) <<< (k &&& 31)).toBitVec = (1#32) <<< ((k &&& 31).toBitVec.smod 32).toNat := rfl
  rw [e, sl_n h0 h1, BitVec.getLsbD_shiftLeft, BitVec.getLsbD_one]
  simp only [Bool.and_eq_true, decide_eq_true_eq, Bool.not_eq_true', decide_eq_false_iff_not]
  omega
theorem sb_iff {F : FN} {c : Nat} {x : Int} (h0 : 0 ≤ x) : sb F c x ↔ (F c (x / 32).toNat).toBitVec.getLsbD (x % 32).toNat = true := by
  unfold sb sbb
  rw [show x.toNat / 32 = (x / 32).toNat by omega, show x.toNat % 32 = (x % 32).toNat by omega]
/-- y hangs on x -/
def hb (F : FN) (y x : Int) : Prop := (F 103 (19 * y + x / 32).toNat).toBitVec.getLsbD (x % 32).toNat = true
def WT (F : FN) : Int := (F 70 47).toInt
/-- all but the set, the frontier and how many wait stays -/
def KS (F G : FN) : Prop := ∀ c j : Nat, c ≠ 109 → c ≠ 110 → ¬ (c = 70 ∧ j = 47) → G c j = F c j
theorem KS.rfl (F : FN) : KS F F := fun _ _ _ _ _ => _root_.rfl
theorem KS.trans {F G H : FN} (h : KS F G) (g : KS G H) : KS F H := fun c j a b e => (g c j a b e).trans (h c j a b e)
def SU (c : Nat) (F G : FN) : Prop := ∀ y : Int, 0 ≤ y → y < 608 → sb F c y → sb G c y
theorem SU.trans {c : Nat} {F G H : FN} (h : SU c F G) (g : SU c G H) : SU c F H := fun y a b e => g y a b (h y a b e)
/-- what reaching a place does -/
def RC (F G : FN) (x : Int) : Prop :=
  (∀ y : Int, 0 ≤ y → y < 608 → (sb G 109 y ↔ sb F 109 y ∨ y = x)) ∧
  ((sb F 109 x ∧ WT G = WT F ∧ ∀ j, V G 110 j = V F 110 j) ∨ (¬ sb F 109 x ∧ WT G = WT F + 1 ∧ V G 110 (WT F) = x ∧ ∀ j : Int, 0 ≤ j → j ≠ WT F → V G 110 j = V F 110 j)) ∧ KS F G
theorem RC.old {F : FN} {x : Int} (h : sb F 109 x) : RC F F x := ⟨fun y _ _ => ⟨Or.inl, fun q => by rcases q with q | q; (exact q); (rw [q]; exact h)⟩, Or.inl ⟨h, rfl, fun _ => rfl⟩, KS.rfl _⟩
theorem RC.new {F : FN} {x : Int} {w x' z k : Int32} (h0 : 0 ≤ x) (h1 : x < 585) (hk : k.toInt = x % 32) (hw : w = F 109 (x / 32).toNat ||| (1 <<< (k &&& 31))) (hx : x'.toInt = x) (hz : z.toInt = WT F + 1) (hW : 0 ≤ WT F) (hn : ¬ sb F 109 x) : RC F (fun p q => if p = 70 ∧ q = 47 then z else if p = 110 ∧ q = (WT F).toNat then x' else if p = 109 ∧ q = (x / 32).toNat then w else F p q) x := by
  refine ⟨fun y a b => ?_, Or.inr ⟨hn, ?_, ?_, fun j a b => ?_⟩, fun c j a b e => ?_⟩
  · rw [sb_iff a, sb_iff a]
    show (if 109 = 70 ∧ (y / 32).toNat = 47 then z else if 109 = 110 ∧ (y / 32).toNat = (WT F).toNat then x' else if 109 = 109 ∧ (y / 32).toNat = (x / 32).toNat then w else F 109 (y / 32).toNat).toBitVec.getLsbD (y % 32).toNat = true ↔ _
    rw [if_neg (by omega), if_neg (by omega)]
    by_cases q : y / 32 = x / 32
    · rw [if_pos ⟨rfl, by rw [q]⟩, hw, or_bit (by omega) (by omega) (by omega), hk, q]
      constructor
      · intro r
        rcases r with r | r
        · exact Or.inl r
        · exact Or.inr (by omega)
      · intro r
        rcases r with r | r
        · exact Or.inl r
        · exact Or.inr (by omega)
    · rw [if_neg (by omega)]
      constructor
      · exact Or.inl
      · intro r
        rcases r with r | r
        · exact r
        · exact absurd (by rw [r]) q
  · show (if 70 = 70 ∧ 47 = 47 then z else _).toInt = _
    rw [if_pos ⟨rfl, rfl⟩, hz]
  · show (if 110 = 70 ∧ (WT F).toNat = 47 then z else if 110 = 110 ∧ (WT F).toNat = (WT F).toNat then x' else _).toInt = _
    rw [if_neg (by omega), if_pos ⟨rfl, rfl⟩, hx]
  · show (if 110 = 70 ∧ j.toNat = 47 then z else if 110 = 110 ∧ j.toNat = (WT F).toNat then x' else if 110 = 109 ∧ j.toNat = (x / 32).toNat then w else F 110 j.toNat).toInt = _
    rw [if_neg (by omega), if_neg (by omega), if_neg (by omega)]
    rfl
  · show (if c = 70 ∧ j = 47 then z else if c = 110 ∧ j = (WT F).toNat then x' else if c = 109 ∧ j = (x / 32).toNat then w else F c j) = _
    rw [if_neg e, if_neg (by omega), if_neg (by omega)]
theorem cn_miss {F : FN} {c n x : Nat} (hx : x < n) (h0 : ¬ sbb F c x = true) : cn F c n + 1 ≤ n := by
  induction n with
  | zero => omega
  | succ n ih =>
    show cn F c n + (if sbb F c n = true then 1 else 0) + 1 ≤ n + 1
    by_cases q : x = n
    · subst q
      have := cn_le F c x
      rw [if_neg h0]; omega
    · have := ih (by omega)
      split <;> omega
theorem ct_miss {F : FN} {c : Nat} {x : Int} (h0 : 0 ≤ x) (h1 : x < 585) (hn : ¬ sb F c x) : ct F c ≤ 584 := by
  have := cn_miss (F := F) (c := c) (n := 585) (x := x.toNat) (by omega) hn
  unfold ct
  omega
theorem ct_congr {F G : FN} {c : Nat} (h : ∀ j, G c j = F c j) : ct G c = ct F c := by
  have e : ∀ n, cn G c n = cn F c n := fun n => by
    induction n with
    | zero => rfl
    | succ n ih =>
      show cn G c n + (if sbb G c n = true then 1 else 0) = cn F c n + (if sbb F c n = true then 1 else 0)
      rw [ih]
      unfold sbb
      rw [h]
  unfold ct
  rw [e]
theorem sb_congr {F G : FN} {c : Nat} (h : ∀ j, G c j = F c j) (x : Int) : sb G c x ↔ sb F c x := by
  unfold sb sbb
  rw [h]
theorem ct_slt {F G : FN} {c : Nat} {x : Int} (h : SU c F G) (h0 : 0 ≤ x) (h1 : x < 585) (hn : ¬ sb F c x) (hy : sb G c x) : ct F c + 1 ≤ ct G c := by
  have := cn_lt (F := F) (G := G) (c := c) (n := 585) (x := x.toNat) (fun k hk q => h (k : Int) (by omega) (by omega) q) (by omega) hn hy
  unfold ct
  omega
/-- what waits is in the set; what is to do grows less -/
def PH (F G : FN) : Prop := WT G ≤ ct G 109 ∧ 2 * (585 - ct G 109) + WT G ≤ 2 * (585 - ct F 109) + WT F ∧ SU 109 F G ∧ KS F G
theorem PH.rfl {F : FN} (h : WT F ≤ ct F 109) : PH F F := ⟨h, Int.le_refl _, fun _ _ _ q => q, KS.rfl _⟩
theorem PH.trans {F G H : FN} (h : PH F G) (g : PH G H) : PH F H := ⟨g.1, Int.le_trans g.2.1 h.2.1, h.2.2.1.trans g.2.2.1, h.2.2.2.trans g.2.2.2⟩
theorem RC.su {F G : FN} {x : Int} (r : RC F G x) : SU 109 F G := fun y a b q => (r.1 y a b).mpr (Or.inl q)
theorem RC.cnt {F G : FN} {x : Int} (r : RC F G x) (h0 : 0 ≤ x) (h1 : x < 585) : (sb F 109 x → ct G 109 = ct F 109) ∧ (¬ sb F 109 x → ct G 109 = ct F 109 + 1) := by
  have e : ∀ k : Nat, k < 585 → (sbb G 109 k = true ↔ sbb F 109 k = true ∨ k = x.toNat) := fun k hk => by
    have := r.1 (k : Int) (by omega) (by omega)
    unfold sb at this
    rw [show ((k : Int)).toNat = k from rfl] at this
    rw [this]
    constructor
    · intro q
      rcases q with q | q
      · exact Or.inl q
      · exact Or.inr (by omega)
    · intro q
      rcases q with q | q
      · exact Or.inl q
      · exact Or.inr (by omega)
  refine ⟨fun q => ?_, fun q => ?_⟩
  · have a : cn G 109 585 = cn F 109 585 := Nat.le_antisymm (cn_mono (fun k hk g => by
      rcases (e k hk).mp g with w | w
      · exact w
      · rw [w]; exact q)) (cn_mono (fun k hk g => (e k hk).mpr (Or.inl g)))
    unfold ct
    omega
  · have a := cn_add (F := F) (G := G) (c := 109) (n := 585) (x := x.toNat) e (by omega) q
    unfold ct
    omega
theorem RC.ph {F G : FN} {x : Int} (r : RC F G x) (h0 : 0 ≤ x) (h1 : x < 585) (h : WT F ≤ ct F 109) : PH F G := by
  have c := r.cnt h0 h1
  rcases r.2.1 with ⟨a, b, _⟩ | ⟨a, b, _⟩
  · have := c.1 a
    exact ⟨by omega, by omega, r.su, r.2.2⟩
  · have := c.2 a
    exact ⟨by omega, by omega, r.su, r.2.2⟩
theorem PH.pop {F : FN} {z : Int32} (h : WT F ≤ ct F 109) (hz : z.toInt = WT F - 1) : PH F (fun p q => if p = 70 ∧ q = 47 then z else F p q) ∧ WT (fun p q => if p = 70 ∧ q = 47 then z else F p q) = WT F - 1 ∧ ct (fun p q => if p = 70 ∧ q = 47 then z else F p q) 109 = ct F 109 := by
  have e9 : ∀ j, (fun (p q : Nat) => if p = 70 ∧ q = 47 then z else F p q) 109 j = F 109 j := fun j => by
    show (if 109 = 70 ∧ j = 47 then z else F 109 j) = _
    rw [if_neg (by omega)]
  have ew : WT (fun p q => if p = 70 ∧ q = 47 then z else F p q) = WT F - 1 := by
    show (if 70 = 70 ∧ 47 = 47 then z else F 70 47).toInt = _
    rw [if_pos ⟨_root_.rfl, _root_.rfl⟩, hz]
  have ec := ct_congr (F := F) (G := fun p q => if p = 70 ∧ q = 47 then z else F p q) (c := 109) e9
  refine ⟨⟨by omega, by omega, fun y _ _ q => (sb_congr e9 y).mpr q, fun c j a b e => ?_⟩, ew, ec⟩
  show (if c = 70 ∧ j = 47 then z else F c j) = _
  rw [if_neg e]
theorem dX8_goesUp_0 : decode cX8_goesUp 0 = .ok (.iconst 0, 1) := by decide +kernel
theorem dX8_goesUp_1 : decode cX8_goesUp 1 = .ok (.istore_n 3, 1) := by decide +kernel
theorem dX8_goesUp_2 : decode cX8_goesUp 2 = .ok (.iload_n 3, 1) := by decide +kernel
theorem dX8_goesUp_3 : decode cX8_goesUp 3 = .ok (.aload_n 0, 1) := by decide +kernel
theorem dX8_goesUp_4 : decode cX8_goesUp 4 = .ok (.getfield 23, 3) := by decide +kernel
theorem dX8_goesUp_7 : decode cX8_goesUp 7 = .ok (.aload_n 0, 1) := by decide +kernel
theorem dX8_goesUp_8 : decode cX8_goesUp 8 = .ok (.getfield 187, 3) := by decide +kernel
theorem dX8_goesUp_11 : decode cX8_goesUp 11 = .ok (.iaload, 1) := by decide +kernel
theorem dX8_goesUp_12 : decode cX8_goesUp 12 = .ok (.if_icmp .ge 41, 3) := by decide +kernel
theorem dX8_goesUp_15 : decode cX8_goesUp 15 = .ok (.aload_n 0, 1) := by decide +kernel
theorem dX8_goesUp_16 : decode cX8_goesUp 16 = .ok (.iload_n 3, 1) := by decide +kernel
theorem dX8_goesUp_17 : decode cX8_goesUp 17 = .ok (.invokevirtual 271, 3) := by decide +kernel
theorem dX8_goesUp_20 : decode cX8_goesUp 20 = .ok (.iconst 1, 1) := by decide +kernel
theorem dX8_goesUp_21 : decode cX8_goesUp 21 = .ok (.if_icmp .ne 26, 3) := by decide +kernel
theorem dX8_goesUp_24 : decode cX8_goesUp 24 = .ok (.aload_n 0, 1) := by decide +kernel
theorem dX8_goesUp_25 : decode cX8_goesUp 25 = .ok (.getfield 50, 3) := by decide +kernel
theorem dX8_goesUp_28 : decode cX8_goesUp 28 = .ok (.aload_n 0, 1) := by decide +kernel
theorem dX8_goesUp_29 : decode cX8_goesUp 29 = .ok (.iload_n 3, 1) := by decide +kernel
theorem dX8_goesUp_30 : decode cX8_goesUp 30 = .ok (.invokevirtual 268, 3) := by decide +kernel
theorem dX8_goesUp_33 : decode cX8_goesUp 33 = .ok (.iaload, 1) := by decide +kernel
theorem dX8_goesUp_34 : decode cX8_goesUp 34 = .ok (.iload_n 1, 1) := by decide +kernel
theorem dX8_goesUp_35 : decode cX8_goesUp 35 = .ok (.if_icmp .ne 12, 3) := by decide +kernel
theorem dX8_goesUp_38 : decode cX8_goesUp 38 = .ok (.aload_n 0, 1) := by decide +kernel
theorem dX8_goesUp_39 : decode cX8_goesUp 39 = .ok (.iload_n 3, 1) := by decide +kernel
theorem dX8_goesUp_40 : decode cX8_goesUp 40 = .ok (.iload_n 2, 1) := by decide +kernel
theorem dX8_goesUp_41 : decode cX8_goesUp 41 = .ok (.invokestatic 291, 3) := by decide +kernel
theorem dX8_goesUp_44 : decode cX8_goesUp 44 = .ok (.invokevirtual 347, 3) := by decide +kernel
theorem dX8_goesUp_47 : decode cX8_goesUp 47 = .ok (.iinc 3 1, 3) := by decide +kernel
theorem dX8_goesUp_50 : decode cX8_goesUp 50 = .ok (.goto (-48), 3) := by decide +kernel
theorem dX8_goesUp_53 : decode cX8_goesUp 53 = .ok (.return_, 1) := by decide +kernel
theorem dX8_reach_0 : decode cX8_reach 0 = .ok (.aload_n 0, 1) := by decide +kernel
theorem dX8_reach_1 : decode cX8_reach 1 = .ok (.iload_n 1, 1) := by decide +kernel
theorem dX8_reach_2 : decode cX8_reach 2 = .ok (.invokevirtual 341, 3) := by decide +kernel
theorem dX8_reach_5 : decode cX8_reach 5 = .ok (.ifCond .eq 4, 3) := by decide +kernel
theorem dX8_reach_8 : decode cX8_reach 8 = .ok (.return_, 1) := by decide +kernel
theorem dX8_reach_9 : decode cX8_reach 9 = .ok (.aload_n 0, 1) := by decide +kernel
theorem dX8_reach_10 : decode cX8_reach 10 = .ok (.getfield 127, 3) := by decide +kernel
theorem dX8_reach_13 : decode cX8_reach 13 = .ok (.iload_n 1, 1) := by decide +kernel
theorem dX8_reach_14 : decode cX8_reach 14 = .ok (.bipush 32, 2) := by decide +kernel
theorem dX8_reach_16 : decode cX8_reach 16 = .ok (.idiv, 1) := by decide +kernel
theorem dX8_reach_17 : decode cX8_reach 17 = .ok (.dup2, 1) := by decide +kernel
theorem dX8_reach_18 : decode cX8_reach 18 = .ok (.iaload, 1) := by decide +kernel
theorem dX8_reach_19 : decode cX8_reach 19 = .ok (.iconst 1, 1) := by decide +kernel
theorem dX8_reach_20 : decode cX8_reach 20 = .ok (.iload_n 1, 1) := by decide +kernel
theorem dX8_reach_21 : decode cX8_reach 21 = .ok (.bipush 32, 2) := by decide +kernel
theorem dX8_reach_23 : decode cX8_reach 23 = .ok (.irem, 1) := by decide +kernel
theorem dX8_reach_24 : decode cX8_reach 24 = .ok (.ishl, 1) := by decide +kernel
theorem dX8_reach_25 : decode cX8_reach 25 = .ok (.ior, 1) := by decide +kernel
theorem dX8_reach_26 : decode cX8_reach 26 = .ok (.iastore, 1) := by decide +kernel
theorem dX8_reach_27 : decode cX8_reach 27 = .ok (.aload_n 0, 1) := by decide +kernel
theorem dX8_reach_28 : decode cX8_reach 28 = .ok (.getfield 130, 3) := by decide +kernel
theorem dX8_reach_31 : decode cX8_reach 31 = .ok (.aload_n 0, 1) := by decide +kernel
theorem dX8_reach_32 : decode cX8_reach 32 = .ok (.getfield 344, 3) := by decide +kernel
theorem dX8_reach_35 : decode cX8_reach 35 = .ok (.iload_n 1, 1) := by decide +kernel
theorem dX8_reach_36 : decode cX8_reach 36 = .ok (.iastore, 1) := by decide +kernel
theorem dX8_reach_37 : decode cX8_reach 37 = .ok (.aload_n 0, 1) := by decide +kernel
theorem dX8_reach_38 : decode cX8_reach 38 = .ok (.dup, 1) := by decide +kernel
theorem dX8_reach_39 : decode cX8_reach 39 = .ok (.getfield 344, 3) := by decide +kernel
theorem dX8_reach_42 : decode cX8_reach 42 = .ok (.iconst 1, 1) := by decide +kernel
theorem dX8_reach_43 : decode cX8_reach 43 = .ok (.iadd, 1) := by decide +kernel
theorem dX8_reach_44 : decode cX8_reach 44 = .ok (.putfield 344, 3) := by decide +kernel
theorem dX8_reach_47 : decode cX8_reach 47 = .ok (.return_, 1) := by decide +kernel
theorem dX8_reachAll_0 : decode cX8_reachAll 0 = .ok (.iconst 0, 1) := by decide +kernel
theorem dX8_reachAll_1 : decode cX8_reachAll 1 = .ok (.istore_n 2, 1) := by decide +kernel
theorem dX8_reachAll_2 : decode cX8_reachAll 2 = .ok (.iload_n 2, 1) := by decide +kernel
theorem dX8_reachAll_3 : decode cX8_reachAll 3 = .ok (.aload_n 0, 1) := by decide +kernel
theorem dX8_reachAll_4 : decode cX8_reachAll 4 = .ok (.iload_n 1, 1) := by decide +kernel
theorem dX8_reachAll_5 : decode cX8_reachAll 5 = .ok (.invokevirtual 271, 3) := by decide +kernel
theorem dX8_reachAll_8 : decode cX8_reachAll 8 = .ok (.iconst 1, 1) := by decide +kernel
theorem dX8_reachAll_9 : decode cX8_reachAll 9 = .ok (.if_icmp .ne 8, 3) := by decide +kernel
theorem dX8_reachAll_12 : decode cX8_reachAll 12 = .ok (.bipush 13, 2) := by decide +kernel
theorem dX8_reachAll_14 : decode cX8_reachAll 14 = .ok (.goto 4, 3) := by decide +kernel
theorem dX8_reachAll_17 : decode cX8_reachAll 17 = .ok (.iconst 1, 1) := by decide +kernel
theorem dX8_reachAll_18 : decode cX8_reachAll 18 = .ok (.if_icmp .ge 18, 3) := by decide +kernel
theorem dX8_reachAll_21 : decode cX8_reachAll 21 = .ok (.aload_n 0, 1) := by decide +kernel
theorem dX8_reachAll_22 : decode cX8_reachAll 22 = .ok (.iload_n 1, 1) := by decide +kernel
theorem dX8_reachAll_23 : decode cX8_reachAll 23 = .ok (.iload_n 2, 1) := by decide +kernel
theorem dX8_reachAll_24 : decode cX8_reachAll 24 = .ok (.invokestatic 291, 3) := by decide +kernel
theorem dX8_reachAll_27 : decode cX8_reachAll 27 = .ok (.invokevirtual 347, 3) := by decide +kernel
theorem dX8_reachAll_30 : decode cX8_reachAll 30 = .ok (.iinc 2 1, 3) := by decide +kernel
theorem dX8_reachAll_33 : decode cX8_reachAll 33 = .ok (.goto (-31), 3) := by decide +kernel
theorem dX8_reachAll_36 : decode cX8_reachAll 36 = .ok (.return_, 1) := by decide +kernel
set_option maxHeartbeats 4000000 in
set_option maxRecDepth 100000 in
theorem s_X8_isKept_x (l : Launch) (d : Nat) {P : PP} {h : HP} (hv : Iv P h) (a2 : Int32) (a2l : 0 ≤ a2.toInt) (a2u : a2.toInt ≤ 584) : Mt l yX8_isKept cX8_isKept 2 (some .boolean) (d + 1) [.ref 70, .int a2] h 0 0 (fun r h' => ∃ v : Int32, r = some (.int v) ∧ 0 ≤ v.toInt ∧ v.toInt ≤ 1 ∧ h = h' ∧ ((v.toInt = 1 → sb h.2.1 112 a2.toInt) ∧ (v.toInt = 0 → ¬ sb h.2.1 112 a2.toInt))) := by
  refine Mt_iv hv (by decide) (Nat.le_of_ble_eq_true rfl) ?_
  show Go l RX8 cX8_isKept 2 (g_rm (d + 1) 0 0) "isKept" (some .boolean) 117 0 0 (fun _ _ => True) (fun r h' => ∃ v : Int32, r = some (.int v) ∧ 0 ≤ v.toInt ∧ v.toInt ≤ 1 ∧ h = h' ∧ ((v.toInt = 1 → sb h.2.1 112 a2.toInt) ∧ (v.toInt = 0 → ¬ sb h.2.1 112 a2.toInt))) 0 0 [(0, .ref 70), (1, .int a2)] [] h
  refine go_aload_n (pc := 0) rfl dX8_isKept_0 ?_
  refine gi_getF (pc := 1) (q := 112) hv fL_X8_136 rfl (Nat.le_of_ble_eq_true rfl) rfl (hv.rf (by decide)) dX8_isKept_1 ?_
  refine go_iload_n (pc := 4) rfl dX8_isKept_4 ?_
  refine go_bipush (pc := 5) (v := 32) (by decide) dX8_isKept_5 ?_
  refine gf_idiv (pc := 7) (ti_rfl a2) (ti_c (v := 32) (a := 32) (by decide)) (by omega) (by omega) dX8_isKept_7 (fun v1 e2 => ?_)
  refine gi_iald (pc := 8) (lo := -2147483648) (hi := 2147483647) (len := 19) hv e2 rfl (by omega) (by omega) (fun _ => rfl) dX8_isKept_8 (fun v3 v3l v3u v3w => ?_)
  refine go_iload_n (pc := 9) rfl dX8_isKept_9 ?_
  refine go_bipush (pc := 10) (v := 32) (by decide) dX8_isKept_10 ?_
  refine gf_irem (pc := 12) (ti_rfl a2) (ti_c (v := 32) (a := 32) (by decide)) (by omega) (by omega) dX8_isKept_12 (fun v4 e5 => ?_)
  refine gx_iushr (pc := 13) dX8_isKept_13 (fun v6 v6x => ?_)
  refine go_iconst (pc := 14) (v := 1) (by decide) dX8_isKept_14 ?_
  refine gx_iand (pc := 15) dX8_isKept_15 (fun v7 v7x => ?_)
  have v7l : 0 ≤ v7.toInt := by rw [v7x]; exact (ti_mask (ti_c (v := 1) (a := 1) (by decide)) (by omega)).1
  have v7u : v7.toInt ≤ 1 := by rw [v7x]; exact (ti_mask (ti_c (v := 1) (a := 1) (by decide)) (by omega)).2
  refine go_iconst (pc := 16) (v := 1) (by decide) dX8_isKept_16 ?_
  refine gf_icmp_ne (pc := 17) (tgt := 24) (ti_rfl v7) (ti_c (v := 1) (a := 1) (by decide)) (by decide) dX8_isKept_17 (fun q8 => ?_) (fun q8 => ?_)
  ·
    refine go_iconst (pc := 24) (v := 0) (by decide) dX8_isKept_24 ?_
    exact gi_zret (pc := 25) (ti_c (v := 0) (a := 0) (by decide)) (by omega) (by omega) ⟨_, rfl, (by rw [show (0 : Int32).toInt = 0 from (ti_c (v := 0) (a := 0) (by decide))]; omega), (by rw [show (0 : Int32).toInt = 0 from (ti_c (v := 0) (a := 0) (by decide))]; omega), rfl, ⟨fun q => absurd q (by decide), fun _ q => absurd (show (v7 : Int32).toInt = 1 from by rw [v7x, v6x]; exact (ur_bit (by rw [(show (v4 : Int32).toInt = (a2.toInt % 32) from e5)]; omega) (by rw [(show (v4 : Int32).toInt = (a2.toInt % 32) from e5)]; omega)).mpr (by rw [(show (v4 : Int32).toInt = (a2.toInt % 32) from e5), v3w]; exact (sb_iff (by omega)).mp q)) (by omega)⟩⟩ hv dX8_isKept_25
  ·
    refine go_iconst (pc := 20) (v := 1) (by decide) dX8_isKept_20 ?_
    refine go_goto (pc := 21) (tgt := 25) (by decide) dX8_isKept_21 ?_
    exact gi_zret (pc := 25) (ti_c (v := 1) (a := 1) (by decide)) (by omega) (by omega) ⟨_, rfl, (by rw [show (1 : Int32).toInt = 1 from (ti_c (v := 1) (a := 1) (by decide))]; omega), (by rw [show (1 : Int32).toInt = 1 from (ti_c (v := 1) (a := 1) (by decide))]; omega), rfl, ⟨fun _ => (sb_iff (by omega)).mpr (by rw [← v3w, ← (show (v4 : Int32).toInt = (a2.toInt % 32) from e5)]; exact (ur_bit (by rw [(show (v4 : Int32).toInt = (a2.toInt % 32) from e5)]; omega) (by rw [(show (v4 : Int32).toInt = (a2.toInt % 32) from e5)]; omega)).mp (by rw [← v6x, ← v7x]; omega)), fun q => absurd q (by decide)⟩⟩ hv dX8_isKept_25
