/-! sets of places: words of 32 bits -/
def sbb (F : FN) (c n : Nat) : Bool := (F c (n / 32)).toBitVec.getLsbD (n % 32)
def sb (F : FN) (c : Nat) (x : Int) : Prop := sbb F c x.toNat = true
/-- how many of the first n are in -/
def cn (F : FN) (c : Nat) : Nat → Nat
  | 0 => 0
  | n + 1 => cn F c n + (if sbb F c n = true then 1 else 0)
theorem cn_le (F : FN) (c n : Nat) : cn F c n ≤ n := by
  induction n with
  | zero => exact Nat.le_refl _
  | succ n ih =>
    show cn F c n + (if sbb F c n = true then 1 else 0) ≤ n + 1
    split <;> omega
theorem cn_mono {F G : FN} {c n : Nat} (h : ∀ k, k < n → sbb F c k = true → sbb G c k = true) : cn F c n ≤ cn G c n := by
  induction n with
  | zero => exact Nat.le_refl _
  | succ n ih =>
    have i := ih (fun k hk => h k (by omega))
    have j := h n (by omega)
    show cn F c n + (if sbb F c n = true then 1 else 0) ≤ cn G c n + (if sbb G c n = true then 1 else 0)
    by_cases q : sbb F c n = true
    · rw [if_pos q, if_pos (j q)]; omega
    · rw [if_neg q]; omega
theorem cn_lt {F G : FN} {c n x : Nat} (h : ∀ k, k < n → sbb F c k = true → sbb G c k = true) (hx : x < n) (h0 : ¬ sbb F c x = true) (h1 : sbb G c x = true) : cn F c n + 1 ≤ cn G c n := by
  induction n with
  | zero => omega
  | succ n ih =>
    have j := h n (by omega)
    show cn F c n + (if sbb F c n = true then 1 else 0) + 1 ≤ cn G c n + (if sbb G c n = true then 1 else 0)
    by_cases q : x = n
    · subst q
      have i := cn_mono (F := F) (G := G) (c := c) (n := x) (fun k hk => h k (by omega))
      rw [if_neg h0, if_pos h1]; omega
    · have i := ih (fun k hk => h k (by omega)) (by omega)
      by_cases q2 : sbb F c n = true
      · rw [if_pos q2, if_pos (j q2)]; omega
      · rw [if_neg q2]; split <;> omega
theorem cn_add {F G : FN} {c n x : Nat} (h : ∀ k, k < n → (sbb G c k = true ↔ sbb F c k = true ∨ k = x)) (hx : x < n) (h0 : ¬ sbb F c x = true) : cn G c n = cn F c n + 1 := by
  induction n with
  | zero => omega
  | succ n ih =>
    have j := h n (by omega)
    show cn G c n + (if sbb G c n = true then 1 else 0) = cn F c n + (if sbb F c n = true then 1 else 0) + 1
    by_cases q : x = n
    · subst q
      have e : cn G c x = cn F c x := by
        refine Nat.le_antisymm (cn_mono (fun k hk g => ?_)) (cn_mono (fun k hk g => ?_))
        · rcases (h k (by omega)).mp g with w | w
          · exact w
          · omega
        · exact (h k (by omega)).mpr (Or.inl g)
      rw [if_neg h0, if_pos (j.mpr (Or.inr rfl)), e]
    · have i := ih (fun k hk => h k (by omega)) (by omega)
      rw [i]
      by_cases q2 : sbb F c n = true
      · rw [if_pos q2, if_pos (j.mpr (Or.inl q2))]
      · rw [if_neg q2, if_neg (fun g => by rcases j.mp g with w | w; (exact q2 w); (omega))]
/-- how many places are in -/
def ct (F : FN) (c : Nat) : Int := (cn F c 585 : Int)
theorem ct_lo (F : FN) (c : Nat) : 0 ≤ ct F c := by unfold ct; omega
theorem ct_hi (F : FN) (c : Nat) : ct F c ≤ 585 := by
  unfold ct
  have := cn_le F c 585
  omega
/-! bits of ints -/
theorem sl_tab : ∀ n : Fin 32, (((Int32.ofNat n.val) &&& 31).toBitVec.smod 32).toNat = n.val := by decide +kernel
theorem sr_tab : ∀ n : Fin 32, (((Int32.ofNat n.val).toUInt32 &&& Int32.toUInt32 31).toBitVec % 32).toNat = n.val := by decide +kernel
theorem i32_of {k : Int32} (h0 : 0 ≤ k.toInt) : k = Int32.ofNat k.toInt.toNat := by
  apply Int32.toInt_inj.mp
  have := Int32.toInt_lt k
  rw [Int32.toInt_ofNat_of_lt (by omega)]
  omega
theorem sl_n {k : Int32} (h0 : 0 ≤ k.toInt) (h1 : k.toInt ≤ 31) : ((k &&& 31).toBitVec.smod 32).toNat = k.toInt.toNat := by
  have q : (((Int32.ofNat k.toInt.toNat) &&& 31).toBitVec.smod 32).toNat = k.toInt.toNat := sl_tab ⟨k.toInt.toNat, by omega⟩
  rw [← i32_of h0] at q
  exact q
theorem sr_n {k : Int32} (h0 : 0 ≤ k.toInt) (h1 : k.toInt ≤ 31) : ((k.toUInt32 &&& Int32.toUInt32 31).toBitVec % 32).toNat = k.toInt.toNat := by
  have q : (((Int32.ofNat k.toInt.toNat).toUInt32 &&& Int32.toUInt32 31).toBitVec % 32).toNat = k.toInt.toNat := sr_tab ⟨k.toInt.toNat, by omega⟩
  rw [← i32_of h0] at q
  exact q
theorem and_one32 (y : Int32) : (y &&& 1).toInt = 1 ↔ y.toBitVec.getLsbD 0 = true := by
  have h1 : (y &&& 1).toInt = 1 ↔ y &&& 1 = 1 := ⟨fun h => Int32.toInt_inj.mp (h.trans (by decide)), fun h => by rw [h]; decide⟩
  rw [h1, ← Int32.toBitVec_inj, Int32.toBitVec_and]
  have e : (1 : Int32).toBitVec = 1#32 := rfl
  rw [e]
  constructor
  · intro h
    have q := congrArg (fun z : BitVec 32 => z.getLsbD 0) h
    have q2 : (y.toBitVec &&& 1#32).getLsbD 0 = (1#32).getLsbD 0 := q
    rw [BitVec.getLsbD_and, BitVec.getLsbD_one] at q2
    revert q2
    cases y.toBitVec.getLsbD 0 <;> simp
  · intro h
    apply BitVec.eq_of_getLsbD_eq
    intro i hi
    rw [BitVec.getLsbD_and, BitVec.getLsbD_one]
    by_cases q : i = 0
    · subst q; rw [h]; simp
    · simp [q]
/-- word >>> k & 1 -/
theorem ur_bit {x : Int32} {k : Int32} (h0 : 0 ≤ k.toInt) (h1 : k.toInt ≤ 31) : ((x.toUInt32 >>> (k.toUInt32 &&& Int32.toUInt32 31)).toInt32 &&& 1).toInt = 1 ↔ x.toBitVec.getLsbD k.toInt.toNat = true := by
  rw [and_one32]
  have e : ((x.toUInt32 >>> (k.toUInt32 &&& Int32.toUInt32 31)).toInt32).toBitVec = x.toBitVec >>> ((k.toUInt32 &&& Int32.toUInt32 31).toBitVec % 32).toNat := rfl
  rw [e, sr_n h0 h1, BitVec.getLsbD_ushiftRight, Nat.add_zero]
/-- word >> k & 1 -/
theorem sr_bit {x : Int32} {k : Int32} (h0 : 0 ≤ k.toInt) (h1 : k.toInt ≤ 31) : ((x >>> (k &&& 31)) &&& 1).toInt = 1 ↔ x.toBitVec.getLsbD k.toInt.toNat = true := by
  rw [and_one32]
  have e : (x >>> (k &&& 31)).toBitVec = x.toBitVec.sshiftRight ((k &&& 31).toBitVec.smod 32).toNat := rfl
  rw [e, sl_n h0 h1, BitVec.getLsbD_sshiftRight, if_pos (by omega)]
  simp
theorem or_bit {x k : Int32} (h0 : 0 ≤ k.toInt) (h1 : k.toInt ≤ 31) {j : Nat} (hj : j < 32) : (x ||| (1 <<< (k &&& 31))).toBitVec.getLsbD j = true ↔ x.toBitVec.getLsbD j = true ∨ j = k.toInt.toNat := by
  rw [Int32.toBitVec_or, BitVec.getLsbD_or, Bool.or_eq_true]
  refine or_congr Iff.rfl ?_
  have e : ((1 : Int32) <<< (k &&& 31)).toBitVec = (1#32) <<< ((k &&& 31).toBitVec.smod 32).toNat := rfl
  rw [e, sl_n h0 h1, BitVec.getLsbD_shiftLeft, BitVec.getLsbD_one]
  simp only [Bool.and_eq_true, decide_eq_true_eq, Bool.not_eq_true', decide_eq_false_iff_not]
  omega
theorem sb_iff {F : FN} {c : Nat} {x : Int} (h0 : 0 ≤ x) : sb F c x ↔ (F c (x / 32).toNat).toBitVec.getLsbD (x % 32).toNat = true := by
  unfold sb sbb
  rw [show x.toNat / 32 = (x / 32).toNat by omega, show x.toNat % 32 = (x % 32).toNat by omega]
/-- y hangs on x -/
def hb (F : FN) (y x : Int) : Prop := (F 103 (19 * y + x / 32).toNat).toBitVec.getLsbD (x % 32).toNat = true
def WT (F : FN) : Int := (F 70 47).toInt
/-- all but the set, the frontier and how many wait stays -/
def KS (F G : FN) : Prop := ∀ c j : Nat, c ≠ 109 → c ≠ 110 → ¬ (c = 70 ∧ j = 47) → G c j = F c j
theorem KS.rfl (F : FN) : KS F F := fun _ _ _ _ _ => _root_.rfl
theorem KS.trans {F G H : FN} (h : KS F G) (g : KS G H) : KS F H := fun c j a b e => (g c j a b e).trans (h c j a b e)
def SU (c : Nat) (F G : FN) : Prop := ∀ y : Int, 0 ≤ y → y < 608 → sb F c y → sb G c y
theorem SU.trans {c : Nat} {F G H : FN} (h : SU c F G) (g : SU c G H) : SU c F H := fun y a b e => g y a b (h y a b e)
/-- what reaching a place does -/
def RC (F G : FN) (x : Int) : Prop :=
  (∀ y : Int, 0 ≤ y → y < 608 → (sb G 109 y ↔ sb F 109 y ∨ y = x)) ∧
  ((sb F 109 x ∧ WT G = WT F ∧ ∀ j, V G 110 j = V F 110 j) ∨ (¬ sb F 109 x ∧ WT G = WT F + 1 ∧ V G 110 (WT F) = x ∧ ∀ j : Int, 0 ≤ j → j ≠ WT F → V G 110 j = V F 110 j)) ∧ KS F G
theorem RC.old {F : FN} {x : Int} (h : sb F 109 x) : RC F F x := ⟨fun y _ _ => ⟨Or.inl, fun q => by rcases q with q | q; (exact q); (rw [q]; exact h)⟩, Or.inl ⟨h, rfl, fun _ => rfl⟩, KS.rfl _⟩
theorem RC.new {F : FN} {x : Int} {w x' z k : Int32} (h0 : 0 ≤ x) (h1 : x < 585) (hk : k.toInt = x % 32) (hw : w = F 109 (x / 32).toNat ||| (1 <<< (k &&& 31))) (hx : x'.toInt = x) (hz : z.toInt = WT F + 1) (hW : 0 ≤ WT F) (hn : ¬ sb F 109 x) : RC F (fun p q => if p = 70 ∧ q = 47 then z else if p = 110 ∧ q = (WT F).toNat then x' else if p = 109 ∧ q = (x / 32).toNat then w else F p q) x := by
  refine ⟨fun y a b => ?_, Or.inr ⟨hn, ?_, ?_, fun j a b => ?_⟩, fun c j a b e => ?_⟩
  · rw [sb_iff a, sb_iff a]
    show (if 109 = 70 ∧ (y / 32).toNat = 47 then z else if 109 = 110 ∧ (y / 32).toNat = (WT F).toNat then x' else if 109 = 109 ∧ (y / 32).toNat = (x / 32).toNat then w else F 109 (y / 32).toNat).toBitVec.getLsbD (y % 32).toNat = true ↔ _
    rw [if_neg (by omega), if_neg (by omega)]
    by_cases q : y / 32 = x / 32
    · rw [if_pos ⟨rfl, by rw [q]⟩, hw, or_bit (by omega) (by omega) (by omega), hk, q]
      constructor
      · intro r
        rcases r with r | r
        · exact Or.inl r
        · exact Or.inr (by omega)
      · intro r
        rcases r with r | r
        · exact Or.inl r
        · exact Or.inr (by omega)
    · rw [if_neg (by omega)]
      constructor
      · exact Or.inl
      · intro r
        rcases r with r | r
        · exact r
        · exact absurd (by rw [r]) q
  · show (if 70 = 70 ∧ 47 = 47 then z else _).toInt = _
    rw [if_pos ⟨rfl, rfl⟩, hz]
  · show (if 110 = 70 ∧ (WT F).toNat = 47 then z else if 110 = 110 ∧ (WT F).toNat = (WT F).toNat then x' else _).toInt = _
    rw [if_neg (by omega), if_pos ⟨rfl, rfl⟩, hx]
  · show (if 110 = 70 ∧ j.toNat = 47 then z else if 110 = 110 ∧ j.toNat = (WT F).toNat then x' else if 110 = 109 ∧ j.toNat = (x / 32).toNat then w else F 110 j.toNat).toInt = _
    rw [if_neg (by omega), if_neg (by omega), if_neg (by omega)]
    rfl
  · show (if c = 70 ∧ j = 47 then z else if c = 110 ∧ j = (WT F).toNat then x' else if c = 109 ∧ j = (x / 32).toNat then w else F c j) = _
    rw [if_neg e, if_neg (by omega), if_neg (by omega)]
theorem cn_miss {F : FN} {c n x : Nat} (hx : x < n) (h0 : ¬ sbb F c x = true) : cn F c n + 1 ≤ n := by
  induction n with
  | zero => omega
  | succ n ih =>
    show cn F c n + (if sbb F c n = true then 1 else 0) + 1 ≤ n + 1
    by_cases q : x = n
    · subst q
      have := cn_le F c x
      rw [if_neg h0]; omega
    · have := ih (by omega)
      split <;> omega
theorem ct_miss {F : FN} {c : Nat} {x : Int} (h0 : 0 ≤ x) (h1 : x < 585) (hn : ¬ sb F c x) : ct F c ≤ 584 := by
  have := cn_miss (F := F) (c := c) (n := 585) (x := x.toNat) (by omega) hn
  unfold ct
  omega
theorem ct_congr {F G : FN} {c : Nat} (h : ∀ j, G c j = F c j) : ct G c = ct F c := by
  have e : ∀ n, cn G c n = cn F c n := fun n => by
    induction n with
    | zero => rfl
    | succ n ih =>
      show cn G c n + (if sbb G c n = true then 1 else 0) = cn F c n + (if sbb F c n = true then 1 else 0)
      rw [ih]
      unfold sbb
      rw [h]
  unfold ct
  rw [e]
theorem sb_congr {F G : FN} {c : Nat} (h : ∀ j, G c j = F c j) (x : Int) : sb G c x ↔ sb F c x := by
  unfold sb sbb
  rw [h]
theorem ct_su {F G : FN} {c : Nat} (h : SU c F G) : ct F c ≤ ct G c := by
  have := cn_mono (F := F) (G := G) (c := c) (n := 585) (fun k hk q => h (k : Int) (by omega) (by omega) q)
  unfold ct
  omega
theorem ct_slt {F G : FN} {c : Nat} {x : Int} (h : SU c F G) (h0 : 0 ≤ x) (h1 : x < 585) (hn : ¬ sb F c x) (hy : sb G c x) : ct F c + 1 ≤ ct G c := by
  have := cn_lt (F := F) (G := G) (c := c) (n := 585) (x := x.toNat) (fun k hk q => h (k : Int) (by omega) (by omega) q) (by omega) hn hy
  unfold ct
  omega
/-- what waits is in the set; what is to do grows less -/
def PH (F G : FN) : Prop := WT G ≤ ct G 109 ∧ 2 * (585 - ct G 109) + WT G ≤ 2 * (585 - ct F 109) + WT F ∧ SU 109 F G ∧ KS F G
theorem PH.rfl {F : FN} (h : WT F ≤ ct F 109) : PH F F := ⟨h, Int.le_refl _, fun _ _ _ q => q, KS.rfl _⟩
theorem PH.trans {F G H : FN} (h : PH F G) (g : PH G H) : PH F H := ⟨g.1, Int.le_trans g.2.1 h.2.1, h.2.2.1.trans g.2.2.1, h.2.2.2.trans g.2.2.2⟩
theorem RC.su {F G : FN} {x : Int} (r : RC F G x) : SU 109 F G := fun y a b q => (r.1 y a b).mpr (Or.inl q)
theorem RC.cnt {F G : FN} {x : Int} (r : RC F G x) (h0 : 0 ≤ x) (h1 : x < 585) : (sb F 109 x → ct G 109 = ct F 109) ∧ (¬ sb F 109 x → ct G 109 = ct F 109 + 1) := by
  have e : ∀ k : Nat, k < 585 → (sbb G 109 k = true ↔ sbb F 109 k = true ∨ k = x.toNat) := fun k hk => by
    have := r.1 (k : Int) (by omega) (by omega)
    unfold sb at this
    rw [show ((k : Int)).toNat = k from rfl] at this
    rw [this]
    constructor
    · intro q
      rcases q with q | q
      · exact Or.inl q
      · exact Or.inr (by omega)
    · intro q
      rcases q with q | q
      · exact Or.inl q
      · exact Or.inr (by omega)
  refine ⟨fun q => ?_, fun q => ?_⟩
  · have a : cn G 109 585 = cn F 109 585 := Nat.le_antisymm (cn_mono (fun k hk g => by
      rcases (e k hk).mp g with w | w
      · exact w
      · rw [w]; exact q)) (cn_mono (fun k hk g => (e k hk).mpr (Or.inl g)))
    unfold ct
    omega
  · have a := cn_add (F := F) (G := G) (c := 109) (n := 585) (x := x.toNat) e (by omega) q
    unfold ct
    omega
theorem RC.ph {F G : FN} {x : Int} (r : RC F G x) (h0 : 0 ≤ x) (h1 : x < 585) (h : WT F ≤ ct F 109) : PH F G := by
  have c := r.cnt h0 h1
  rcases r.2.1 with ⟨a, b, _⟩ | ⟨a, b, _⟩
  · have := c.1 a
    exact ⟨by omega, by omega, r.su, r.2.2⟩
  · have := c.2 a
    exact ⟨by omega, by omega, r.su, r.2.2⟩
theorem PH.pop {F : FN} {z : Int32} (h : WT F ≤ ct F 109) (hz : z.toInt = WT F - 1) : PH F (fun p q => if p = 70 ∧ q = 47 then z else F p q) ∧ WT (fun p q => if p = 70 ∧ q = 47 then z else F p q) = WT F - 1 ∧ ct (fun p q => if p = 70 ∧ q = 47 then z else F p q) 109 = ct F 109 := by
  have e9 : ∀ j, (fun (p q : Nat) => if p = 70 ∧ q = 47 then z else F p q) 109 j = F 109 j := fun j => by
    show (if 109 = 70 ∧ j = 47 then z else F 109 j) = _
    rw [if_neg (by omega)]
  have ew : WT (fun p q => if p = 70 ∧ q = 47 then z else F p q) = WT F - 1 := by
    show (if 70 = 70 ∧ 47 = 47 then z else F 70 47).toInt = _
    rw [if_pos ⟨_root_.rfl, _root_.rfl⟩, hz]
  have ec := ct_congr (F := F) (G := fun p q => if p = 70 ∧ q = 47 then z else F p q) (c := 109) e9
  refine ⟨⟨by omega, by omega, fun y _ _ q => (sb_congr e9 y).mpr q, fun c j a b e => ?_⟩, ew, ec⟩
  show (if c = 70 ∧ j = 47 then z else F c j) = _
  rw [if_neg e]
theorem dX8_goesUp_0 : decode cX8_goesUp 0 = .ok (.iconst 0, 1) := by decide +kernel
theorem dX8_goesUp_1 : decode cX8_goesUp 1 = .ok (.istore_n 3, 1) := by decide +kernel
theorem dX8_goesUp_2 : decode cX8_goesUp 2 = .ok (.iload_n 3, 1) := by decide +kernel
theorem dX8_goesUp_3 : decode cX8_goesUp 3 = .ok (.aload_n 0, 1) := by decide +kernel
theorem dX8_goesUp_4 : decode cX8_goesUp 4 = .ok (.getfield 23, 3) := by decide +kernel
theorem dX8_goesUp_7 : decode cX8_goesUp 7 = .ok (.aload_n 0, 1) := by decide +kernel
theorem dX8_goesUp_8 : decode cX8_goesUp 8 = .ok (.getfield 187, 3) := by decide +kernel
theorem dX8_goesUp_11 : decode cX8_goesUp 11 = .ok (.iaload, 1) := by decide +kernel
theorem dX8_goesUp_12 : decode cX8_goesUp 12 = .ok (.if_icmp .ge 41, 3) := by decide +kernel
theorem dX8_goesUp_15 : decode cX8_goesUp 15 = .ok (.aload_n 0, 1) := by decide +kernel
theorem dX8_goesUp_16 : decode cX8_goesUp 16 = .ok (.iload_n 3, 1) := by decide +kernel
theorem dX8_goesUp_17 : decode cX8_goesUp 17 = .ok (.invokevirtual 271, 3) := by decide +kernel
theorem dX8_goesUp_20 : decode cX8_goesUp 20 = .ok (.iconst 1, 1) := by decide +kernel
theorem dX8_goesUp_21 : decode cX8_goesUp 21 = .ok (.if_icmp .ne 26, 3) := by decide +kernel
theorem dX8_goesUp_24 : decode cX8_goesUp 24 = .ok (.aload_n 0, 1) := by decide +kernel
theorem dX8_goesUp_25 : decode cX8_goesUp 25 = .ok (.getfield 50, 3) := by decide +kernel
theorem dX8_goesUp_28 : decode cX8_goesUp 28 = .ok (.aload_n 0, 1) := by decide +kernel
theorem dX8_goesUp_29 : decode cX8_goesUp 29 = .ok (.iload_n 3, 1) := by decide +kernel
theorem dX8_goesUp_30 : decode cX8_goesUp 30 = .ok (.invokevirtual 268, 3) := by decide +kernel
theorem dX8_goesUp_33 : decode cX8_goesUp 33 = .ok (.iaload, 1) := by decide +kernel
theorem dX8_goesUp_34 : decode cX8_goesUp 34 = .ok (.iload_n 1, 1) := by decide +kernel
theorem dX8_goesUp_35 : decode cX8_goesUp 35 = .ok (.if_icmp .ne 12, 3) := by decide +kernel
theorem dX8_goesUp_38 : decode cX8_goesUp 38 = .ok (.aload_n 0, 1) := by decide +kernel
theorem dX8_goesUp_39 : decode cX8_goesUp 39 = .ok (.iload_n 3, 1) := by decide +kernel
theorem dX8_goesUp_40 : decode cX8_goesUp 40 = .ok (.iload_n 2, 1) := by decide +kernel
theorem dX8_goesUp_41 : decode cX8_goesUp 41 = .ok (.invokestatic 291, 3) := by decide +kernel
theorem dX8_goesUp_44 : decode cX8_goesUp 44 = .ok (.invokevirtual 347, 3) := by decide +kernel
theorem dX8_goesUp_47 : decode cX8_goesUp 47 = .ok (.iinc 3 1, 3) := by decide +kernel
theorem dX8_goesUp_50 : decode cX8_goesUp 50 = .ok (.goto (-48), 3) := by decide +kernel
theorem dX8_goesUp_53 : decode cX8_goesUp 53 = .ok (.return_, 1) := by decide +kernel
theorem dX8_reach_0 : decode cX8_reach 0 = .ok (.aload_n 0, 1) := by decide +kernel
theorem dX8_reach_1 : decode cX8_reach 1 = .ok (.iload_n 1, 1) := by decide +kernel
theorem dX8_reach_2 : decode cX8_reach 2 = .ok (.invokevirtual 341, 3) := by decide +kernel
theorem dX8_reach_5 : decode cX8_reach 5 = .ok (.ifCond .eq 4, 3) := by decide +kernel
theorem dX8_reach_8 : decode cX8_reach 8 = .ok (.return_, 1) := by decide +kernel
theorem dX8_reach_9 : decode cX8_reach 9 = .ok (.aload_n 0, 1) := by decide +kernel
theorem dX8_reach_10 : decode cX8_reach 10 = .ok (.getfield 127, 3) := by decide +kernel
theorem dX8_reach_13 : decode cX8_reach 13 = .ok (.iload_n 1, 1) := by decide +kernel
theorem dX8_reach_14 : decode cX8_reach 14 = .ok (.bipush 32, 2) := by decide +kernel
theorem dX8_reach_16 : decode cX8_reach 16 = .ok (.idiv, 1) := by decide +kernel
theorem dX8_reach_17 : decode cX8_reach 17 = .ok (.dup2, 1) := by decide +kernel
theorem dX8_reach_18 : decode cX8_reach 18 = .ok (.iaload, 1) := by decide +kernel
theorem dX8_reach_19 : decode cX8_reach 19 = .ok (.iconst 1, 1) := by decide +kernel
theorem dX8_reach_20 : decode cX8_reach 20 = .ok (.iload_n 1, 1) := by decide +kernel
theorem dX8_reach_21 : decode cX8_reach 21 = .ok (.bipush 32, 2) := by decide +kernel
theorem dX8_reach_23 : decode cX8_reach 23 = .ok (.irem, 1) := by decide +kernel
theorem dX8_reach_24 : decode cX8_reach 24 = .ok (.ishl, 1) := by decide +kernel
theorem dX8_reach_25 : decode cX8_reach 25 = .ok (.ior, 1) := by decide +kernel
theorem dX8_reach_26 : decode cX8_reach 26 = .ok (.iastore, 1) := by decide +kernel
theorem dX8_reach_27 : decode cX8_reach 27 = .ok (.aload_n 0, 1) := by decide +kernel
theorem dX8_reach_28 : decode cX8_reach 28 = .ok (.getfield 130, 3) := by decide +kernel
theorem dX8_reach_31 : decode cX8_reach 31 = .ok (.aload_n 0, 1) := by decide +kernel
theorem dX8_reach_32 : decode cX8_reach 32 = .ok (.getfield 344, 3) := by decide +kernel
theorem dX8_reach_35 : decode cX8_reach 35 = .ok (.iload_n 1, 1) := by decide +kernel
theorem dX8_reach_36 : decode cX8_reach 36 = .ok (.iastore, 1) := by decide +kernel
theorem dX8_reach_37 : decode cX8_reach 37 = .ok (.aload_n 0, 1) := by decide +kernel
theorem dX8_reach_38 : decode cX8_reach 38 = .ok (.dup, 1) := by decide +kernel
theorem dX8_reach_39 : decode cX8_reach 39 = .ok (.getfield 344, 3) := by decide +kernel
theorem dX8_reach_42 : decode cX8_reach 42 = .ok (.iconst 1, 1) := by decide +kernel
theorem dX8_reach_43 : decode cX8_reach 43 = .ok (.iadd, 1) := by decide +kernel
theorem dX8_reach_44 : decode cX8_reach 44 = .ok (.putfield 344, 3) := by decide +kernel
theorem dX8_reach_47 : decode cX8_reach 47 = .ok (.return_, 1) := by decide +kernel
theorem dX8_reachAll_0 : decode cX8_reachAll 0 = .ok (.iconst 0, 1) := by decide +kernel
theorem dX8_reachAll_1 : decode cX8_reachAll 1 = .ok (.istore_n 2, 1) := by decide +kernel
theorem dX8_reachAll_2 : decode cX8_reachAll 2 = .ok (.iload_n 2, 1) := by decide +kernel
theorem dX8_reachAll_3 : decode cX8_reachAll 3 = .ok (.aload_n 0, 1) := by decide +kernel
theorem dX8_reachAll_4 : decode cX8_reachAll 4 = .ok (.iload_n 1, 1) := by decide +kernel
theorem dX8_reachAll_5 : decode cX8_reachAll 5 = .ok (.invokevirtual 271, 3) := by decide +kernel
theorem dX8_reachAll_8 : decode cX8_reachAll 8 = .ok (.iconst 1, 1) := by decide +kernel
theorem dX8_reachAll_9 : decode cX8_reachAll 9 = .ok (.if_icmp .ne 8, 3) := by decide +kernel
theorem dX8_reachAll_12 : decode cX8_reachAll 12 = .ok (.bipush 13, 2) := by decide +kernel
theorem dX8_reachAll_14 : decode cX8_reachAll 14 = .ok (.goto 4, 3) := by decide +kernel
theorem dX8_reachAll_17 : decode cX8_reachAll 17 = .ok (.iconst 1, 1) := by decide +kernel
theorem dX8_reachAll_18 : decode cX8_reachAll 18 = .ok (.if_icmp .ge 18, 3) := by decide +kernel
theorem dX8_reachAll_21 : decode cX8_reachAll 21 = .ok (.aload_n 0, 1) := by decide +kernel
theorem dX8_reachAll_22 : decode cX8_reachAll 22 = .ok (.iload_n 1, 1) := by decide +kernel
theorem dX8_reachAll_23 : decode cX8_reachAll 23 = .ok (.iload_n 2, 1) := by decide +kernel
theorem dX8_reachAll_24 : decode cX8_reachAll 24 = .ok (.invokestatic 291, 3) := by decide +kernel
theorem dX8_reachAll_27 : decode cX8_reachAll 27 = .ok (.invokevirtual 347, 3) := by decide +kernel
theorem dX8_reachAll_30 : decode cX8_reachAll 30 = .ok (.iinc 2 1, 3) := by decide +kernel
theorem dX8_reachAll_33 : decode cX8_reachAll 33 = .ok (.goto (-31), 3) := by decide +kernel
theorem dX8_reachAll_36 : decode cX8_reachAll 36 = .ok (.return_, 1) := by decide +kernel
set_option maxHeartbeats 4000000 in
set_option maxRecDepth 100000 in
theorem s_X8_isInSet_x (l : Launch) (d : Nat) {P : PP} {h : HP} (hv : Iv P h) (a2 : Int32) (a2l : 0 ≤ a2.toInt) (a2u : a2.toInt ≤ 584) : Mt l yX8_isInSet cX8_isInSet 2 (some .boolean) (d + 1) [.ref 70, .int a2] h 0 0 (fun r h' => ∃ v : Int32, r = some (.int v) ∧ 0 ≤ v.toInt ∧ v.toInt ≤ 1 ∧ h = h' ∧ ((v.toInt = 1 → sb h.2.1 109 a2.toInt) ∧ (v.toInt = 0 → ¬ sb h.2.1 109 a2.toInt))) := by
  refine Mt_iv hv (by decide) (Nat.le_of_ble_eq_true rfl) ?_
  show Go l RX8 cX8_isInSet 2 (g_rm (d + 1) 0 0) "isInSet" (some .boolean) 117 0 0 (fun _ _ => True) (fun r h' => ∃ v : Int32, r = some (.int v) ∧ 0 ≤ v.toInt ∧ v.toInt ≤ 1 ∧ h = h' ∧ ((v.toInt = 1 → sb h.2.1 109 a2.toInt) ∧ (v.toInt = 0 → ¬ sb h.2.1 109 a2.toInt))) 0 0 [(0, .ref 70), (1, .int a2)] [] h
  refine go_aload_n (pc := 0) rfl dX8_isInSet_0 ?_
  refine gi_getF (pc := 1) (q := 109) hv fL_X8_127 rfl (Nat.le_of_ble_eq_true rfl) rfl (hv.rf (by decide)) dX8_isInSet_1 ?_
  refine go_iload_n (pc := 4) rfl dX8_isInSet_4 ?_
  refine go_bipush (pc := 5) (v := 32) (by decide) dX8_isInSet_5 ?_
  refine gf_idiv (pc := 7) (ti_rfl a2) (ti_c (v := 32) (a := 32) (by decide)) (by omega) (by omega) dX8_isInSet_7 (fun v1 e2 => ?_)
  refine gi_iald (pc := 8) (lo := -2147483648) (hi := 2147483647) (len := 19) hv e2 rfl (by omega) (by omega) (fun _ => rfl) dX8_isInSet_8 (fun v3 v3l v3u v3w => ?_)
  refine go_iload_n (pc := 9) rfl dX8_isInSet_9 ?_
  refine go_bipush (pc := 10) (v := 32) (by decide) dX8_isInSet_10 ?_
  refine gf_irem (pc := 12) (ti_rfl a2) (ti_c (v := 32) (a := 32) (by decide)) (by omega) (by omega) dX8_isInSet_12 (fun v4 e5 => ?_)
  refine gx_iushr (pc := 13) dX8_isInSet_13 (fun v6 v6x => ?_)
  refine go_iconst (pc := 14) (v := 1) (by decide) dX8_isInSet_14 ?_
  refine gx_iand (pc := 15) dX8_isInSet_15 (fun v7 v7x => ?_)
  have v7l : 0 ≤ v7.toInt := by rw [v7x]; exact (ti_mask (ti_c (v := 1) (a := 1) (by decide)) (by omega)).1
  have v7u : v7.toInt ≤ 1 := by rw [v7x]; exact (ti_mask (ti_c (v := 1) (a := 1) (by decide)) (by omega)).2
  refine go_iconst (pc := 16) (v := 1) (by decide) dX8_isInSet_16 ?_
  refine gf_icmp_ne (pc := 17) (tgt := 24) (ti_rfl v7) (ti_c (v := 1) (a := 1) (by decide)) (by decide) dX8_isInSet_17 (fun q8 => ?_) (fun q8 => ?_)
  ·
    refine go_iconst (pc := 24) (v := 0) (by decide) dX8_isInSet_24 ?_
    exact gi_zret (pc := 25) (ti_c (v := 0) (a := 0) (by decide)) (by omega) (by omega) ⟨_, rfl, (by rw [show (0 : Int32).toInt = 0 from (ti_c (v := 0) (a := 0) (by decide))]; omega), (by rw [show (0 : Int32).toInt = 0 from (ti_c (v := 0) (a := 0) (by decide))]; omega), rfl, ⟨fun q => absurd q (by decide), fun _ q => absurd (show (v7 : Int32).toInt = 1 from by rw [v7x, v6x]; exact (ur_bit (by rw [(show (v4 : Int32).toInt = (a2.toInt % 32) from e5)]; omega) (by rw [(show (v4 : Int32).toInt = (a2.toInt % 32) from e5)]; omega)).mpr (by rw [(show (v4 : Int32).toInt = (a2.toInt % 32) from e5), v3w]; exact (sb_iff (by omega)).mp q)) (by omega)⟩⟩ hv dX8_isInSet_25
  ·
    refine go_iconst (pc := 20) (v := 1) (by decide) dX8_isInSet_20 ?_
    refine go_goto (pc := 21) (tgt := 25) (by decide) dX8_isInSet_21 ?_
    exact gi_zret (pc := 25) (ti_c (v := 1) (a := 1) (by decide)) (by omega) (by omega) ⟨_, rfl, (by rw [show (1 : Int32).toInt = 1 from (ti_c (v := 1) (a := 1) (by decide))]; omega), (by rw [show (1 : Int32).toInt = 1 from (ti_c (v := 1) (a := 1) (by decide))]; omega), rfl, ⟨fun _ => (sb_iff (by omega)).mpr (by rw [← v3w, ← (show (v4 : Int32).toInt = (a2.toInt % 32) from e5)]; exact (ur_bit (by rw [(show (v4 : Int32).toInt = (a2.toInt % 32) from e5)]; omega) (by rw [(show (v4 : Int32).toInt = (a2.toInt % 32) from e5)]; omega)).mp (by rw [← v6x, ← v7x]; omega)), fun q => absurd q (by decide)⟩⟩ hv dX8_isInSet_25
set_option maxHeartbeats 4000000 in
set_option maxRecDepth 100000 in
theorem s_X8_isKept_x (l : Launch) (d : Nat) {P : PP} {h : HP} (hv : Iv P h) (a2 : Int32) (a2l : 0 ≤ a2.toInt) (a2u : a2.toInt ≤ 584) : Mt l yX8_isKept cX8_isKept 2 (some .boolean) (d + 1) [.ref 70, .int a2] h 0 0 (fun r h' => ∃ v : Int32, r = some (.int v) ∧ 0 ≤ v.toInt ∧ v.toInt ≤ 1 ∧ h = h' ∧ ((v.toInt = 1 → sb h.2.1 112 a2.toInt) ∧ (v.toInt = 0 → ¬ sb h.2.1 112 a2.toInt))) := by
  refine Mt_iv hv (by decide) (Nat.le_of_ble_eq_true rfl) ?_
  show Go l RX8 cX8_isKept 2 (g_rm (d + 1) 0 0) "isKept" (some .boolean) 117 0 0 (fun _ _ => True) (fun r h' => ∃ v : Int32, r = some (.int v) ∧ 0 ≤ v.toInt ∧ v.toInt ≤ 1 ∧ h = h' ∧ ((v.toInt = 1 → sb h.2.1 112 a2.toInt) ∧ (v.toInt = 0 → ¬ sb h.2.1 112 a2.toInt))) 0 0 [(0, .ref 70), (1, .int a2)] [] h
  refine go_aload_n (pc := 0) rfl dX8_isKept_0 ?_
  refine gi_getF (pc := 1) (q := 112) hv fL_X8_136 rfl (Nat.le_of_ble_eq_true rfl) rfl (hv.rf (by decide)) dX8_isKept_1 ?_
  refine go_iload_n (pc := 4) rfl dX8_isKept_4 ?_
  refine go_bipush (pc := 5) (v := 32) (by decide) dX8_isKept_5 ?_
  refine gf_idiv (pc := 7) (ti_rfl a2) (ti_c (v := 32) (a := 32) (by decide)) (by omega) (by omega) dX8_isKept_7 (fun v1 e2 => ?_)
  refine gi_iald (pc := 8) (lo := -2147483648) (hi := 2147483647) (len := 19) hv e2 rfl (by omega) (by omega) (fun _ => rfl) dX8_isKept_8 (fun v3 v3l v3u v3w => ?_)
  refine go_iload_n (pc := 9) rfl dX8_isKept_9 ?_
  refine go_bipush (pc := 10) (v := 32) (by decide) dX8_isKept_10 ?_
  refine gf_irem (pc := 12) (ti_rfl a2) (ti_c (v := 32) (a := 32) (by decide)) (by omega) (by omega) dX8_isKept_12 (fun v4 e5 => ?_)
  refine gx_iushr (pc := 13) dX8_isKept_13 (fun v6 v6x => ?_)
  refine go_iconst (pc := 14) (v := 1) (by decide) dX8_isKept_14 ?_
  refine gx_iand (pc := 15) dX8_isKept_15 (fun v7 v7x => ?_)
  have v7l : 0 ≤ v7.toInt := by rw [v7x]; exact (ti_mask (ti_c (v := 1) (a := 1) (by decide)) (by omega)).1
  have v7u : v7.toInt ≤ 1 := by rw [v7x]; exact (ti_mask (ti_c (v := 1) (a := 1) (by decide)) (by omega)).2
  refine go_iconst (pc := 16) (v := 1) (by decide) dX8_isKept_16 ?_
  refine gf_icmp_ne (pc := 17) (tgt := 24) (ti_rfl v7) (ti_c (v := 1) (a := 1) (by decide)) (by decide) dX8_isKept_17 (fun q8 => ?_) (fun q8 => ?_)
  ·
    refine go_iconst (pc := 24) (v := 0) (by decide) dX8_isKept_24 ?_
    exact gi_zret (pc := 25) (ti_c (v := 0) (a := 0) (by decide)) (by omega) (by omega) ⟨_, rfl, (by rw [show (0 : Int32).toInt = 0 from (ti_c (v := 0) (a := 0) (by decide))]; omega), (by rw [show (0 : Int32).toInt = 0 from (ti_c (v := 0) (a := 0) (by decide))]; omega), rfl, ⟨fun q => absurd q (by decide), fun _ q => absurd (show (v7 : Int32).toInt = 1 from by rw [v7x, v6x]; exact (ur_bit (by rw [(show (v4 : Int32).toInt = (a2.toInt % 32) from e5)]; omega) (by rw [(show (v4 : Int32).toInt = (a2.toInt % 32) from e5)]; omega)).mpr (by rw [(show (v4 : Int32).toInt = (a2.toInt % 32) from e5), v3w]; exact (sb_iff (by omega)).mp q)) (by omega)⟩⟩ hv dX8_isKept_25
  ·
    refine go_iconst (pc := 20) (v := 1) (by decide) dX8_isKept_20 ?_
    refine go_goto (pc := 21) (tgt := 25) (by decide) dX8_isKept_21 ?_
    exact gi_zret (pc := 25) (ti_c (v := 1) (a := 1) (by decide)) (by omega) (by omega) ⟨_, rfl, (by rw [show (1 : Int32).toInt = 1 from (ti_c (v := 1) (a := 1) (by decide))]; omega), (by rw [show (1 : Int32).toInt = 1 from (ti_c (v := 1) (a := 1) (by decide))]; omega), rfl, ⟨fun _ => (sb_iff (by omega)).mpr (by rw [← v3w, ← (show (v4 : Int32).toInt = (a2.toInt % 32) from e5)]; exact (ur_bit (by rw [(show (v4 : Int32).toInt = (a2.toInt % 32) from e5)]; omega) (by rw [(show (v4 : Int32).toInt = (a2.toInt % 32) from e5)]; omega)).mp (by rw [← v6x, ← v7x]; omega)), fun q => absurd q (by decide)⟩⟩ hv dX8_isKept_25
set_option maxHeartbeats 4000000 in
set_option maxRecDepth 100000 in
theorem s_X8_isHung_x (l : Launch) (d : Nat) {P : PP} {h : HP} (hv : Iv P h) (a2 : Int32) (a2l : 0 ≤ a2.toInt) (a2u : a2.toInt ≤ 584) (a3 : Int32) (a3l : 0 ≤ a3.toInt) (a3u : a3.toInt ≤ 584) : Mt l yX8_isHung cX8_isHung 3 (some .boolean) (d + 1) [.ref 70, .int a2, .int a3] h 0 0 (fun r h' => ∃ v : Int32, r = some (.int v) ∧ 0 ≤ v.toInt ∧ v.toInt ≤ 1 ∧ h = h' ∧ ((v.toInt = 1 → hb h.2.1 a2.toInt a3.toInt) ∧ (v.toInt = 0 → ¬ hb h.2.1 a2.toInt a3.toInt))) := by
  refine Mt_iv hv (by decide) (Nat.le_of_ble_eq_true rfl) ?_
  show Go l RX8 cX8_isHung 3 (g_rm (d + 1) 0 0) "isHung" (some .boolean) 117 0 0 (fun _ _ => True) (fun r h' => ∃ v : Int32, r = some (.int v) ∧ 0 ≤ v.toInt ∧ v.toInt ≤ 1 ∧ h = h' ∧ ((v.toInt = 1 → hb h.2.1 a2.toInt a3.toInt) ∧ (v.toInt = 0 → ¬ hb h.2.1 a2.toInt a3.toInt))) 0 0 [(0, .ref 70), (1, .int a2), (2, .int a3)] [] h
  refine go_aload_n (pc := 0) rfl dX8_isHung_0 ?_
  refine gi_getF (pc := 1) (q := 103) hv fL_X8_108 rfl (Nat.le_of_ble_eq_true rfl) rfl (hv.rf (by decide)) dX8_isHung_1 ?_
  refine go_bipush (pc := 4) (v := 19) (by decide) dX8_isHung_4 ?_
  refine go_iload_n (pc := 6) rfl dX8_isHung_6 ?_
  refine gf_imul (pc := 7) (ti_c (v := 19) (a := 19) (by decide)) (ti_rfl a2) (by omega) (by omega) dX8_isHung_7 (fun v1 e2 => ?_)
  refine go_iload_n (pc := 8) rfl dX8_isHung_8 ?_
  refine go_bipush (pc := 9) (v := 32) (by decide) dX8_isHung_9 ?_
  refine gf_idiv (pc := 11) (ti_rfl a3) (ti_c (v := 32) (a := 32) (by decide)) (by omega) (by omega) dX8_isHung_11 (fun v3 e4 => ?_)
  refine gf_iadd (pc := 12) e2 e4 (by omega) (by omega) dX8_isHung_12 (fun v5 e6 => ?_)
  refine gi_iald (pc := 13) (lo := -2147483648) (hi := 2147483647) (len := 11115) hv e6 rfl (by omega) (by omega) (fun _ => rfl) dX8_isHung_13 (fun v7 v7l v7u v7w => ?_)
  refine go_iload_n (pc := 14) rfl dX8_isHung_14 ?_
  refine go_bipush (pc := 15) (v := 32) (by decide) dX8_isHung_15 ?_
  refine gf_irem (pc := 17) (ti_rfl a3) (ti_c (v := 32) (a := 32) (by decide)) (by omega) (by omega) dX8_isHung_17 (fun v8 e9 => ?_)
  refine gx_iushr (pc := 18) dX8_isHung_18 (fun v10 v10x => ?_)
  refine go_iconst (pc := 19) (v := 1) (by decide) dX8_isHung_19 ?_
  refine gx_iand (pc := 20) dX8_isHung_20 (fun v11 v11x => ?_)
  have v11l : 0 ≤ v11.toInt := by rw [v11x]; exact (ti_mask (ti_c (v := 1) (a := 1) (by decide)) (by omega)).1
  have v11u : v11.toInt ≤ 1 := by rw [v11x]; exact (ti_mask (ti_c (v := 1) (a := 1) (by decide)) (by omega)).2
  refine go_iconst (pc := 21) (v := 1) (by decide) dX8_isHung_21 ?_
  refine gf_icmp_ne (pc := 22) (tgt := 29) (ti_rfl v11) (ti_c (v := 1) (a := 1) (by decide)) (by decide) dX8_isHung_22 (fun q12 => ?_) (fun q12 => ?_)
  ·
    refine go_iconst (pc := 29) (v := 0) (by decide) dX8_isHung_29 ?_
    exact gi_zret (pc := 30) (ti_c (v := 0) (a := 0) (by decide)) (by omega) (by omega) ⟨_, rfl, (by rw [show (0 : Int32).toInt = 0 from (ti_c (v := 0) (a := 0) (by decide))]; omega), (by rw [show (0 : Int32).toInt = 0 from (ti_c (v := 0) (a := 0) (by decide))]; omega), rfl, ⟨fun q => absurd q (by decide), fun _ q => absurd (show (v11 : Int32).toInt = 1 from by rw [v11x, v10x]; exact (ur_bit (by rw [(show (v8 : Int32).toInt = (a3.toInt % 32) from e9)]; omega) (by rw [(show (v8 : Int32).toInt = (a3.toInt % 32) from e9)]; omega)).mpr (by rw [(show (v8 : Int32).toInt = (a3.toInt % 32) from e9), v7w]; exact q)) (by omega)⟩⟩ hv dX8_isHung_30
  ·
    refine go_iconst (pc := 25) (v := 1) (by decide) dX8_isHung_25 ?_
    refine go_goto (pc := 26) (tgt := 30) (by decide) dX8_isHung_26 ?_
    exact gi_zret (pc := 30) (ti_c (v := 1) (a := 1) (by decide)) (by omega) (by omega) ⟨_, rfl, (by rw [show (1 : Int32).toInt = 1 from (ti_c (v := 1) (a := 1) (by decide))]; omega), (by rw [show (1 : Int32).toInt = 1 from (ti_c (v := 1) (a := 1) (by decide))]; omega), rfl, ⟨fun _ => (by unfold hb; rw [← v7w, ← (show (v8 : Int32).toInt = (a3.toInt % 32) from e9)]; exact (ur_bit (by rw [(show (v8 : Int32).toInt = (a3.toInt % 32) from e9)]; omega) (by rw [(show (v8 : Int32).toInt = (a3.toInt % 32) from e9)]; omega)).mp (by rw [← v10x, ← v11x]; omega)), fun q => absurd q (by decide)⟩⟩ hv dX8_isHung_30
set_option maxHeartbeats 4000000 in
set_option maxRecDepth 100000 in
theorem s_X8_isCall_x (l : Launch) (d : Nat) {P : PP} {h : HP} (hv : Iv P h) (a2 : Int32) (a2l : 0 ≤ a2.toInt) (a2u : a2.toInt ≤ 584) : Mt l yX8_isCall cX8_isCall 2 (some .boolean) (d + 3) [.ref 70, .int a2] h 0 0 (fun r h' => ∃ v : Int32, r = some (.int v) ∧ 0 ≤ v.toInt ∧ v.toInt ≤ 1 ∧ h = h' ∧ ((v.toInt = 1 → a2.toInt < 520 ∧ a2.toInt / 13 < V h.2.1 75 (h.2.1 70 6).toInt ∧ V h.2.1 77 (V h.2.1 93 (40 * (h.2.1 70 6).toInt + a2.toInt / 13)) = 1) ∧ (v.toInt = 0 → ¬ (a2.toInt < 520 ∧ a2.toInt / 13 < V h.2.1 75 (h.2.1 70 6).toInt ∧ V h.2.1 77 (V h.2.1 93 (40 * (h.2.1 70 6).toInt + a2.toInt / 13)) = 1)))) := by
  refine Mt_iv hv (by decide) (Nat.le_of_ble_eq_true rfl) ?_
  show Go l RX8 cX8_isCall 2 (g_rm (d + 3) 0 0) "isCall" (some .boolean) 117 0 0 (fun _ _ => True) (fun r h' => ∃ v : Int32, r = some (.int v) ∧ 0 ≤ v.toInt ∧ v.toInt ≤ 1 ∧ h = h' ∧ ((v.toInt = 1 → a2.toInt < 520 ∧ a2.toInt / 13 < V h.2.1 75 (h.2.1 70 6).toInt ∧ V h.2.1 77 (V h.2.1 93 (40 * (h.2.1 70 6).toInt + a2.toInt / 13)) = 1) ∧ (v.toInt = 0 → ¬ (a2.toInt < 520 ∧ a2.toInt / 13 < V h.2.1 75 (h.2.1 70 6).toInt ∧ V h.2.1 77 (V h.2.1 93 (40 * (h.2.1 70 6).toInt + a2.toInt / 13)) = 1)))) 0 0 [(0, .ref 70), (1, .int a2)] [] h
  obtain ⟨S, hS⟩ : ∃ S : Int, S = (h.2.1 70 6).toInt := ⟨_, rfl⟩
  have S0 : 0 ≤ S := by rw [hS]; exact (hv.2.1 70 6).1
  have S1 : S ≤ 1 := by rw [hS]; exact (hv.2.1 70 6).2
  refine go_iload_n (pc := 0) rfl dX8_isCall_0 ?_
  refine go_sipush (pc := 1) (v := 520) (by decide) dX8_isCall_1 ?_
  refine gf_icmp_ge (pc := 4) (tgt := 39) (ti_rfl a2) (ti_c (v := 520) (a := 520) (by decide)) (by decide) dX8_isCall_4 (fun q1 => ?_) (fun q1 => ?_)
  ·
    refine go_iconst (pc := 39) (v := 0) (by decide) dX8_isCall_39 ?_
    exact gi_zret (pc := 40) (ti_c (v := 0) (a := 0) (by decide)) (by omega) (by omega) ⟨_, rfl, (by rw [show (0 : Int32).toInt = 0 from (ti_c (v := 0) (a := 0) (by decide))]; omega), (by rw [show (0 : Int32).toInt = 0 from (ti_c (v := 0) (a := 0) (by decide))]; omega), rfl, (by rw [← hS]; exact ⟨fun q => absurd q (by decide), fun _ q => by omega⟩)⟩ hv dX8_isCall_40
  ·
    refine go_iload_n (pc := 7) rfl dX8_isCall_7 ?_
    refine go_bipush (pc := 8) (v := 13) (by decide) dX8_isCall_8 ?_
    refine gf_idiv (pc := 10) (ti_rfl a2) (ti_c (v := 13) (a := 13) (by decide)) (by omega) (by omega) dX8_isCall_10 (fun v2 e3 => ?_)
    refine go_aload_n (pc := 11) rfl dX8_isCall_11 ?_
    refine gi_getF (pc := 12) (q := 75) hv fL_X8_23 rfl (Nat.le_of_ble_eq_true rfl) rfl (hv.rf (by decide)) dX8_isCall_12 ?_
    refine go_aload_n (pc := 15) rfl dX8_isCall_15 ?_
    refine gi_get (pc := 16) (lo := 0) (hi := 1) hv fL_X8_187 rfl (Nat.le_of_ble_eq_true rfl) rfl rfl dX8_isCall_16 (fun v4 v4l v4u v4w => ?_)
    have v4S : v4.toInt = S := by rw [v4w, hv.fy (j := 6) (by omega), ← hv.fy (j := 6) (by omega)]; exact hS.symm
    refine gi_iald (pc := 19) (lo := 0) (hi := 40) (len := 2) hv (ti_rfl v4) rfl (by omega) (by omega) (fun _ => rfl) dX8_isCall_19 (fun v5 v5l v5u v5w => ?_)
    have v5V : v5.toInt = V h.2.1 75 S := by rw [v5w, v4S]; rfl
    refine gf_icmp_ge (pc := 20) (tgt := 39) e3 (ti_rfl v5) (by decide) dX8_isCall_20 (fun q6 => ?_) (fun q6 => ?_)
    ·
      refine go_iconst (pc := 39) (v := 0) (by decide) dX8_isCall_39 ?_
      exact gi_zret (pc := 40) (ti_c (v := 0) (a := 0) (by decide)) (by omega) (by omega) ⟨_, rfl, (by rw [show (0 : Int32).toInt = 0 from (ti_c (v := 0) (a := 0) (by decide))]; omega), (by rw [show (0 : Int32).toInt = 0 from (ti_c (v := 0) (a := 0) (by decide))]; omega), rfl, (by rw [← hS]; exact ⟨fun q => absurd q (by decide), fun _ q => by omega⟩)⟩ hv dX8_isCall_40
    ·
      refine go_aload_n (pc := 23) rfl dX8_isCall_23 ?_
      refine go_iload_n (pc := 24) rfl dX8_isCall_24 ?_
      refine go_bipush (pc := 25) (v := 13) (by decide) dX8_isCall_25 ?_
      refine gf_idiv (pc := 27) (ti_rfl a2) (ti_c (v := 13) (a := 13) (by decide)) (by omega) (by omega) dX8_isCall_27 (fun v7 e8 => ?_)
      refine go_invV (pc := 28) (sl := 0) (s_X8_kindAt l (d + 0) hv v7 (by rw [show (v7 : Int32).toInt = (a2.toInt / 13) from e8]; omega) (by rw [show (v7 : Int32).toInt = (a2.toInt / 13) from e8]; omega)) mL_X8_271 iM_X8_kindAt sM_X8_kindAt (hv.sh rfl) rfl rfl rfl (Nat.le_of_ble_eq_true rfl) (show d + 0 + 2 + 1 ≤ d + 3 by omega) (show 8 + (2 + 11) + 40 * (d + 0 + 2) ≤ 40 * (d + 3) by omega) (g_c0 hv.ln) (Nat.le_of_ble_eq_true rfl) dX8_isCall_28 ?_
      intro r h9 hq _
      obtain ⟨v11, rfl, v11l, v11u, rfl, f10⟩ := hq
      have v11K : v11.toInt = V h.2.1 77 (V h.2.1 93 (40 * S + (a2.toInt / 13))) := by rw [f10]; unfold g_kd g_it; rw [show (v7 : Int32).toInt = (a2.toInt / 13) from e8, ← hS]; rfl
      try rw [show (v7 : Int32).toInt = (a2.toInt / 13) from e8] at f10
      refine go_iconst (pc := 31) (v := 1) (by decide) dX8_isCall_31 ?_
      refine gf_icmp_ne (pc := 32) (tgt := 39) (ti_rfl v11) (ti_c (v := 1) (a := 1) (by decide)) (by decide) dX8_isCall_32 (fun q12 => ?_) (fun q12 => ?_)
      ·
        refine go_iconst (pc := 39) (v := 0) (by decide) dX8_isCall_39 ?_
        exact gi_zret (pc := 40) (ti_c (v := 0) (a := 0) (by decide)) (by omega) (by omega) ⟨_, rfl, (by rw [show (0 : Int32).toInt = 0 from (ti_c (v := 0) (a := 0) (by decide))]; omega), (by rw [show (0 : Int32).toInt = 0 from (ti_c (v := 0) (a := 0) (by decide))]; omega), rfl, (by rw [← hS]; exact ⟨fun q => absurd q (by decide), fun _ q => by omega⟩)⟩ hv dX8_isCall_40
      ·
        refine go_iconst (pc := 35) (v := 1) (by decide) dX8_isCall_35 ?_
        refine go_goto (pc := 36) (tgt := 40) (by decide) dX8_isCall_36 ?_
        exact gi_zret (pc := 40) (ti_c (v := 1) (a := 1) (by decide)) (by omega) (by omega) ⟨_, rfl, (by rw [show (1 : Int32).toInt = 1 from (ti_c (v := 1) (a := 1) (by decide))]; omega), (by rw [show (1 : Int32).toInt = 1 from (ti_c (v := 1) (a := 1) (by decide))]; omega), rfl, (by rw [← hS]; exact ⟨fun _ => ⟨by omega, by omega, by omega⟩, fun q => absurd q (by decide)⟩)⟩ hv dX8_isCall_40
set_option maxHeartbeats 4000000 in
set_option maxRecDepth 100000 in
theorem s_X8_reach (l : Launch) (d : Nat) {P : PP} {h : HP} (hv : Iv P h) (a2 : Int32) (a2l : 0 ≤ a2.toInt) (a2u : a2.toInt ≤ 584) (hw : WT h.2.1 ≤ ct h.2.1 109) : Mt l yX8_reach cX8_reach 2 none (d + 2) [.ref 70, .int a2] h 0 0 (fun r h' => r = none ∧ Iv P h' ∧ (RC h.2.1 h'.2.1 a2.toInt)) := by
  refine Mt_iv hv (by decide) (Nat.le_of_ble_eq_true rfl) ?_
  show Go l RX8 cX8_reach 2 (g_rm (d + 2) 0 0) "reach" none 117 0 0 (fun _ _ => True) (fun r h' => r = none ∧ Iv P h' ∧ (RC h.2.1 h'.2.1 a2.toInt)) 0 0 [(0, .ref 70), (1, .int a2)] [] h
  obtain ⟨u70_47, u70_47w⟩ : ∃ v : Int32, v = h.2.1 70 47 := ⟨_, rfl⟩
  have u70_47e : (h.2.1 70 47).toInt = u70_47.toInt := by rw [u70_47w]
  have u70_47l : 0 ≤ u70_47.toInt := by rw [u70_47w]; exact (hv.2.1 70 47).1
  have u70_47u : u70_47.toInt ≤ 585 := by rw [u70_47w]; exact (hv.2.1 70 47).2
  have hw2 : (h.2.1 70 47).toInt ≤ ct h.2.1 109 := hw
  refine go_aload_n (pc := 0) rfl dX8_reach_0 ?_
  refine go_iload_n (pc := 1) rfl dX8_reach_1 ?_
  refine go_invV (pc := 2) (sl := 0) (s_X8_isInSet_x l (d + 0) hv a2 (by rw [show (a2 : Int32).toInt = a2.toInt from (ti_rfl a2)]; omega) (by rw [show (a2 : Int32).toInt = a2.toInt from (ti_rfl a2)]; omega)) mL_X8_341 iM_X8_isInSet sM_X8_isInSet (hv.sh rfl) rfl rfl rfl (Nat.le_of_ble_eq_true rfl) (show d + 0 + 1 + 1 ≤ d + 2 by omega) (show 8 + (2 + 11) + 40 * (d + 0 + 1) ≤ 40 * (d + 2) by omega) (g_c0 hv.ln) (Nat.le_of_ble_eq_true rfl) dX8_reach_2 ?_
  intro r h1 hq _
  obtain ⟨v3, rfl, v3l, v3u, rfl, f2⟩ := hq
  refine gf_if_eq (pc := 5) (tgt := 9) (ti_rfl v3) (by decide) dX8_reach_5 (fun q4 => ?_) (fun q4 => ?_)
  ·
    refine go_aload_n (pc := 9) rfl dX8_reach_9 ?_
    refine gi_getF (pc := 10) (q := 109) hv fL_X8_127 rfl (Nat.le_of_ble_eq_true rfl) rfl (hv.rf (by decide)) dX8_reach_10 ?_
    refine go_iload_n (pc := 13) rfl dX8_reach_13 ?_
    refine go_bipush (pc := 14) (v := 32) (by decide) dX8_reach_14 ?_
    refine gf_idiv (pc := 16) (ti_rfl a2) (ti_c (v := 32) (a := 32) (by decide)) (by omega) (by omega) dX8_reach_16 (fun v5 e6 => ?_)
    refine go_dup2 (pc := 17) rfl rfl dX8_reach_17 ?_
    refine gi_iald (pc := 18) (lo := -2147483648) (hi := 2147483647) (len := 19) hv e6 rfl (by omega) (by omega) (fun _ => rfl) dX8_reach_18 (fun v7 v7l v7u v7w => ?_)
    refine go_iconst (pc := 19) (v := 1) (by decide) dX8_reach_19 ?_
    refine go_iload_n (pc := 20) rfl dX8_reach_20 ?_
    refine go_bipush (pc := 21) (v := 32) (by decide) dX8_reach_21 ?_
    refine gf_irem (pc := 23) (ti_rfl a2) (ti_c (v := 32) (a := 32) (by decide)) (by omega) (by omega) dX8_reach_23 (fun v8 e9 => ?_)
    refine gx_ishl (pc := 24) dX8_reach_24 (fun v10 v10x => ?_)
    refine gx_ior (pc := 25) dX8_reach_25 (fun v11 v11x => ?_)
    refine gi_iast (pc := 26) (lo := -2147483648) (hi := 2147483647) (len := 19) hv e6 (ti_rfl v11) rfl (by omega) (by omega) (fun _ => rfl) (ti_ge (ti_rfl v11)) (ti_le2 (ti_rfl v11)) (by decide) dX8_reach_26 (fun h12 hv12 hv12e => ?_)
    refine go_aload_n (pc := 27) rfl dX8_reach_27 ?_
    refine gi_getF (pc := 28) (q := 110) hv12 fL_X8_130 rfl (Nat.le_of_ble_eq_true rfl) rfl (hv12.rf (by decide)) dX8_reach_28 ?_
    refine go_aload_n (pc := 31) rfl dX8_reach_31 ?_
    refine gi_get (pc := 32) (lo := 0) (hi := 585) hv12 fL_X8_344 rfl (Nat.le_of_ble_eq_true rfl) rfl rfl dX8_reach_32 (fun v13 v13l v13u v13w => ?_)
    have v13r : u70_47 = h12.2.1 70 47 := (show u70_47 = h12.2.1 70 47 from by rw [hv12e]; exact (g_iI rfl u70_47w.symm).symm)
    have v13q : TI v13 u70_47.toInt := by rw [v13w.trans v13r.symm]; exact (ti_rfl u70_47)
    refine go_iload_n (pc := 35) rfl dX8_reach_35 ?_
    have kk : u70_47.toInt ≤ 584 := by have q := ct_miss (F := h.2.1) (c := 109) (x := a2.toInt) (by omega) (by omega) (f2.2 (by omega)); omega
    refine gi_iast (pc := 36) (lo := 0) (hi := 584) (len := 585) hv12 v13q (ti_rfl a2) rfl (by omega) (by omega) (fun _ => rfl) (by omega) (by omega) (by decide) dX8_reach_36 (fun h14 hv14 hv14e => ?_)
    refine go_aload_n (pc := 37) rfl dX8_reach_37 ?_
    refine go_dup (pc := 38) rfl dX8_reach_38 ?_
    refine gi_get (pc := 39) (lo := 0) (hi := 585) hv14 fL_X8_344 rfl (Nat.le_of_ble_eq_true rfl) rfl rfl dX8_reach_39 (fun v15 v15l v15u v15w => ?_)
    have v15r : u70_47 = h14.2.1 70 47 := (show u70_47 = h14.2.1 70 47 from by rw [hv14e]; exact (g_iI rfl (show u70_47 = h12.2.1 70 47 from by rw [hv12e]; exact (g_iI rfl u70_47w.symm).symm).symm).symm)
    have v15q : TI v15 u70_47.toInt := by rw [v15w.trans v15r.symm]; exact (ti_rfl u70_47)
    refine go_iconst (pc := 42) (v := 1) (by decide) dX8_reach_42 ?_
    refine gf_iadd (pc := 43) v15q (ti_c (v := 1) (a := 1) (by decide)) (by omega) (by omega) dX8_reach_43 (fun v16 e17 => ?_)
    refine gi_put (pc := 44) (lo := 0) (hi := 585) hv14 e17 (fP_X8_344 _) rfl (Nat.le_of_ble_eq_true rfl) rfl rfl (by omega) (by omega) rfl rfl (by decide) (by decide) (by decide) (by decide) dX8_reach_44 (fun h18 hv18 hv18e => ?_)
    have eR : h18.2.1 = (fun p q => if p = 70 ∧ q = 47 then v16 else if p = 110 ∧ q = (WT h.2.1).toNat then a2 else if p = 109 ∧ q = (a2.toInt / 32).toNat then v11 else h.2.1 p q) := by (rw [hv18e, hv14e, hv12e, show (WT h.2.1).toNat = (u70_47.toInt).toNat from by rw [← u70_47e]; rfl]; rfl)
    exact gi_vret (pc := 47) ⟨rfl, hv18, (by rw [eR]; exact RC.new (by omega) (by omega) e9 (by rw [v11x, v10x, v7w]) rfl (by rw [show (v16 : Int32).toInt = (u70_47.toInt + 1) from e17]; show _ = (h.2.1 70 47).toInt + 1; omega) (by show 0 ≤ (h.2.1 70 47).toInt; omega) (f2.2 (by omega)))⟩ hv18 dX8_reach_47
  ·
    exact gi_vret (pc := 8) ⟨rfl, hv, (RC.old (f2.1 (by omega)))⟩ hv dX8_reach_8
set_option maxHeartbeats 4000000 in
set_option maxRecDepth 100000 in
theorem s_X8_goesUp (l : Launch) (d : Nat) {P : PP} {h : HP} (hv : Iv P h) (a2 : Int32) (a2l : 0 ≤ a2.toInt) (a2u : a2.toInt ≤ 4) (a3 : Int32) (a3l : 0 ≤ a3.toInt) (a3u : a3.toInt ≤ 6) (hw : WT h.2.1 ≤ ct h.2.1 109) : Mt l yX8_goesUp cX8_goesUp 4 none (d + 3) [.ref 70, .int a2, .int a3] h 0 0 (fun r h' => r = none ∧ Iv P h' ∧ (PH h.2.1 h'.2.1)) := by
  refine Mt_iv hv (by decide) (Nat.le_of_ble_eq_true rfl) ?_
  show Go l RX8 cX8_goesUp 4 (g_rm (d + 3) 0 0) "goesUp" none 117 0 0 (fun _ _ => True) (fun r h' => r = none ∧ Iv P h' ∧ (PH h.2.1 h'.2.1)) 0 0 [(0, .ref 70), (1, .int a2), (2, .int a3)] [] h
  obtain ⟨S, hS⟩ : ∃ S : Int, S = (h.2.1 70 6).toInt := ⟨_, rfl⟩
  have S0 : 0 ≤ S := by rw [hS]; exact (hv.2.1 70 6).1
  have S1 : S ≤ 1 := by rw [hS]; exact (hv.2.1 70 6).2
  have key : ∀ n : Nat, (∀ (l1 : Int32) (l2 : Int32) (l3 : Int32) (hx : HP), Iv P hx → 0 ≤ l1.toInt → l1.toInt ≤ 4 → 0 ≤ l2.toInt → l2.toInt ≤ 6 → 0 ≤ l3.toInt → l3.toInt ≤ 40 → (PH h.2.1 hx.2.1) → (3 * (40 - l3.toInt) + 2 : Int) < n → Go l RX8 cX8_goesUp 4 (g_rm (d + 3) 0 0) "goesUp" none 117 0 0 (fun _ _ => True) (fun r h' => r = none ∧ Iv P h' ∧ (PH h.2.1 h'.2.1)) 0 2 [(0, .ref 70), (1, .int l1), (2, .int l2), (3, .int l3)] [] hx) := by
    intro n
    induction n with
    | zero => exact (by intros; omega)
    | succ n ih =>
      refine ?_
      ·
        intro l1 l2 l3 hx hvx l1l l1u l2l l2u l3l l3u x0 hm
        refine go_iload_n (pc := 2) rfl dX8_goesUp_2 ?_
        refine go_aload_n (pc := 3) rfl dX8_goesUp_3 ?_
        refine gi_getF (pc := 4) (q := 75) hvx fL_X8_23 rfl (Nat.le_of_ble_eq_true rfl) rfl (hvx.rf (by decide)) dX8_goesUp_4 ?_
        refine go_aload_n (pc := 7) rfl dX8_goesUp_7 ?_
        refine gi_get (pc := 8) (lo := 0) (hi := 1) hvx fL_X8_187 rfl (Nat.le_of_ble_eq_true rfl) rfl rfl dX8_goesUp_8 (fun v1 v1l v1u v1w => ?_)
        have v1S : v1.toInt = S := by rw [v1w, hvx.fy (j := 6) (by omega), ← hv.fy (j := 6) (by omega)]; exact hS.symm
        refine gi_iald (pc := 11) (lo := 0) (hi := 40) (len := 2) hvx (ti_rfl v1) rfl (by omega) (by omega) (fun _ => rfl) dX8_goesUp_11 (fun v2 v2l v2u v2w => ?_)
        have v2V : v2.toInt = V h.2.1 75 S := by rw [v2w, v1S, hvx.fz (c := 75) (by omega) (by omega), ← hv.fz (c := 75) (by omega) (by omega)]; rfl
        refine gf_icmp_ge (pc := 12) (tgt := 53) (ti_rfl l3) (ti_rfl v2) (by decide) dX8_goesUp_12 (fun q3 => ?_) (fun q3 => ?_)
        ·
          exact gi_vret (pc := 53) ⟨rfl, hvx, x0⟩ hvx dX8_goesUp_53
        ·
          refine go_aload_n (pc := 15) rfl dX8_goesUp_15 ?_
          refine go_iload_n (pc := 16) rfl dX8_goesUp_16 ?_
          refine go_invV (pc := 17) (sl := 0) (s_X8_kindAt l (d + 0) hvx l3 (by rw [show (l3 : Int32).toInt = l3.toInt from (ti_rfl l3)]; omega) (by rw [show (l3 : Int32).toInt = l3.toInt from (ti_rfl l3)]; omega)) mL_X8_271 iM_X8_kindAt sM_X8_kindAt (hvx.sh rfl) rfl rfl rfl (Nat.le_of_ble_eq_true rfl) (show d + 0 + 2 + 1 ≤ d + 3 by omega) (show 8 + (2 + 11) + 40 * (d + 0 + 2) ≤ 40 * (d + 3) by omega) (g_c0 hvx.ln) (Nat.le_of_ble_eq_true rfl) dX8_goesUp_17 ?_
          intro r h4 hq _
          obtain ⟨v6, rfl, v6l, v6u, rfl, f5⟩ := hq
          have v6K : v6.toInt = V h.2.1 77 (V h.2.1 93 (40 * S + l3.toInt)) := by rw [f5]; unfold g_kd g_it; rw [hvx.fy (j := 6) (by omega), ← hv.fy (j := 6) (by omega), ← hS, hvx.fz (c := 93) (by omega) (by omega), ← hv.fz (c := 93) (by omega) (by omega), hvx.fz (c := 77) (by omega) (by omega), ← hv.fz (c := 77) (by omega) (by omega)]; rfl
          refine go_iconst (pc := 20) (v := 1) (by decide) dX8_goesUp_20 ?_
          refine gf_icmp_ne (pc := 21) (tgt := 47) (ti_rfl v6) (ti_c (v := 1) (a := 1) (by decide)) (by decide) dX8_goesUp_21 (fun q7 => ?_) (fun q7 => ?_)
          ·
            refine gf_iinc (pc := 47) (Nat.le_of_ble_eq_true rfl) rfl (ti_rfl l3) (ti_c (by decide)) (by omega) (by omega) dX8_goesUp_47 (fun v8 e9 => ?_)
            refine go_lv (lv2 := [(0, .ref 70), (1, .int l1), (2, .int l2), (3, .int v8)]) rfl ?_
            refine go_goto (pc := 50) (tgt := 2) (by decide) dX8_goesUp_50 ?_
            have z10 : (v8 : Int32).toInt = (l3.toInt + 1) := e9
            exact go_lv rfl (ih l1 l2 v8 hx hvx (by omega) (by omega) (by omega) (by omega) (by omega) (by omega) x0 (by omega))
          ·
            refine go_aload_n (pc := 24) rfl dX8_goesUp_24 ?_
            refine gi_getF (pc := 25) (q := 84) hvx fL_X8_50 rfl (Nat.le_of_ble_eq_true rfl) rfl (hvx.rf (by decide)) dX8_goesUp_25 ?_
            refine go_aload_n (pc := 28) rfl dX8_goesUp_28 ?_
            refine go_iload_n (pc := 29) rfl dX8_goesUp_29 ?_
            refine go_invV (pc := 30) (sl := 0) (s_X8_item l (d + 1) hvx l3 (by rw [show (l3 : Int32).toInt = l3.toInt from (ti_rfl l3)]; omega) (by rw [show (l3 : Int32).toInt = l3.toInt from (ti_rfl l3)]; omega)) mL_X8_268 iM_X8_item sM_X8_item (hvx.sh rfl) rfl rfl rfl (Nat.le_of_ble_eq_true rfl) (show d + 1 + 1 + 1 ≤ d + 3 by omega) (show 8 + (2 + 11) + 40 * (d + 1 + 1) ≤ 40 * (d + 3) by omega) (g_c0 hvx.ln) (Nat.le_of_ble_eq_true rfl) dX8_goesUp_30 ?_
            intro r h11 hq _
            obtain ⟨v13, rfl, v13l, v13u, rfl, f12⟩ := hq
            have v13K : v13.toInt = V h.2.1 93 (40 * S + l3.toInt) := by rw [f12]; unfold g_it; rw [hvx.fy (j := 6) (by omega), ← hv.fy (j := 6) (by omega), ← hS, hvx.fz (c := 93) (by omega) (by omega), ← hv.fz (c := 93) (by omega) (by omega)]; rfl
            refine gi_iald (pc := 33) (lo := -2) (hi := 4) (len := 260) hvx (ti_rfl v13) rfl (by omega) (by omega) (fun _ => rfl) dX8_goesUp_33 (fun v14 v14l v14u v14w => ?_)
            have v14V : v14.toInt = V h.2.1 84 v13.toInt := by rw [v14w, hvx.fz (c := 84) (by omega) (by omega), ← hv.fz (c := 84) (by omega) (by omega)]; rfl
            refine go_iload_n (pc := 34) rfl dX8_goesUp_34 ?_
            refine gf_icmp_ne (pc := 35) (tgt := 47) (ti_rfl v14) (ti_rfl l1) (by decide) dX8_goesUp_35 (fun q15 => ?_) (fun q15 => ?_)
            ·
              refine gf_iinc (pc := 47) (Nat.le_of_ble_eq_true rfl) rfl (ti_rfl l3) (ti_c (by decide)) (by omega) (by omega) dX8_goesUp_47 (fun v16 e17 => ?_)
              refine go_lv (lv2 := [(0, .ref 70), (1, .int l1), (2, .int l2), (3, .int v16)]) rfl ?_
              refine go_goto (pc := 50) (tgt := 2) (by decide) dX8_goesUp_50 ?_
              have z18 : (v16 : Int32).toInt = (l3.toInt + 1) := e17
              exact go_lv rfl (ih l1 l2 v16 hx hvx (by omega) (by omega) (by omega) (by omega) (by omega) (by omega) x0 (by omega))
            ·
              refine go_aload_n (pc := 38) rfl dX8_goesUp_38 ?_
              refine go_iload_n (pc := 39) rfl dX8_goesUp_39 ?_
              refine go_iload_n (pc := 40) rfl dX8_goesUp_40 ?_
              refine go_invS (pc := 41) (sl := 0) (s_X8_statementPlace l (d + 1) hvx l3 (by rw [show (l3 : Int32).toInt = l3.toInt from (ti_rfl l3)]; omega) (by rw [show (l3 : Int32).toInt = l3.toInt from (ti_rfl l3)]; omega) l2 (by rw [show (l2 : Int32).toInt = l2.toInt from (ti_rfl l2)]; omega) (by rw [show (l2 : Int32).toInt = l2.toInt from (ti_rfl l2)]; omega)) mL_X8_291 iM_X8_statementPlace rfl rfl (Nat.le_of_ble_eq_true rfl) (show d + 1 + 1 + 1 ≤ d + 3 by omega) (show 8 + (2 + 11) + 40 * (d + 1 + 1) ≤ 40 * (d + 3) by omega) (g_c0 hvx.ln) (Nat.le_of_ble_eq_true rfl) dX8_goesUp_41 ?_
              intro r h19 hq _
              obtain ⟨v20, rfl, v20l, v20u, rfl⟩ := hq
              refine go_invV (pc := 44) (sl := 0) (s_X8_reach l (d + 0) hvx v20 (by rw [show (v20 : Int32).toInt = v20.toInt from (ti_rfl v20)]; omega) (by rw [show (v20 : Int32).toInt = v20.toInt from (ti_rfl v20)]; omega) x0.1) mL_X8_347 iM_X8_reach sM_X8_reach (hvx.sh rfl) rfl rfl rfl (Nat.le_of_ble_eq_true rfl) (show d + 0 + 2 + 1 ≤ d + 3 by omega) (show 8 + (2 + 11) + 40 * (d + 0 + 2) ≤ 40 * (d + 3) by omega) (g_c0 hvx.ln) (Nat.le_of_ble_eq_true rfl) dX8_goesUp_44 ?_
              intro r h21 hq _
              obtain ⟨rfl, hv21, f22⟩ := hq
              have ph23s := (RC.ph f22 (by omega) (by omega) x0.1)
              have ph23c := ph23s.2.1
              have ph23 : PH h.2.1 h21.2.1 := x0.trans ph23s
              have ph23a := ph23.1
              have ph23b := ph23.2.1
              refine gf_iinc (pc := 47) (Nat.le_of_ble_eq_true rfl) rfl (ti_rfl l3) (ti_c (by decide)) (by omega) (by omega) dX8_goesUp_47 (fun v24 e25 => ?_)
              refine go_lv (lv2 := [(0, .ref 70), (1, .int l1), (2, .int l2), (3, .int v24)]) rfl ?_
              refine go_goto (pc := 50) (tgt := 2) (by decide) dX8_goesUp_50 ?_
              have z26 : (v24 : Int32).toInt = (l3.toInt + 1) := e25
              exact go_lv rfl (ih l1 l2 v24 h21 hv21 (by omega) (by omega) (by omega) (by omega) (by omega) (by omega) ph23 (by omega))
  have ph0 : PH h.2.1 h.2.1 := PH.rfl hw
  refine go_iconst (pc := 0) (v := 0) (by decide) dX8_goesUp_0 ?_
  refine go_istore_n (pc := 1) (Nat.le_of_ble_eq_true rfl) dX8_goesUp_1 (go_lv (lv2 := [(0, .ref 70), (1, .int a2), (2, .int a3), (3, .int 0)]) rfl ?_)
  have z27 : (0 : Int32).toInt = 0 := (ti_c (v := 0) (a := 0) (by decide))
  exact go_lv rfl ((key 139) a2 a3 0 h hv (by omega) (by omega) (by omega) (by omega) (by omega) (by omega) ph0 (by omega))
set_option maxHeartbeats 4000000 in
set_option maxRecDepth 100000 in
theorem s_X8_reachAll (l : Launch) (d : Nat) {P : PP} {h : HP} (hv : Iv P h) (a2 : Int32) (a2l : 0 ≤ a2.toInt) (a2u : a2.toInt ≤ 39) (hw : WT h.2.1 ≤ ct h.2.1 109) : Mt l yX8_reachAll cX8_reachAll 3 none (d + 3) [.ref 70, .int a2] h 0 0 (fun r h' => r = none ∧ Iv P h' ∧ (PH h.2.1 h'.2.1)) := by
  refine Mt_iv hv (by decide) (Nat.le_of_ble_eq_true rfl) ?_
  show Go l RX8 cX8_reachAll 3 (g_rm (d + 3) 0 0) "reachAll" none 117 0 0 (fun _ _ => True) (fun r h' => r = none ∧ Iv P h' ∧ (PH h.2.1 h'.2.1)) 0 0 [(0, .ref 70), (1, .int a2)] [] h
  have key : ∀ n : Nat, (∀ (l1 : Int32) (l2 : Int32) (hx : HP), Iv P hx → 0 ≤ l1.toInt → l1.toInt ≤ 39 → 0 ≤ l2.toInt → l2.toInt ≤ 13 → (PH h.2.1 hx.2.1) → (3 * (13 - l2.toInt) + 2 : Int) < n → Go l RX8 cX8_reachAll 3 (g_rm (d + 3) 0 0) "reachAll" none 117 0 0 (fun _ _ => True) (fun r h' => r = none ∧ Iv P h' ∧ (PH h.2.1 h'.2.1)) 0 2 [(0, .ref 70), (1, .int l1), (2, .int l2)] [] hx) := by
    intro n
    induction n with
    | zero => exact (by intros; omega)
    | succ n ih =>
      refine ?_
      ·
        intro l1 l2 hx hvx l1l l1u l2l l2u x0 hm
        refine go_iload_n (pc := 2) rfl dX8_reachAll_2 ?_
        refine go_aload_n (pc := 3) rfl dX8_reachAll_3 ?_
        refine go_iload_n (pc := 4) rfl dX8_reachAll_4 ?_
        refine go_invV (pc := 5) (sl := 0) (s_X8_kindAt l (d + 0) hvx l1 (by rw [show (l1 : Int32).toInt = l1.toInt from (ti_rfl l1)]; omega) (by rw [show (l1 : Int32).toInt = l1.toInt from (ti_rfl l1)]; omega)) mL_X8_271 iM_X8_kindAt sM_X8_kindAt (hvx.sh rfl) rfl rfl rfl (Nat.le_of_ble_eq_true rfl) (show d + 0 + 2 + 1 ≤ d + 3 by omega) (show 8 + (2 + 11) + 40 * (d + 0 + 2) ≤ 40 * (d + 3) by omega) (g_c0 hvx.ln) (Nat.le_of_ble_eq_true rfl) dX8_reachAll_5 ?_
        intro r h1 hq _
        obtain ⟨v3, rfl, v3l, v3u, rfl, f2⟩ := hq
        refine go_iconst (pc := 8) (v := 1) (by decide) dX8_reachAll_8 ?_
        refine gf_icmp_ne (pc := 9) (tgt := 17) (ti_rfl v3) (ti_c (v := 1) (a := 1) (by decide)) (by decide) dX8_reachAll_9 (fun q4 => ?_) (fun q4 => ?_)
        ·
          refine go_iconst (pc := 17) (v := 1) (by decide) dX8_reachAll_17 ?_
          refine gf_icmp_ge (pc := 18) (tgt := 36) (ti_rfl l2) (ti_c (v := 1) (a := 1) (by decide)) (by decide) dX8_reachAll_18 (fun q5 => ?_) (fun q5 => ?_)
          ·
            exact gi_vret (pc := 36) ⟨rfl, hvx, x0⟩ hvx dX8_reachAll_36
          ·
            refine go_aload_n (pc := 21) rfl dX8_reachAll_21 ?_
            refine go_iload_n (pc := 22) rfl dX8_reachAll_22 ?_
            refine go_iload_n (pc := 23) rfl dX8_reachAll_23 ?_
            refine go_invS (pc := 24) (sl := 0) (s_X8_statementPlace l (d + 1) hvx l1 (by rw [show (l1 : Int32).toInt = l1.toInt from (ti_rfl l1)]; omega) (by rw [show (l1 : Int32).toInt = l1.toInt from (ti_rfl l1)]; omega) l2 (by rw [show (l2 : Int32).toInt = l2.toInt from (ti_rfl l2)]; omega) (by rw [show (l2 : Int32).toInt = l2.toInt from (ti_rfl l2)]; omega)) mL_X8_291 iM_X8_statementPlace rfl rfl (Nat.le_of_ble_eq_true rfl) (show d + 1 + 1 + 1 ≤ d + 3 by omega) (show 8 + (2 + 11) + 40 * (d + 1 + 1) ≤ 40 * (d + 3) by omega) (g_c0 hvx.ln) (Nat.le_of_ble_eq_true rfl) dX8_reachAll_24 ?_
            intro r h6 hq _
            obtain ⟨v7, rfl, v7l, v7u, rfl⟩ := hq
            refine go_invV (pc := 27) (sl := 0) (s_X8_reach l (d + 0) hvx v7 (by rw [show (v7 : Int32).toInt = v7.toInt from (ti_rfl v7)]; omega) (by rw [show (v7 : Int32).toInt = v7.toInt from (ti_rfl v7)]; omega) x0.1) mL_X8_347 iM_X8_reach sM_X8_reach (hvx.sh rfl) rfl rfl rfl (Nat.le_of_ble_eq_true rfl) (show d + 0 + 2 + 1 ≤ d + 3 by omega) (show 8 + (2 + 11) + 40 * (d + 0 + 2) ≤ 40 * (d + 3) by omega) (g_c0 hvx.ln) (Nat.le_of_ble_eq_true rfl) dX8_reachAll_27 ?_
            intro r h8 hq _
            obtain ⟨rfl, hv8, f9⟩ := hq
            have ph10s := (RC.ph f9 (by omega) (by omega) x0.1)
            have ph10c := ph10s.2.1
            have ph10 : PH h.2.1 h8.2.1 := x0.trans ph10s
            have ph10a := ph10.1
            have ph10b := ph10.2.1
            refine gf_iinc (pc := 30) (Nat.le_of_ble_eq_true rfl) rfl (ti_rfl l2) (ti_c (by decide)) (by omega) (by omega) dX8_reachAll_30 (fun v11 e12 => ?_)
            refine go_lv (lv2 := [(0, .ref 70), (1, .int l1), (2, .int v11)]) rfl ?_
            refine go_goto (pc := 33) (tgt := 2) (by decide) dX8_reachAll_33 ?_
            have z13 : (v11 : Int32).toInt = (l2.toInt + 1) := e12
            exact go_lv rfl (ih l1 v11 h8 hv8 (by omega) (by omega) (by omega) (by omega) ph10 (by omega))
        ·
          refine go_bipush (pc := 12) (v := 13) (by decide) dX8_reachAll_12 ?_
          refine go_goto (pc := 14) (tgt := 18) (by decide) dX8_reachAll_14 ?_
          refine gf_icmp_ge (pc := 18) (tgt := 36) (ti_rfl l2) (ti_c (v := 13) (a := 13) (by decide)) (by decide) dX8_reachAll_18 (fun q14 => ?_) (fun q14 => ?_)
          ·
            exact gi_vret (pc := 36) ⟨rfl, hvx, x0⟩ hvx dX8_reachAll_36
          ·
            refine go_aload_n (pc := 21) rfl dX8_reachAll_21 ?_
            refine go_iload_n (pc := 22) rfl dX8_reachAll_22 ?_
            refine go_iload_n (pc := 23) rfl dX8_reachAll_23 ?_
            refine go_invS (pc := 24) (sl := 0) (s_X8_statementPlace l (d + 1) hvx l1 (by rw [show (l1 : Int32).toInt = l1.toInt from (ti_rfl l1)]; omega) (by rw [show (l1 : Int32).toInt = l1.toInt from (ti_rfl l1)]; omega) l2 (by rw [show (l2 : Int32).toInt = l2.toInt from (ti_rfl l2)]; omega) (by rw [show (l2 : Int32).toInt = l2.toInt from (ti_rfl l2)]; omega)) mL_X8_291 iM_X8_statementPlace rfl rfl (Nat.le_of_ble_eq_true rfl) (show d + 1 + 1 + 1 ≤ d + 3 by omega) (show 8 + (2 + 11) + 40 * (d + 1 + 1) ≤ 40 * (d + 3) by omega) (g_c0 hvx.ln) (Nat.le_of_ble_eq_true rfl) dX8_reachAll_24 ?_
            intro r h15 hq _
            obtain ⟨v16, rfl, v16l, v16u, rfl⟩ := hq
            refine go_invV (pc := 27) (sl := 0) (s_X8_reach l (d + 0) hvx v16 (by rw [show (v16 : Int32).toInt = v16.toInt from (ti_rfl v16)]; omega) (by rw [show (v16 : Int32).toInt = v16.toInt from (ti_rfl v16)]; omega) x0.1) mL_X8_347 iM_X8_reach sM_X8_reach (hvx.sh rfl) rfl rfl rfl (Nat.le_of_ble_eq_true rfl) (show d + 0 + 2 + 1 ≤ d + 3 by omega) (show 8 + (2 + 11) + 40 * (d + 0 + 2) ≤ 40 * (d + 3) by omega) (g_c0 hvx.ln) (Nat.le_of_ble_eq_true rfl) dX8_reachAll_27 ?_
            intro r h17 hq _
            obtain ⟨rfl, hv17, f18⟩ := hq
            have ph19s := (RC.ph f18 (by omega) (by omega) x0.1)
            have ph19c := ph19s.2.1
            have ph19 : PH h.2.1 h17.2.1 := x0.trans ph19s
            have ph19a := ph19.1
            have ph19b := ph19.2.1
            refine gf_iinc (pc := 30) (Nat.le_of_ble_eq_true rfl) rfl (ti_rfl l2) (ti_c (by decide)) (by omega) (by omega) dX8_reachAll_30 (fun v20 e21 => ?_)
            refine go_lv (lv2 := [(0, .ref 70), (1, .int l1), (2, .int v20)]) rfl ?_
            refine go_goto (pc := 33) (tgt := 2) (by decide) dX8_reachAll_33 ?_
            have z22 : (v20 : Int32).toInt = (l2.toInt + 1) := e21
            exact go_lv rfl (ih l1 v20 h17 hv17 (by omega) (by omega) (by omega) (by omega) ph19 (by omega))
  have ph0 : PH h.2.1 h.2.1 := PH.rfl hw
  refine go_iconst (pc := 0) (v := 0) (by decide) dX8_reachAll_0 ?_
  refine go_istore_n (pc := 1) (Nat.le_of_ble_eq_true rfl) dX8_reachAll_1 (go_lv (lv2 := [(0, .ref 70), (1, .int a2), (2, .int 0)]) rfl ?_)
  have z23 : (0 : Int32).toInt = 0 := (ti_c (v := 0) (a := 0) (by decide))
  exact go_lv rfl ((key 58) a2 0 h hv (by omega) (by omega) (by omega) (by omega) ph0 (by omega))
