/-! the class's queue of places -/
theorem lushr_r {x : Int64} {k j : Int} (h0 : 0 ≤ k) (h1 : k ≤ 63) (j0 : 0 ≤ j) : bt (o_lushr x k) j ↔ bt x (j + k) := by
  unfold o_lushr p_lushr bt
  have e : ∀ y : UInt64, (x.toUInt64 >>> y).toInt64.toBitVec = x.toBitVec >>> (y % 64).toBitVec := fun y => rfl
  have e2 : Int32.ofInt k = Int32.ofNat k.toNat := by
    apply Int32.toInt_inj.mp
    rw [ofI h0 (by omega), Int32.toInt_ofNat_of_lt (by omega)]
    omega
  have q := shu_tab ⟨k.toNat, by omega⟩
  have q2 : (((Int32.ofNat k.toNat).toInt64.toUInt64 &&& Int64.toUInt64 63) % 64).toBitVec.toNat = k.toNat := q
  rw [e, e2]
  show (x.toBitVec >>> (((Int32.ofNat k.toNat).toInt64.toUInt64 &&& Int64.toUInt64 63) % 64).toBitVec.toNat).getLsbD j.toNat = true ↔ _
  rw [q2, BitVec.getLsbD_ushiftRight, show (j + k).toNat = k.toNat + j.toNat by omega]
theorem lushr_0 {v : Int64} {l : Int} (h0 : 0 ≤ l) (h1 : l ≤ 63) : o_lcmp (o_lushr v l) 0 = 0 ↔ ∀ u, l ≤ u → u < 64 → ¬ bt v u := by
  rw [lcmp_r, lz_r]
  constructor
  · intro h u a b w
    refine h (u - l) (by omega) (by omega) ((lushr_r h0 h1 (by omega)).mpr ?_)
    rw [show u - l + l = u by omega]
    exact w
  · intro h j a b w
    have w2 := (lushr_r h0 h1 a).mp w
    by_cases q : j + l < 64
    · exact h (j + l) (by omega) q w2
    · exact bt_ge (by omega) w2
theorem hbit {v : Int64} {l : Int} (h0 : 0 ≤ l) (h1 : l ≤ 63) : o_lcmp (o_land (o_lushr v l) 1) 0 = 0 ↔ ¬ bt v l := by
  have b := has_bitu (x := v) h0 h1
  rw [lcmp_r]
  rcases land_01 (o_lushr v l) with z | z
  · rw [z] at b ⊢
    exact ⟨fun _ q => absurd (b.mpr q) (by decide), fun _ => rfl⟩
  · rw [z] at b ⊢
    exact ⟨fun q => absurd q (by decide), fun q => absurd (b.mp rfl) q⟩
theorem cc_eq {p q : Nat → Prop} {n : Nat} (h : ∀ k, k < n → (p k ↔ q k)) : cc p n = cc q n := Nat.le_antisymm (cc_mono (fun k hk => (h k hk).mp)) (cc_mono (fun k hk => (h k hk).mpr))
theorem cc_add {p q : Nat → Prop} {n x : Nat} (hx : x < n) (h0 : ¬ p x) (h : ∀ k, k < n → (q k ↔ p k ∨ k = x)) : cc q n = cc p n + 1 := by
  induction n with
  | zero => omega
  | succ n ih =>
    show cc q n + cq (q n) = cc p n + cq (p n) + 1
    by_cases e : x = n
    · subst e
      have i : cc q x = cc p x := cc_eq (fun k hk => by
        rw [h k (by omega)]
        exact ⟨fun z => by rcases z with z | z; (exact z); (omega), Or.inl⟩)
      rw [i, cq_0 h0, cq_1 ((h x (by omega)).mpr (Or.inr rfl))]
    · have i := ih (by omega) (fun k hk => h k (by omega))
      have j : cq (q n) = cq (p n) := by
        rcases Classical.em (p n) with pn | pn
        · rw [cq_1 pn, cq_1 ((h n (by omega)).mpr (Or.inl pn))]
        · rw [cq_0 pn, cq_0 (fun z => by rcases (h n (by omega)).mp z with w | w; (exact pn w); (omega))]
      omega
/-- the queue holds the places of X, each once -/
def QC (X : Int → Prop) (s : ST) : Prop := (∀ x, X x → 0 ≤ x ∧ x < 585) ∧ (∀ j, 0 ≤ j → j < s.1 49 8 → X (s.1 54 j.toNat)) ∧ (∀ x, X x → ∃ j, 0 ≤ j ∧ j < s.1 49 8 ∧ s.1 54 j.toNat = x) ∧ s.1 49 8 = ((cc (fun k : Nat => X (k : Int)) 585 : Nat) : Int)
theorem QC.iff {X Y : Int → Prop} {s : ST} (h : ∀ x, X x ↔ Y x) (q : QC X s) : QC Y s := by
  have e : X = Y := funext fun x => propext (h x)
  rw [← e]
  exact q
theorem QC.lt {X : Int → Prop} {s : ST} (q : QC X s) {x : Int} (x0 : 0 ≤ x) (x1 : x < 585) (n : ¬ X x) : s.1 49 8 < 585 := by
  have a := cc_lt (p := fun k : Nat => X (k : Int)) (q := fun _ => True) (n := 585) (x := x.toNat) (fun _ _ _ => trivial) (by omega) (by show ¬ X ((x.toNat : Nat) : Int); rw [show ((x.toNat : Nat) : Int) = x by omega]; exact n) trivial
  have b := cc_le (fun _ => True) 585
  have e := q.2.2.2
  omega
theorem QC.le {X : Int → Prop} {s : ST} (q : QC X s) : s.1 49 8 ≤ 585 := by
  have b := cc_le (fun k : Nat => X (k : Int)) 585
  have e := q.2.2.2
  omega
theorem QC.ge {X : Int → Prop} {s : ST} (q : QC X s) : 0 ≤ s.1 49 8 := by
  have e := q.2.2.2
  omega
theorem QC.push {X : Int → Prop} {s : ST} (q : QC X s) {x : Int} (x0 : 0 ≤ x) (x1 : x < 585) (n : ¬ X x) : QC (fun z => X z ∨ z = x) (sI (sI s 54 (s.1 49 8).toNat x) 49 8 (s.1 49 8 + 1)) := by
  have n0 := q.ge
  obtain ⟨q1, q2, q3, q4⟩ := q
  obtain ⟨t, ht⟩ : ∃ t, t = sI (sI s 54 (s.1 49 8).toNat x) 49 8 (s.1 49 8 + 1) := ⟨_, rfl⟩
  have e8 : t.1 49 8 = s.1 49 8 + 1 := by rw [ht]; exact sI_eq _ _ _ _
  have e54 : ∀ j : Nat, t.1 54 j = if j = (s.1 49 8).toNat then x else s.1 54 j := fun j => by
    rw [ht, sI_nc (show (54 : Nat) ≠ 49 by decide)]
    by_cases z : j = (s.1 49 8).toNat
    · rw [if_pos z, z, sI_eq]
    · rw [if_neg z, sI_ne (fun w => z w.2)]
  rw [← ht]
  refine ⟨fun z hz => ?_, fun j j0 j1 => ?_, fun z hz => ?_, ?_⟩
  · rcases hz with h | h
    · exact q1 z h
    · omega
  · rw [e8] at j1
    rw [e54]
    by_cases z : j.toNat = (s.1 49 8).toNat
    · rw [if_pos z]; exact Or.inr rfl
    · rw [if_neg z]; exact Or.inl (q2 j j0 (by omega))
  · rw [e8]
    rcases hz with h | h
    · obtain ⟨j, j0, j1, e⟩ := q3 z h
      refine ⟨j, j0, by omega, ?_⟩
      rw [e54, if_neg (by omega)]
      exact e
    · refine ⟨s.1 49 8, n0, by omega, ?_⟩
      rw [e54, if_pos rfl]
      exact h.symm
  · show t.1 49 8 = ((cc (fun k : Nat => X (k : Int) ∨ (k : Int) = x) 585 : Nat) : Int)
    have a := cc_add (p := fun k : Nat => X (k : Int)) (q := fun k : Nat => X (k : Int) ∨ (k : Int) = x) (n := 585) (x := x.toNat) (by omega) (by show ¬ X ((x.toNat : Nat) : Int); rw [show ((x.toNat : Nat) : Int) = x by omega]; exact n) (fun k _ => ⟨fun w => by rcases w with w | w; (exact Or.inl w); (exact Or.inr (by omega)), fun w => by rcases w with w | w; (exact Or.inl w); (exact Or.inr (by omega))⟩)
    rw [a, e8]
    omega
def EQQ (s s' : ST) : Prop := s'.2 = s.2 ∧ ∀ p j, p ≠ 54 → ¬ (p = 49 ∧ j = 8) → s'.1 p j = s.1 p j
theorem EQQ.rfl {s : ST} : EQQ s s := ⟨_root_.rfl, fun _ _ _ _ => _root_.rfl⟩
theorem EQQ.tr {s u w : ST} (a : EQQ s u) (b : EQQ u w) : EQQ s w := ⟨b.1.trans a.1, fun p j h1 h2 => (b.2 p j h1 h2).trans (a.2 p j h1 h2)⟩
theorem EQQ.push {s : ST} {i : Nat} {x n : Int} : EQQ s (sI (sI s 54 i x) 49 8 n) := ⟨_root_.rfl, fun p j h1 h2 => by rw [sI_ne h2, sI_nc h1]⟩
/-- the queue grew at its end -/
def PXF (s s' : ST) : Prop := s.1 49 8 ≤ s'.1 49 8 ∧ ∀ j, 0 ≤ j → j < s.1 49 8 → s'.1 54 j.toNat = s.1 54 j.toNat
theorem PXF.rfl {s : ST} : PXF s s := ⟨Int.le_refl _, fun _ _ _ => _root_.rfl⟩
theorem PXF.tr {s u w : ST} (a : PXF s u) (b : PXF u w) : PXF s w := ⟨Int.le_trans a.1 b.1, fun j h1 h2 => (b.2 j h1 (by have := a.1; omega)).trans (a.2 j h1 h2)⟩
theorem PXF.push {s : ST} {x : Int} (h : 0 ≤ s.1 49 8) : PXF s (sI (sI s 54 (s.1 49 8).toNat x) 49 8 (s.1 49 8 + 1)) := by
  refine ⟨?_, fun j h1 h2 => ?_⟩
  · rw [sI_eq]; omega
  · rw [sI_nc (show (54 : Nat) ≠ 49 by decide), sI_ne (fun w => by have := w.2; omega)]
theorem add_n {part : Int} {v : Int64} (p0 : 0 ≤ part) (p1 : part < 13) : ∀ (n lab : Nat) (l : Int) (sx : ST) (X : Int → Prop), 0 ≤ l → l ≤ 45 → 60 - l < (n : Int) → QC X sx → (∀ u, l ≤ u → u < 45 → bt v u → ¬ X (13 * u + part)) → EQQ sx (f_X4_add2_ n lab part v l sx) ∧ PXF sx (f_X4_add2_ n lab part v l sx) ∧ QC (fun x => X x ∨ ∃ u, l ≤ u ∧ u < 45 ∧ bt v u ∧ x = 13 * u + part) (f_X4_add2_ n lab part v l sx) := by
  intro n
  induction n with
  | zero => intros; omega
  | succ n ih =>
    intro lab l sx X l0 l45 hm q hn
    rw [f_X4_add2_]
    by_cases z : 45 ≤ l
    · rw [if_pos z]
      exact ⟨EQQ.rfl, PXF.rfl, q.iff (fun x => ⟨Or.inl, fun w => by rcases w with w | ⟨u, a, b, _⟩; (exact w); (omega)⟩)⟩
    · rw [if_neg z, bd_r, bd_r]
      by_cases y : o_lcmp (o_lushr v l) 0 = 0
      · rw [if_pos y]
        have y2 := (lushr_0 l0 (by omega)).mp y
        refine ⟨EQQ.rfl, PXF.rfl, q.iff (fun x => ⟨Or.inl, fun w => ?_⟩)⟩
        rcases w with w | ⟨u, a, b, hb, _⟩
        · exact w
        · exact absurd hb (y2 u a (by omega))
      · rw [if_neg y, bd_r, bd_r, bd_r]
        by_cases w : o_lcmp (o_land (o_lushr v l) 1) 0 = 0
        · rw [if_pos w]
          have w2 := (hbit l0 (by omega)).mp w
          have r := ih 30 (l + 1) sx X (by omega) (by omega) (by omega) q (fun u a b => hn u (by omega) b)
          refine ⟨r.1, r.2.1, r.2.2.iff (fun x => ?_)⟩
          constructor
          · rintro (h | ⟨u, a, b⟩)
            · exact Or.inl h
            · exact Or.inr ⟨u, by omega, b⟩
          · rintro (h | ⟨u, a, b, hb, e⟩)
            · exact Or.inl h
            · by_cases k : u = l
              · rw [k] at hb; exact absurd hb w2
              · exact Or.inr ⟨u, by omega, b, hb, e⟩
        · rw [if_neg w, bd_r]
          have w2 : bt v l := Classical.byContradiction (fun h => w ((hbit l0 (by omega)).mpr h))
          have nx := hn l (by omega) (by omega) w2
          have lt := q.lt (show 0 ≤ 13 * l + part by omega) (by omega) nx
          rw [if_neg (by omega), bd_r, bd_r, show l * 13 + part = 13 * l + part by omega]
          have pu := q.push (show 0 ≤ 13 * l + part by omega) (by omega) nx
          have pe : EQQ sx (sI (sI sx 54 (sx.1 49 8).toNat (13 * l + part)) 49 8 (sx.1 49 8 + 1)) := EQQ.push
          have pp := PXF.push (x := 13 * l + part) q.ge
          generalize sI (sI sx 54 (sx.1 49 8).toNat (13 * l + part)) 49 8 (sx.1 49 8 + 1) = t at pu pe pp ⊢
          have r := ih 30 (l + 1) t _ (by omega) (by omega) (by omega) pu (fun u a b hb k => by rcases k with k | k; (exact hn u (by omega) b hb k); (omega))
          refine ⟨pe.tr r.1, pp.tr r.2.1, r.2.2.iff (fun x => ?_)⟩
          constructor
          · rintro ((h | h) | ⟨u, a, b⟩)
            · exact Or.inl h
            · exact Or.inr ⟨l, by omega, by omega, w2, h⟩
            · exact Or.inr ⟨u, by omega, b⟩
          · rintro (h | ⟨u, a, b, hb, e⟩)
            · exact Or.inl (Or.inl h)
            · by_cases k : u = l
              · rw [k] at e; exact Or.inl (Or.inr e)
              · exact Or.inr ⟨u, by omega, b, hb, e⟩
/-- a set of places, as the class keeps it -/
def PX (s : ST) (pl : Nat) (x : Int) : Prop := bt (s.2.1 pl (x % 13).toNat) (x / 13)
def QP (pl : Nat) (X : Int → Prop) (s : ST) : Prop := QC X s ∧ ∀ x, 0 ≤ x → x < 585 → (PX s pl x ↔ X x)
def EQP (pl : Nat) (s s' : ST) : Prop := s'.2.2 = s.2.2 ∧ (∀ p, p ≠ pl → s'.2.1 p = s.2.1 p) ∧ ∀ p j, p ≠ 54 → ¬ (p = 49 ∧ j = 8) → s'.1 p j = s.1 p j
theorem EQP.rfl {pl : Nat} {s : ST} : EQP pl s s := ⟨_root_.rfl, fun _ _ => _root_.rfl, fun _ _ _ _ => _root_.rfl⟩
theorem EQP.tr {pl : Nat} {s u w : ST} (a : EQP pl s u) (b : EQP pl u w) : EQP pl s w := ⟨b.1.trans a.1, fun p h => (b.2.1 p h).trans (a.2.1 p h), fun p j h1 h2 => (b.2.2 p j h1 h2).trans (a.2.2 p j h1 h2)⟩
theorem QP.iff {pl : Nat} {X Y : Int → Prop} {s : ST} (h : ∀ x, X x ↔ Y x) (q : QP pl X s) : QP pl Y s := ⟨q.1.iff h, fun x x0 x1 => (q.2 x x0 x1).trans (h x)⟩
theorem addq_ok {pl : Nat} {X : Int → Prop} {s : ST} {part : Int} {m : Int64} (p0 : 0 ≤ part) (p1 : part < 13) (q : QP pl X s) : EQP pl s (f_X4_add2 s pl part m) ∧ PXF s (f_X4_add2 s pl part m) ∧ QP pl (fun x => X x ∨ ∃ u, 0 ≤ u ∧ u < 45 ∧ bt m u ∧ x = 13 * u + part) (f_X4_add2 s pl part m) := by
  unfold f_X4_add2
  rw [bd_r, bd_r, bd_r, bd_r]
  obtain ⟨old, ho⟩ : ∃ w, w = s.2.1 pl part.toNat := ⟨_, rfl⟩
  rw [← ho]
  obtain ⟨v, hv⟩ : ∃ w, w = o_land m (o_lxor old (-1)) := ⟨_, rfl⟩
  rw [← hv]
  have bv : ∀ u, 0 ≤ u → u < 64 → (bt v u ↔ bt m u ∧ ¬ bt old u) := fun u a b => by rw [hv, land_r, not_r a b]
  have inX : ∀ u, 0 ≤ u → u < 45 → (bt old u ↔ X (13 * u + part)) := fun u a b => by
    have z := q.2 (13 * u + part) (by omega) (by omega)
    unfold PX at z
    rw [show (13 * u + part) % 13 = part by omega, show (13 * u + part) / 13 = u by omega, ← ho] at z
    exact z
  have same : ∀ x, (X x ∨ ∃ u, 0 ≤ u ∧ u < 45 ∧ bt v u ∧ x = 13 * u + part) ↔ (X x ∨ ∃ u, 0 ≤ u ∧ u < 45 ∧ bt m u ∧ x = 13 * u + part) := fun x => by
    constructor
    · rintro (h | ⟨u, a, b, hb, e⟩)
      · exact Or.inl h
      · exact Or.inr ⟨u, a, b, ((bv u a (by omega)).mp hb).1, e⟩
    · rintro (h | ⟨u, a, b, hb, e⟩)
      · exact Or.inl h
      · by_cases w : bt old u
        · rw [e]; exact Or.inl ((inX u a b).mp w)
        · exact Or.inr ⟨u, a, b, (bv u a (by omega)).mpr ⟨hb, w⟩, e⟩
  by_cases z : o_lcmp v 0 = 0
  · rw [if_neg (fun w => w z)]
    have z2 := lz_r.mp (lcmp_r.mp z)
    refine ⟨EQP.rfl, PXF.rfl, q.iff (fun x => ?_)⟩
    rw [← same]
    refine ⟨Or.inl, fun w => ?_⟩
    rcases w with w | ⟨u, a, b, hb, _⟩
    · exact w
    · exact absurd hb (z2 u a (by omega))
  · rw [if_pos z, bd_r, bd_r, bd_r]
    obtain ⟨t, ht⟩ : ∃ t, t = sL s pl part.toNat (o_lor old v) := ⟨_, rfl⟩
    rw [← ht]
    have qt : QC X t := by rw [ht]; exact q.1
    have r := add_n (v := v) p0 p1 154 30 0 t X (by omega) (by omega) (by omega) qt (fun u a b hb k => ((bv u a (by omega)).mp hb).2 ((inX u a b).mpr k))
    have et : EQP pl s t := by
      rw [ht]
      exact ⟨_root_.rfl, fun p h => sL_nc h, fun _ _ _ _ => _root_.rfl⟩
    have pt : PXF s t := by rw [ht]; exact ⟨Int.le_refl _, fun _ _ _ => _root_.rfl⟩
    generalize f_X4_add2_ 154 30 part v 0 t = w at r ⊢
    have ew : EQP pl t w := ⟨congrArg Prod.snd r.1.1, fun p _ => by rw [show w.2.1 = t.2.1 from congrArg Prod.fst r.1.1], r.1.2⟩
    refine ⟨et.tr ew, pt.tr r.2.1, r.2.2.iff same, fun x x0 x1 => ?_⟩
    refine Iff.trans ?_ (same x)
    unfold PX
    rw [show w.2.1 = t.2.1 from congrArg Prod.fst r.1.1, ht]
    by_cases k : (x % 13).toNat = part.toNat
    · rw [k, sL_eq, lor_r]
      have kk : x % 13 = part := by omega
      have ex : 13 * (x / 13) + part = x := by omega
      have i := inX (x / 13) (by omega) (by omega)
      rw [ex] at i
      rw [i]
      constructor
      · rintro (h | h)
        · exact Or.inl h
        · exact Or.inr ⟨x / 13, by omega, by omega, h, by omega⟩
      · rintro (h | ⟨u, a, b, hb, e⟩)
        · exact Or.inl h
        · rw [show x / 13 = u by omega]; exact Or.inr hb
    · rw [sL_ne (fun y => k y.2)]
      have i := q.2 x x0 x1
      unfold PX at i
      rw [i]
      refine ⟨Or.inl, fun w => ?_⟩
      rcases w with w | ⟨u, a, b, hb, e⟩
      · exact w
      · exfalso; omega

