/-! the reference's tree, as its reader makes it -/
abbrev FN : Type := Nat → Nat → Int32
def V (F : FN) (c : Nat) (i : Int) : Int := (F c i.toNat).toInt
def w1 (F : FN) (c : Nat) (i : Int) (x : Int32) : FN := fun p q => if p = c ∧ q = i.toNat then x else F p q
theorem V_w1 (F : FN) (c : Nat) (i : Int) (x : Int32) (c' : Nat) (j : Int) : V (w1 F c i x) c' j = if c' = c ∧ j.toNat = i.toNat then x.toInt else V F c' j := by
  unfold V w1
  split <;> rfl
/-- an item, a block of the side s -/
def II (F : FN) (s i : Int) : Prop := 130 * s ≤ i ∧ i < 130 * s + V F 73 s
def BB (F : FN) (s b : Int) : Prop := 280 * s ≤ b ∧ b < 280 * s + V F 74 s
def T1 (F : FN) (s i : Int) : Prop := V F 87 i = -1 ∨ (i < V F 87 i ∧ V F 87 i < 130 * s + V F 73 s ∧ V F 88 (V F 87 i) = V F 88 i)
def T2 (F : FN) (s i : Int) : Prop := BB F s (V F 88 i) ∧ ((V F 92 (V F 88 i) = -1 ∧ V F 80 i = 0) ∨ (130 * s ≤ V F 92 (V F 88 i) ∧ V F 92 (V F 88 i) < i ∧ V F 80 (V F 92 (V F 88 i)) + 1 = V F 80 i ∧ ∀ k, V F 92 (V F 88 i) < k → k ≤ i → V F 80 i ≤ V F 80 k))
def T3 (F : FN) (s i : Int) : Prop := (¬ V F 77 i = 6 → 0 ≤ V F 78 i ∧ V F 78 i < V F 75 s ∧ V F 93 (40 * s + V F 78 i) = i) ∧ (V F 77 i ≤ 1 → 0 ≤ V F 82 i) ∧ (V F 77 i = 1 → V F 82 i ≤ 5) ∧ V F 89 (2 * i) ≤ 1009 ∧ V F 89 (2 * i + 1) ≤ 1009
def T4 (F : FN) (s i : Int) : Prop := (V F 85 i = -1 ∨ (BB F s (V F 85 i) ∧ V F 92 (V F 85 i) = i)) ∧ (V F 86 i = -1 ∨ (BB F s (V F 86 i) ∧ V F 92 (V F 86 i) = i))
def T5 (F : FN) (s b : Int) : Prop := (V F 90 b = -1 ∨ (II F s (V F 90 b) ∧ V F 88 (V F 90 b) = b)) ∧ (V F 91 b = -1 ∨ (II F s (V F 91 b) ∧ V F 88 (V F 91 b) = b)) ∧ (V F 92 b = -1 ∨ II F s (V F 92 b)) ∧ (¬ V F 90 b = -1 → ¬ V F 91 b = -1)
def TR (F : FN) (s : Int) : Prop := (0 ≤ V F 73 s ∧ 0 ≤ V F 74 s ∧ 0 ≤ V F 75 s) ∧ (∀ i, II F s i → T1 F s i) ∧ (∀ i, II F s i → T2 F s i) ∧ (∀ i, II F s i → T3 F s i) ∧ (∀ i, II F s i → T4 F s i) ∧ (∀ b, BB F s b → T5 F s b) ∧ (∀ k, 0 ≤ k → k < V F 75 s → II F s (V F 93 (40 * s + k)))
/-- a block of o may be read at depth d -/
def OO (F : FN) (s o d : Int) : Prop := (o = -1 ∧ d = 0) ∨ (II F s o ∧ V F 80 o + 1 = d ∧ ∀ k, o < k → k < 130 * s + V F 73 s → d ≤ V F 80 k)
def CC (F : FN) (i : Int) : Prop := (V F 77 i = 6 → 0 ≤ V F 82 i ∧ V F 82 i ≤ 5 ∧ 0 ≤ V F 85 i ∧ 0 ≤ V F 86 i) ∧ (V F 77 i = 2 ∨ V F 77 i = 3 → 0 ≤ V F 85 i)
def CN (F : FN) (s n d : Int) : Prop := ∀ j, n ≤ j → j < 130 * s + V F 73 s → d ≤ V F 80 j ∧ CC F j
/-- what stays of the items before n, of the blocks before m but b -/
def GR (F G : FN) (s n m b : Int) : Prop := (∀ i, 130 * s ≤ i → i < n → V G 77 i = V F 77 i ∧ V G 78 i = V F 78 i ∧ V G 80 i = V F 80 i ∧ V G 82 i = V F 82 i ∧ V G 85 i = V F 85 i ∧ V G 86 i = V F 86 i ∧ V G 88 i = V F 88 i) ∧ (∀ q, 280 * s ≤ q → q < m → V G 92 q = V F 92 q ∧ (q = b ∨ V G 91 q = V F 91 q)) ∧ V F 73 s ≤ V G 73 s ∧ V F 74 s ≤ V G 74 s ∧ V F 75 s ≤ V G 75 s
theorem GR.rfl (F : FN) (s n m b : Int) : GR F F s n m b := ⟨fun _ _ _ => ⟨_root_.rfl, _root_.rfl, _root_.rfl, _root_.rfl, _root_.rfl, _root_.rfl, _root_.rfl⟩, fun _ _ _ => ⟨_root_.rfl, Or.inr _root_.rfl⟩, Int.le_refl _, Int.le_refl _, Int.le_refl _⟩
theorem GR.trans {F G H : FN} {s n m b n' m' b' : Int} (h : GR F G s n m b) (g : GR G H s n' m' b') (hn : n ≤ n') (hm : m ≤ m') (hb : b' = b ∨ m ≤ b') : GR F H s n m b := by
  refine ⟨fun i h1 h2 => ?_, fun q h1 h2 => ?_, Int.le_trans h.2.2.1 g.2.2.1, Int.le_trans h.2.2.2.1 g.2.2.2.1, Int.le_trans h.2.2.2.2 g.2.2.2.2⟩
  · have a := h.1 i h1 h2
    have c := g.1 i h1 (by omega)
    omega
  · have a := h.2.1 q h1 h2
    have c := g.2.1 q h1 (by omega)
    omega
/-- the tree's reads are the same -/
def VE (F G : FN) : Prop := ∀ c j, 73 ≤ c → c ≤ 102 → G c j = F c j
theorem VE.v {F G : FN} (h : VE F G) {c : Nat} {i : Int} (h1 : 73 ≤ c) (h2 : c ≤ 102) : V G c i = V F c i := by unfold V; rw [h c _ h1 h2]
theorem VE.rfl (F : FN) : VE F F := fun _ _ _ _ => _root_.rfl
theorem VE.of {P : PP} {h g : HP} (a : Iv P h) (b : Iv P g) : VE h.2.1 g.2.1 := fun c j h1 h2 => by rw [a.fz h1 h2, b.fz h1 h2]
theorem VE.trans {F G H : FN} (h : VE F G) (g : VE G H) : VE F H := fun c j h1 h2 => (g c j h1 h2).trans (h c j h1 h2)
theorem II.ve {F G : FN} (h : VE F G) {s i : Int} : II G s i ↔ II F s i := by unfold II; rw [h.v (by omega) (by omega)]
theorem BB.ve {F G : FN} (h : VE F G) {s i : Int} : BB G s i ↔ BB F s i := by unfold BB; rw [h.v (by omega) (by omega)]
theorem TR.ve {F G : FN} (h : VE F G) {s : Int} (t : TR F s) : TR G s := by
  obtain ⟨a0, a1, a2, a3, a4, a5, a6⟩ := t
  have e : ∀ (c : Nat) (i : Int), 73 ≤ c → c ≤ 102 → V G c i = V F c i := fun c i h1 h2 => h.v h1 h2
  refine ⟨?_, fun i hi => ?_, fun i hi => ?_, fun i hi => ?_, fun i hi => ?_, fun b hb => ?_, fun k h1 h2 => ?_⟩
  · simp only [e 73 _ (by omega) (by omega), e 74 _ (by omega) (by omega), e 75 _ (by omega) (by omega)]; exact a0
  · have := a1 i (II.ve h |>.mp hi)
    unfold T1 at *
    simp only [e 73 _ (by omega) (by omega), e 87 _ (by omega) (by omega), e 88 _ (by omega) (by omega)]; exact this
  · have := a2 i (II.ve h |>.mp hi)
    unfold T2 at *
    simp only [BB.ve h, e 80 _ (by omega) (by omega), e 92 _ (by omega) (by omega), e 88 _ (by omega) (by omega)]; exact this
  · have := a3 i (II.ve h |>.mp hi)
    unfold T3 at *
    simp only [e 75 _ (by omega) (by omega), e 77 _ (by omega) (by omega), e 78 _ (by omega) (by omega), e 93 _ (by omega) (by omega), e 82 _ (by omega) (by omega), e 89 _ (by omega) (by omega)]; exact this
  · have := a4 i (II.ve h |>.mp hi)
    unfold T4 at *
    simp only [BB.ve h, e 85 _ (by omega) (by omega), e 86 _ (by omega) (by omega), e 92 _ (by omega) (by omega)]; exact this
  · have := a5 b (BB.ve h |>.mp hb)
    unfold T5 at *
    simp only [II.ve h, e 88 _ (by omega) (by omega), e 90 _ (by omega) (by omega), e 91 _ (by omega) (by omega), e 92 _ (by omega) (by omega)]; exact this
  · rw [II.ve h, e 93 _ (by omega) (by omega)]
    rw [e 75 _ (by omega) (by omega)] at h2
    exact a6 k h1 h2
theorem GR.ve {F G : FN} (h : VE F G) (s n m b : Int) : GR F G s n m b := by
  have e : ∀ (c : Nat) (i : Int), 73 ≤ c → c ≤ 102 → V G c i = V F c i := fun c i h1 h2 => h.v h1 h2
  refine ⟨fun i _ _ => ⟨e 77 _ (by omega) (by omega), e 78 _ (by omega) (by omega), e 80 _ (by omega) (by omega), e 82 _ (by omega) (by omega), e 85 _ (by omega) (by omega), e 86 _ (by omega) (by omega), e 88 _ (by omega) (by omega)⟩, fun q _ _ => ⟨e 92 _ (by omega) (by omega), Or.inr (e 91 _ (by omega) (by omega))⟩, ?_, ?_, ?_⟩
  · rw [e 73 _ (by omega) (by omega)]; exact Int.le_refl _
  · rw [e 74 _ (by omega) (by omega)]; exact Int.le_refl _
  · rw [e 75 _ (by omega) (by omega)]; exact Int.le_refl _
theorem OO.ve {F G : FN} (h : VE F G) {s o d : Int} (t : OO F s o d) : OO G s o d := by
  have e : ∀ (c : Nat) (i : Int), 73 ≤ c → c ≤ 102 → V G c i = V F c i := fun c i h1 h2 => h.v h1 h2
  unfold OO at *
  simp only [II.ve h, e 80 _ (by omega) (by omega), e 73 _ (by omega) (by omega)]
  exact t
theorem CC.ve {F G : FN} (h : VE F G) {i : Int} (t : CC F i) : CC G i := by
  have e : ∀ (c : Nat) (i : Int), 73 ≤ c → c ≤ 102 → V G c i = V F c i := fun c i h1 h2 => h.v h1 h2
  unfold CC at *
  simp only [e 77 _ (by omega) (by omega), e 82 _ (by omega) (by omega), e 85 _ (by omega) (by omega), e 86 _ (by omega) (by omega)]
  exact t
theorem CN.ve {F G : FN} (h : VE F G) {s n d : Int} (t : CN F s n d) : CN G s n d := by
  intro j h1 h2
  rw [h.v (by omega) (by omega)] at h2
  have := t j h1 h2
  rw [h.v (by omega) (by omega)]
  exact ⟨this.1, this.2.ve h⟩
/-- a new block -/
theorem TR.newB {F : FN} {s o b : Int} {x y z w : Int32} (hs : 0 ≤ s) (hb : b = 280 * s + V F 74 s) (hx : x.toInt = V F 74 s + 1) (hy : y.toInt = -1) (hz : z.toInt = -1) (hw : w.toInt = o) (t : TR F s) (ho : o = -1 ∨ II F s o) :
    let G := w1 (w1 (w1 (w1 F 74 s x) 90 b y) 91 b z) 92 b w
    TR G s ∧ GR F G s (130 * s + V F 73 s) (280 * s + V F 74 s) (-1) ∧ V G 92 b = o ∧ V G 90 b = -1 ∧ V G 91 b = -1 ∧ V G 73 s = V F 73 s ∧ V G 74 s = V F 74 s + 1 ∧ V G 75 s = V F 75 s ∧ (∀ i, V G 80 i = V F 80 i) := by
  obtain ⟨⟨p1, p2, p3⟩, a1, a2, a3, a4, a5, a6⟩ := t
  intro G
  have e : ∀ (c : Nat) (i : Int), c ≠ 74 → c ≠ 90 → c ≠ 91 → c ≠ 92 → V G c i = V F c i := fun c i q1 q2 q3 q4 => by
    show V (w1 (w1 (w1 (w1 F 74 s x) 90 b y) 91 b z) 92 b w) c i = _
    rw [V_w1, if_neg (by omega), V_w1, if_neg (by omega), V_w1, if_neg (by omega), V_w1, if_neg (by omega)]
  have e74 : V G 74 s = V F 74 s + 1 := by
    show V (w1 (w1 (w1 (w1 F 74 s x) 90 b y) 91 b z) 92 b w) 74 s = _
    rw [V_w1, if_neg (by omega), V_w1, if_neg (by omega), V_w1, if_neg (by omega), V_w1, if_pos ⟨rfl, rfl⟩, hx]
  have e90 : ∀ i : Int, 0 ≤ i → i ≠ b → V G 90 i = V F 90 i := fun i h1 h2 => by
    show V (w1 (w1 (w1 (w1 F 74 s x) 90 b y) 91 b z) 92 b w) 90 i = _
    rw [V_w1, if_neg (by omega), V_w1, if_neg (by omega), V_w1, if_neg (by omega), V_w1, if_neg (by omega)]
  have e91 : ∀ i : Int, 0 ≤ i → i ≠ b → V G 91 i = V F 91 i := fun i h1 h2 => by
    show V (w1 (w1 (w1 (w1 F 74 s x) 90 b y) 91 b z) 92 b w) 91 i = _
    rw [V_w1, if_neg (by omega), V_w1, if_neg (by omega), V_w1, if_neg (by omega), V_w1, if_neg (by omega)]
  have e92 : ∀ i : Int, 0 ≤ i → i ≠ b → V G 92 i = V F 92 i := fun i h1 h2 => by
    show V (w1 (w1 (w1 (w1 F 74 s x) 90 b y) 91 b z) 92 b w) 92 i = _
    rw [V_w1, if_neg (by omega), V_w1, if_neg (by omega), V_w1, if_neg (by omega), V_w1, if_neg (by omega)]
  have f90 : V G 90 b = -1 := by
    show V (w1 (w1 (w1 (w1 F 74 s x) 90 b y) 91 b z) 92 b w) 90 b = _
    rw [V_w1, if_neg (by omega), V_w1, if_neg (by omega), V_w1, if_pos ⟨rfl, rfl⟩, hy]
  have f91 : V G 91 b = -1 := by
    show V (w1 (w1 (w1 (w1 F 74 s x) 90 b y) 91 b z) 92 b w) 91 b = _
    rw [V_w1, if_neg (by omega), V_w1, if_pos ⟨rfl, rfl⟩, hz]
  have f92 : V G 92 b = o := by
    show V (w1 (w1 (w1 (w1 F 74 s x) 90 b y) 91 b z) 92 b w) 92 b = _
    rw [V_w1, if_pos ⟨rfl, rfl⟩, hw]
  have hII : ∀ i, II G s i ↔ II F s i := fun i => by unfold II; rw [e 73 _ (by omega) (by omega) (by omega) (by omega)]
  have hBB : ∀ i, BB F s i → BB G s i := fun i h => by unfold BB at *; omega
  have g1 := e 73 s (by omega) (by omega) (by omega) (by omega)
  have g3 := e 75 s (by omega) (by omega) (by omega) (by omega)
  refine ⟨⟨⟨by omega, by omega, by omega⟩, fun i hi => ?_, fun i hi => ?_, fun i hi => ?_, fun i hi => ?_, fun q hq => ?_, fun k h1 h2 => ?_⟩, ⟨fun i h1 h2 => ⟨e 77 _ (by omega) (by omega) (by omega) (by omega), e 78 _ (by omega) (by omega) (by omega) (by omega), e 80 _ (by omega) (by omega) (by omega) (by omega), e 82 _ (by omega) (by omega) (by omega) (by omega), e 85 _ (by omega) (by omega) (by omega) (by omega), e 86 _ (by omega) (by omega) (by omega) (by omega), e 88 _ (by omega) (by omega) (by omega) (by omega)⟩, fun q h1 h2 => ⟨e92 q (by omega) (by omega), Or.inr (e91 q (by omega) (by omega))⟩, by omega, by omega, by omega⟩, f92, f90, f91, g1, e74, g3, fun i => e 80 _ (by omega) (by omega) (by omega) (by omega)⟩
  · have := a1 i ((hII i).mp hi)
    unfold T1 at *
    rw [e 87 _ (by omega) (by omega) (by omega) (by omega), g1]
    rw [e 88 _ (by omega) (by omega) (by omega) (by omega), e 88 _ (by omega) (by omega) (by omega) (by omega)]
    exact this
  · have := a2 i ((hII i).mp hi)
    have hb2 := this.1
    unfold T2 at *
    have k1 := e 88 i (by omega) (by omega) (by omega) (by omega)
    have k2 : V G 92 (V F 88 i) = V F 92 (V F 88 i) := by unfold BB at hb2; exact e92 _ (by omega) (by omega)
    rw [k1, k2]
    refine ⟨hBB _ hb2, ?_⟩
    simp only [e 80 _ (show (80 : Nat) ≠ 74 by omega) (by omega) (by omega) (by omega)]
    exact this.2
  · have := a3 i ((hII i).mp hi)
    unfold T3 at *
    simp only [e 75 _ (show (75 : Nat) ≠ 74 by omega) (by omega) (by omega) (by omega), e 77 _ (show (77 : Nat) ≠ 74 by omega) (by omega) (by omega) (by omega), e 78 _ (show (78 : Nat) ≠ 74 by omega) (by omega) (by omega) (by omega), e 93 _ (show (93 : Nat) ≠ 74 by omega) (by omega) (by omega) (by omega), e 82 _ (show (82 : Nat) ≠ 74 by omega) (by omega) (by omega) (by omega), e 89 _ (show (89 : Nat) ≠ 74 by omega) (by omega) (by omega) (by omega)]
    exact this
  · have := a4 i ((hII i).mp hi)
    unfold T4 at *
    rw [e 85 _ (by omega) (by omega) (by omega) (by omega), e 86 _ (by omega) (by omega) (by omega) (by omega)]
    refine ⟨?_, ?_⟩
    · rcases this.1 with q | ⟨q1, q2⟩
      · exact Or.inl q
      · exact Or.inr ⟨hBB _ q1, by rw [e92 _ (by unfold BB at q1; omega) (by unfold BB at q1; omega)]; exact q2⟩
    · rcases this.2 with q | ⟨q1, q2⟩
      · exact Or.inl q
      · exact Or.inr ⟨hBB _ q1, by rw [e92 _ (by unfold BB at q1; omega) (by unfold BB at q1; omega)]; exact q2⟩
  · by_cases hqb : q = b
    · subst hqb
      unfold T5
      rw [f90, f91, f92]
      refine ⟨Or.inl rfl, Or.inl rfl, ?_, by omega⟩
      rcases ho with h | h
      · exact Or.inl h
      · exact Or.inr ((hII o).mpr h)
    · have hq2 : BB F s q := by unfold BB at *; omega
      have := a5 q hq2
      have hq3 : 0 ≤ q := by unfold BB at hq2; omega
      unfold T5 at *
      rw [e90 q hq3 hqb, e91 q hq3 hqb, e92 q hq3 hqb]
      simp only [hII, e 88 _ (show (88 : Nat) ≠ 74 by omega) (by omega) (by omega) (by omega)]
      exact this
  · rw [hII, e 93 _ (by omega) (by omega) (by omega) (by omega)]
    rw [g3] at h2
    exact a6 k h1 h2
theorem V_ne {F : FN} {c c' : Nat} {i j : Int} {x : Int32} (h : c' ≠ c) : V (w1 F c i x) c' j = V F c' j := by rw [V_w1, if_neg (by omega)]
theorem V_eq {F : FN} {c : Nat} {i : Int} {x : Int32} : V (w1 F c i x) c i = x.toInt := by rw [V_w1, if_pos ⟨rfl, rfl⟩]
theorem V_nj {F : FN} {c c' : Nat} {i j : Int} {x : Int32} (hj : 0 ≤ j) (hi : 0 ≤ i) (h : j ≠ i) : V (w1 F c i x) c' j = V F c' j := by rw [V_w1, if_neg (by omega)]
theorem GR.mono {F G : FN} {s n m b n' m' : Int} (h : GR F G s n m b) (hn : n' ≤ n) (hm : m' ≤ m) : GR F G s n' m' b := ⟨fun i h1 h2 => h.1 i h1 (by omega), fun q h1 h2 => h.2.1 q h1 (by omega), h.2.2⟩
theorem GR.tr {F G H : FN} {s n m b n' m' b' : Int} (h : GR F G s n m b) (g : GR G H s n' m' b') (hn : n ≤ n') (hm : m ≤ m') (hb : b' = b ∨ m ≤ b' ∨ b' < 280 * s) : GR F H s n m b := by
  refine ⟨fun i h1 h2 => ?_, fun q h1 h2 => ?_, Int.le_trans h.2.2.1 g.2.2.1, Int.le_trans h.2.2.2.1 g.2.2.2.1, Int.le_trans h.2.2.2.2 g.2.2.2.2⟩
  · have a := h.1 i h1 h2
    have c := g.1 i h1 (by omega)
    omega
  · have a := h.2.1 q h1 h2
    have c := g.2.1 q h1 (by omega)
    omega
theorem GR.w {F : FN} {s n m b i : Int} {c : Nat} {x : Int32} (hs : 0 ≤ s) (hc : 76 < c ∧ c < 91) (hi : n ≤ i) (h0 : 0 ≤ i) : GR F (w1 F c i x) s n m b := by
  refine ⟨fun j h1 h2 => ⟨V_nj (by omega) h0 (by omega), V_nj (by omega) h0 (by omega), V_nj (by omega) h0 (by omega), V_nj (by omega) h0 (by omega), V_nj (by omega) h0 (by omega), V_nj (by omega) h0 (by omega), V_nj (by omega) h0 (by omega)⟩, fun q h1 h2 => ⟨V_ne (by omega), Or.inr (V_ne (by omega))⟩, ?_, ?_, ?_⟩
  · rw [V_ne (by omega)]; exact Int.le_refl _
  · rw [V_ne (by omega)]; exact Int.le_refl _
  · rw [V_ne (by omega)]; exact Int.le_refl _
theorem CC.gr {F G : FN} {s n m b j : Int} (h : CC F j) (g : GR F G s n m b) (h1 : 130 * s ≤ j) (h2 : j < n) : CC G j := by
  have a := g.1 j h1 h2
  unfold CC at *
  omega
theorem CN.join {F G : FN} {s n m b d : Int} (h : CN F s n d) (g : GR F G s (130 * s + V F 73 s) m b) (k : CN G s (130 * s + V F 73 s) d) (hn : 130 * s ≤ n) : CN G s n d := by
  intro j h1 h2
  by_cases q : j < 130 * s + V F 73 s
  · have a := h j h1 q
    have c := g.1 j (by omega) q
    exact ⟨by omega, a.2.gr g (by omega) q⟩
  · exact k j (by omega) h2
theorem CN.w {F : FN} {s n d i : Int} {c : Nat} {x : Int32} (h : CN F s n d) (h0 : 0 ≤ i) (hi : i < n) (hc : c ≠ 73) : CN (w1 F c i x) s n d := by
  intro j h1 h2
  rw [V_ne (by omega)] at h2
  have a := h j h1 h2
  have e : ∀ c' : Nat, V (w1 F c i x) c' j = V F c' j := fun c' => V_nj (by omega) h0 (by omega)
  unfold CC at *
  rw [e, e, e, e, e]
  exact a
theorem TR.cong {F G : FN} {s : Int} (e : ∀ (c : Nat) (j : Int), c = 73 ∨ c = 74 ∨ c = 75 ∨ c = 80 ∨ c = 87 ∨ c = 88 ∨ c = 90 ∨ c = 91 ∨ c = 92 ∨ c = 93 → V G c j = V F c j) (t : TR F s) (h3 : ∀ i, II F s i → T3 G s i) (h4 : ∀ i, II F s i → T4 G s i) : TR G s := by
  obtain ⟨a0, a1, a2, a3, a4, a5, a6⟩ := t
  have hII : ∀ i, II G s i ↔ II F s i := fun i => by unfold II; rw [e 73 _ (by omega)]
  have hBB : ∀ i, BB G s i ↔ BB F s i := fun i => by unfold BB; rw [e 74 _ (by omega)]
  refine ⟨?_, fun i hi => ?_, fun i hi => ?_, fun i hi => h3 i ((hII i).mp hi), fun i hi => h4 i ((hII i).mp hi), fun b hb => ?_, fun k h1 h2 => ?_⟩
  · rw [e 73 _ (by omega), e 74 _ (by omega), e 75 _ (by omega)]; exact a0
  · have := a1 i ((hII i).mp hi)
    unfold T1 at *
    simp only [e 73 _ (show _ by omega), e 87 _ (show _ by omega), e 88 _ (show _ by omega)]; exact this
  · have := a2 i ((hII i).mp hi)
    unfold T2 at *
    simp only [hBB, e 80 _ (show _ by omega), e 92 _ (show _ by omega), e 88 _ (show _ by omega)]; exact this
  · have := a5 b ((hBB b).mp hb)
    unfold T5 at *
    simp only [hII, e 88 _ (show _ by omega), e 90 _ (show _ by omega), e 91 _ (show _ by omega), e 92 _ (show _ by omega)]; exact this
  · rw [hII, e 93 _ (by omega)]
    rw [e 75 _ (by omega)] at h2
    exact a6 k h1 h2
theorem TR.setB {F : FN} {s i v : Int} {c : Nat} {x : Int32} (hc : c = 85 ∨ c = 86) (hs : 0 ≤ s) (hi : 0 ≤ i) (t : TR F s) (hx : x.toInt = v) (hb : BB F s v) (ho : V F 92 v = i) : TR (w1 F c i x) s := by
  have hBB : ∀ j, BB (w1 F c i x) s j ↔ BB F s j := fun j => by unfold BB; rw [V_ne (by omega)]
  refine TR.cong (F := F) (fun c' j h => V_ne (by omega)) t (fun j hj => ?_) (fun j hj => ?_)
  · have := t.2.2.2.1 j hj
    unfold T3 at *
    rw [V_ne (by omega), V_ne (by omega), V_ne (by omega), V_ne (by omega), V_ne (by omega), V_ne (by omega), V_ne (by omega)]
    exact this
  · have := t.2.2.2.2.1 j hj
    have hj0 : 0 ≤ j := by unfold II at hj; omega
    unfold T4 at *
    rw [hBB, hBB, V_ne (c' := 92) (by omega), V_ne (c' := 92) (by omega)]
    by_cases q : j = i
    · subst q
      rcases hc with rfl | rfl
      · rw [V_eq, V_ne (c' := 86) (by omega), hx]; exact ⟨Or.inr ⟨hb, ho⟩, this.2⟩
      · rw [V_eq, V_ne (c' := 85) (by omega), hx]; exact ⟨this.1, Or.inr ⟨hb, ho⟩⟩
    · rw [V_nj hj0 hi q, V_nj hj0 hi q]
      exact this
theorem TR.setN {F : FN} {s i : Int} {x : Int32} (hs : 0 ≤ s) (hi : 0 ≤ i) (t : TR F s) (hk : V F 77 i = 6) : TR (w1 F 82 i x) s := by
  have hBB : ∀ j, BB (w1 F 82 i x) s j ↔ BB F s j := fun j => by unfold BB; rw [V_ne (by omega)]
  refine TR.cong (F := F) (fun c' j h => V_ne (by omega)) t (fun j hj => ?_) (fun j hj => ?_)
  · have := t.2.2.2.1 j hj
    have hj0 : 0 ≤ j := by unfold II at hj; omega
    unfold T3 at *
    rw [V_ne (c' := 77) (by omega), V_ne (c' := 78) (by omega), V_ne (c' := 75) (by omega), V_ne (c' := 93) (by omega), V_ne (c' := 89) (by omega), V_ne (c' := 89) (by omega)]
    by_cases q : j = i
    · subst q
      refine ⟨this.1, fun w => by omega, fun w => by omega, this.2.2.2⟩
    · rw [V_nj hj0 hi q]
      exact this
  · have := t.2.2.2.2.1 j hj
    unfold T4 at *
    rw [hBB, hBB, V_ne (by omega), V_ne (by omega), V_ne (by omega), V_ne (by omega)]
    exact this
/-- a SET becomes a CALL -/
theorem TR.setK {F : FN} {s i : Int} {x : Int32} (hs : 0 ≤ s) (hi : 0 ≤ i) (t : TR F s) (hk : V F 77 i = 0) (hx : x.toInt = 1) (hn : V F 82 i ≤ 5) : TR (w1 F 77 i x) s := by
  have hBB : ∀ j, BB (w1 F 77 i x) s j ↔ BB F s j := fun j => by unfold BB; rw [V_ne (by omega)]
  refine TR.cong (F := F) (fun c' j h => V_ne (by omega)) t (fun j hj => ?_) (fun j hj => ?_)
  · have := t.2.2.2.1 j hj
    have hj0 : 0 ≤ j := by unfold II at hj; omega
    unfold T3 at *
    rw [V_ne (c' := 82) (by omega), V_ne (c' := 78) (by omega), V_ne (c' := 75) (by omega), V_ne (c' := 93) (by omega), V_ne (c' := 89) (by omega), V_ne (c' := 89) (by omega)]
    by_cases q : j = i
    · subst q
      rw [V_eq, hx]
      exact ⟨fun _ => this.1 (by omega), fun _ => this.2.1 (by omega), fun _ => hn, this.2.2.2⟩
    · rw [V_nj hj0 hi q]
      exact this
  · have := t.2.2.2.2.1 j hj
    unfold T4 at *
    rw [hBB, hBB, V_ne (by omega), V_ne (by omega), V_ne (by omega), V_ne (by omega)]
    exact this
/-- what the tree does not hold -/
theorem TR.irr {F : FN} {s i : Int} {c : Nat} {x : Int32} (hc : c = 79 ∨ c = 81 ∨ c = 83 ∨ c = 84 ∨ 94 ≤ c) (t : TR F s) : TR (w1 F c i x) s := by
  have hBB : ∀ j, BB (w1 F c i x) s j ↔ BB F s j := fun j => by unfold BB; rw [V_ne (by omega)]
  refine TR.cong (F := F) (fun c' j h => V_ne (by omega)) t (fun j hj => ?_) (fun j hj => ?_)
  · have := t.2.2.2.1 j hj
    unfold T3 at *
    rw [V_ne (by omega), V_ne (by omega), V_ne (by omega), V_ne (by omega), V_ne (by omega), V_ne (by omega), V_ne (by omega)]
    exact this
  · have := t.2.2.2.2.1 j hj
    unfold T4 at *
    rw [hBB, hBB, V_ne (by omega), V_ne (by omega), V_ne (by omega), V_ne (by omega)]
    exact this
theorem TR.set9 {F : FN} {s i : Int} {x : Int32} (t : TR F s) (hx : x.toInt ≤ 1009) : TR (w1 F 89 i x) s := by
  have hBB : ∀ j, BB (w1 F 89 i x) s j ↔ BB F s j := fun j => by unfold BB; rw [V_ne (by omega)]
  refine TR.cong (F := F) (fun c' j h => V_ne (by omega)) t (fun j hj => ?_) (fun j hj => ?_)
  · have := t.2.2.2.1 j hj
    unfold T3 at *
    rw [V_ne (by omega), V_ne (by omega), V_ne (by omega), V_ne (by omega), V_ne (by omega)]
    refine ⟨this.1, this.2.1, this.2.2.1, ?_, ?_⟩
    · rw [V_w1]; split
      · exact hx
      · exact this.2.2.2.1
    · rw [V_w1]; split
      · exact hx
      · exact this.2.2.2.2
  · have := t.2.2.2.2.1 j hj
    unfold T4 at *
    rw [hBB, hBB, V_ne (by omega), V_ne (by omega), V_ne (by omega), V_ne (by omega)]
    exact this
theorem TR.newI {F G : FN} {s n b d its nm : Int} (hs : 0 ≤ s) (hn : n = 130 * s + V F 73 s) (t : TR F s) (hb : BB F s b) (ho : OO F s (V F 92 b) d)
    (h73 : V G 73 s = V F 73 s + 1) (h74 : V G 74 s = V F 74 s)
    (hc : ∀ c : Nat, c = 77 ∨ c = 78 ∨ c = 80 ∨ c = 82 ∨ c = 85 ∨ c = 86 ∨ c = 88 → ∀ j : Int, 0 ≤ j → j ≠ n → V G c j = V F c j)
    (k77 : V G 77 n = its) (k80 : V G 80 n = d) (k82 : V G 82 n = nm) (k85 : V G 85 n = -1) (k86 : V G 86 n = -1) (k87 : V G 87 n = -1) (k88 : V G 88 n = b) (k89 : V G 89 (2 * n) ≤ 1009) (k89' : V G 89 (2 * n + 1) ≤ 1009)
    (h89 : ∀ j : Int, 0 ≤ j → j ≠ 2 * n → j ≠ 2 * n + 1 → V G 89 j = V F 89 j)
    (h87 : ∀ j : Int, 0 ≤ j → j ≠ n → V G 87 j = V F 87 j ∨ (j = V F 91 b ∧ ¬ V F 90 b = -1 ∧ V G 87 j = n))
    (hst : (its = 6 ∧ V G 75 s = V F 75 s ∧ ∀ j : Int, V G 93 j = V F 93 j) ∨ (¬ its = 6 ∧ V G 78 n = V F 75 s ∧ V G 75 s = V F 75 s + 1 ∧ V G 93 (40 * s + V F 75 s) = n ∧ ∀ j : Int, 0 ≤ j → j ≠ 40 * s + V F 75 s → V G 93 j = V F 93 j))
    (h90 : (V F 90 b = -1 ∧ V G 90 b = n) ∨ (¬ V F 90 b = -1 ∧ V G 90 b = V F 90 b)) (h90' : ∀ j : Int, 0 ≤ j → j ≠ b → V G 90 j = V F 90 j)
    (h91 : V G 91 b = n) (h91' : ∀ j : Int, 0 ≤ j → j ≠ b → V G 91 j = V F 91 j) (h92 : ∀ j : Int, V G 92 j = V F 92 j)
    (hnm : its ≤ 1 → 0 ≤ nm) (hits : ¬ its = 1) : TR G s ∧ GR F G s n (280 * s + V F 74 s) b := by
  obtain ⟨⟨p1, p2, p3⟩, a1, a2, a3, a4, a5, a6⟩ := t
  have hnn : II G s n := by unfold II; omega
  have hII : ∀ i, II F s i → II G s i := fun i h => by unfold II at *; omega
  have hJJ : ∀ i, II G s i → i ≠ n → II F s i := fun i h h' => by unfold II at *; omega
  have hI0 : ∀ i, II F s i → 0 ≤ i ∧ i ≠ n := fun i h => by unfold II at h; omega
  have hBB : ∀ i, BB G s i ↔ BB F s i := fun i => by unfold BB; omega
  have hB0 : ∀ i, BB F s i → 0 ≤ i := fun i h => by unfold BB at h; omega
  have e88 : ∀ i, II F s i → V G 88 i = V F 88 i := fun i h => hc 88 (by omega) i (hI0 i h).1 (hI0 i h).2
  have e80 : ∀ i, 0 ≤ i → i ≠ n → V G 80 i = V F 80 i := fun i h h' => hc 80 (by omega) i h h'
  have g75 : V F 75 s ≤ V G 75 s := by rcases hst with h | h <;> omega
  refine ⟨⟨⟨by omega, by omega, by omega⟩, fun i hi => ?_, fun i hi => ?_, fun i hi => ?_, fun i hi => ?_, fun q hq => ?_, fun k h1 h2 => ?_⟩, ⟨fun i h1 h2 => ⟨hc 77 (by omega) i (by omega) (by omega), hc 78 (by omega) i (by omega) (by omega), hc 80 (by omega) i (by omega) (by omega), hc 82 (by omega) i (by omega) (by omega), hc 85 (by omega) i (by omega) (by omega), hc 86 (by omega) i (by omega) (by omega), hc 88 (by omega) i (by omega) (by omega)⟩, fun q h1 h2 => ⟨h92 q, ?_⟩, by omega, by omega, g75⟩⟩
  · unfold T1
    by_cases hin : i = n
    · exact Or.inl (by rw [hin]; exact k87)
    · have hF := hJJ i hi hin
      rcases h87 i (hI0 i hF).1 hin with h | ⟨h1, h2, h3⟩
      · rw [h]
        rcases a1 i hF with w | ⟨w1, w2, w3⟩
        · exact Or.inl w
        · refine Or.inr ⟨w1, by omega, ?_⟩
          have : II F s (V F 87 i) := by unfold II at *; omega
          rw [e88 _ this, e88 _ hF]; exact w3
      · rw [h3]
        have hb5 := (a5 b hb).2.1
        rcases hb5 with w | ⟨w1, w2⟩
        · unfold II at hF; omega
        · refine Or.inr ⟨by unfold II at hF; omega, by omega, ?_⟩
          rw [k88, e88 _ hF, h1]; exact w2.symm
  · unfold T2
    by_cases hin : i = n
    · rw [hin, k88, h92, k80]
      refine ⟨(hBB b).mpr hb, ?_⟩
      rcases ho with ⟨o1, o2⟩ | ⟨o1, o2, o3⟩
      · exact Or.inl ⟨o1, o2⟩
      · have o0 := hI0 _ o1
        refine Or.inr ⟨by unfold II at o1; omega, by unfold II at o1; omega, ?_, fun k w1 w2 => ?_⟩
        · rw [e80 _ o0.1 o0.2]; exact o2
        · by_cases hk : k = n
          · rw [hk, k80]; omega
          · rw [e80 k (by omega) hk]; exact o3 k w1 (by omega)
    · have hF := hJJ i hi hin
      have w := a2 i hF
      unfold T2 at w
      rw [e88 i hF, h92, e80 i (hI0 i hF).1 hin]
      refine ⟨(hBB _).mpr w.1, ?_⟩
      rcases w.2 with q | ⟨q1, q2, q3, q4⟩
      · exact Or.inl q
      · refine Or.inr ⟨q1, q2, ?_, fun k w1 w2 => ?_⟩
        · rw [e80 _ (by omega) (by unfold II at hF; omega)]; exact q3
        · rw [e80 k (by omega) (by unfold II at hF; omega)]; exact q4 k w1 w2
  · unfold T3
    by_cases hin : i = n
    · rw [hin, k77, k82]
      refine ⟨fun w => ?_, hnm, fun w => absurd w hits, k89, k89'⟩
      rcases hst with h | ⟨h1, h2, h3, h4, h5⟩
      · omega
      · rw [h2]; exact ⟨p3, by omega, h4⟩
    · have hF := hJJ i hi hin
      have w := a3 i hF
      have i0 := hI0 i hF
      unfold T3 at w
      rw [hc 77 (by omega) i i0.1 hin, hc 78 (by omega) i i0.1 hin, hc 82 (by omega) i i0.1 hin, h89 (2 * i) (by omega) (by omega) (by omega), h89 (2 * i + 1) (by omega) (by omega) (by omega)]
      refine ⟨fun q => ?_, w.2⟩
      obtain ⟨w1, w2, w3⟩ := w.1 q
      refine ⟨w1, by omega, ?_⟩
      rcases hst with ⟨h1, h2, h3⟩ | ⟨h1, h2, h3, h4, h5⟩
      · rw [h3]; exact w3
      · rw [h5 _ (by omega) (by omega)]; exact w3
  · unfold T4
    by_cases hin : i = n
    · rw [hin, k85, k86]; exact ⟨Or.inl rfl, Or.inl rfl⟩
    · have hF := hJJ i hi hin
      have w := a4 i hF
      have i0 := hI0 i hF
      unfold T4 at w
      rw [hc 85 (by omega) i i0.1 hin, hc 86 (by omega) i i0.1 hin, h92, h92, hBB, hBB]
      exact w
  · have hF := (hBB q).mp hq
    have w := a5 q hF
    have q0 := hB0 q hF
    unfold T5 at *
    rw [h92]
    by_cases hqb : q = b
    · subst hqb
      rw [h91]
      refine ⟨?_, Or.inr ⟨hnn, k88⟩, ?_, fun _ => by omega⟩
      · rcases h90 with ⟨z1, z2⟩ | ⟨z1, z2⟩
        · rw [z2]; exact Or.inr ⟨hnn, k88⟩
        · rw [z2]
          rcases w.1 with v | ⟨v1, v2⟩
          · exact Or.inl v
          · exact Or.inr ⟨hII _ v1, by rw [e88 _ v1]; exact v2⟩
      · rcases w.2.2.1 with v | v
        · exact Or.inl v
        · exact Or.inr (hII _ v)
    · rw [h90' q q0 hqb, h91' q q0 hqb]
      refine ⟨?_, ?_, ?_, w.2.2.2⟩
      · rcases w.1 with v | ⟨v1, v2⟩
        · exact Or.inl v
        · exact Or.inr ⟨hII _ v1, by rw [e88 _ v1]; exact v2⟩
      · rcases w.2.1 with v | ⟨v1, v2⟩
        · exact Or.inl v
        · exact Or.inr ⟨hII _ v1, by rw [e88 _ v1]; exact v2⟩
      · rcases w.2.2.1 with v | v
        · exact Or.inl v
        · exact Or.inr (hII _ v)
  · rcases hst with ⟨h3, h4, h5⟩ | ⟨h3, h4, h5, h6, h7⟩
    · rw [h5]; rw [h4] at h2; exact hII _ (a6 k h1 h2)
    · by_cases hk : k = V F 75 s
      · rw [hk, h6]; exact hnn
      · rw [h7 _ (by omega) (by omega)]; exact hII _ (a6 k h1 (by omega))
  · by_cases hqb : q = b
    · exact Or.inl hqb
    · exact Or.inr (h91' q (by omega) hqb)
/-- what reading a block (of o, at depth d) does to the tree: v is the block -/
def RB (F G : FN) (s o d v : Int) : Prop := TR F s → OO F s o d → TR G s ∧ GR F G s (130 * s + V F 73 s) (280 * s + V F 74 s) (-1) ∧ CN G s (130 * s + V F 73 s) d ∧ 280 * s + V F 74 s ≤ v ∧ v < 280 * s + V G 74 s ∧ V G 92 v = o
def RI (F G : FN) (s b d : Int) : Prop := TR F s → BB F s b → OO F s (V F 92 b) d → TR G s ∧ GR F G s (130 * s + V F 73 s) (280 * s + V F 74 s) b ∧ CN G s (130 * s + V F 73 s) d
/-- what reading the rest of an item, the latest, does -/
def RT (F G : FN) (s i d : Int) : Prop := TR F s → i = 130 * s + V F 73 s - 1 → 0 < V F 73 s → V F 80 i = d → TR G s ∧ GR F G s i (280 * s + V F 74 s) (-1) ∧ CN G s i d ∧ V G 88 i = V F 88 i
/-- the loop of a block -/
def LI (F G : FN) (s o d v : Int) : Prop := TR F s → OO F s o d → TR G s ∧ GR F G s (130 * s + V F 73 s) (280 * s + V F 74 s) (-1) ∧ CN G s (130 * s + V F 73 s) d ∧ 280 * s + V F 74 s ≤ v ∧ v < 280 * s + V G 74 s ∧ V G 92 v = o ∧ OO G s o d
theorem OO.gr {F G : FN} {s o d m b : Int} (h : OO F s o d) (g : GR F G s (130 * s + V F 73 s) m b) (k : CN G s (130 * s + V F 73 s) d) : OO G s o d := by
  rcases h with h | ⟨h1, h2, h3⟩
  · exact Or.inl h
  · have a := g.1 o h1.1 h1.2
    have c := g.2.2.1
    refine Or.inr ⟨⟨h1.1, by have := h1.2; omega⟩, by omega, fun q w1 w2 => ?_⟩
    by_cases hq : q < 130 * s + V F 73 s
    · have a2 := g.1 q (by have := h1.1; omega) hq
      have a3 := h3 q w1 hq
      omega
    · exact (k q (by omega) w2).1
theorem LI.init {F G : FN} {s o d v : Int} {x y z w : Int32} (hs : 0 ≤ s) (hG : VE (w1 (w1 (w1 (w1 F 74 s x) 90 v y) 91 v z) 92 v w) G) (hv : v = 280 * s + V F 74 s) (hx : x.toInt = V F 74 s + 1) (hy : y.toInt = -1) (hz : z.toInt = -1) (hw : w.toInt = o) : LI F G s o d v := by
  intro t ho
  have ho2 : o = -1 ∨ II F s o := by
    rcases ho with h | h
    · exact Or.inl h.1
    · exact Or.inr h.1
  obtain ⟨b1, b2, b3, b4, b5, b6, b7, b8, b9⟩ := TR.newB hs hv hx hy hz hw t ho2
  have t2 := b1.ve hG
  have g2 := b2.tr (GR.ve hG s (130 * s + V F 73 s) (280 * s + V F 74 s) (-1)) (by omega) (by omega) (by omega)
  have e73 : V G 73 s = V F 73 s := by rw [hG.v (by omega) (by omega)]; exact b6
  have e74 : V G 74 s = V F 74 s + 1 := by rw [hG.v (by omega) (by omega)]; exact b7
  have cn : CN G s (130 * s + V F 73 s) d := fun j h1 h2 => by omega
  exact ⟨t2, g2, cn, by omega, by omega, by rw [hG.v (by omega) (by omega)]; exact b3, ho.gr g2 cn⟩
theorem LI.step {F G H : FN} {s o d v : Int} (hs : 0 ≤ s) (h : LI F G s o d v) (r : RI G H s v d) : LI F H s o d v := by
  intro t ho
  obtain ⟨a1, a2, a3, a4, a5, a6, a7⟩ := h t ho
  have p := t.1
  obtain ⟨b1, b2, b3⟩ := r a1 ⟨by omega, a5⟩ (by rw [a6]; exact a7)
  have g := a2.tr b2 (by have := a2.2.2.1; omega) (by have := a2.2.2.2.1; omega) (by omega)
  have cn := a3.join b2 b3 (by omega)
  exact ⟨b1, g, cn, a4, by have := b2.2.2.2.1; omega, by rw [(b2.2.1 v (by omega) a5).1]; exact a6, a7.gr b2 b3⟩
theorem LI.ve {F G H : FN} {s o d v : Int} (h : LI F G s o d v) (e : VE G H) : LI F H s o d v := by
  intro t ho
  obtain ⟨a1, a2, a3, a4, a5, a6, a7⟩ := h t ho
  exact ⟨a1.ve e, a2.tr (GR.ve e s (130 * s + V F 73 s) (280 * s + V F 74 s) (-1)) (by omega) (by omega) (by omega), a3.ve e, a4, by rw [e.v (by omega) (by omega)]; exact a5, by rw [e.v (by omega) (by omega)]; exact a6, a7.ve e⟩
theorem LI.ve0 {E F G : FN} {s o d v : Int} (e : VE E F) (h : LI F G s o d v) : LI E G s o d v := by
  intro t ho
  obtain ⟨a1, a2, a3, a4, a5, a6, a7⟩ := h (t.ve e) (ho.ve e)
  have e1 : V F 73 s = V E 73 s := e.v (by omega) (by omega)
  have e2 : V F 74 s = V E 74 s := e.v (by omega) (by omega)
  rw [e1, e2] at a2; rw [e1] at a3; rw [e2] at a4
  exact ⟨a1, (GR.ve e s (130 * s + V E 73 s) (280 * s + V E 74 s) (-1)).tr a2 (by omega) (by omega) (by omega), a3, a4, a5, a6, a7⟩
theorem LI.fin {F G : FN} {s o d v : Int} (h : LI F G s o d v) : RB F G s o d v := by
  intro t ho
  obtain ⟨a1, a2, a3, a4, a5, a6, a7⟩ := h t ho
  exact ⟨a1, a2, a3, a4, a5, a6⟩
/-- an item n is made in the block b -/
def NI (E G : FN) (s b d n its nm : Int) : Prop := TR E s → BB E s b → OO E s (V E 92 b) d → TR G s ∧ GR E G s n (280 * s + V E 74 s) b ∧ n = 130 * s + V E 73 s ∧ V G 73 s = V E 73 s + 1 ∧ V G 74 s = V E 74 s ∧ V G 80 n = d ∧ V G 77 n = its ∧ V G 82 n = nm
theorem NI.mk {E F G : FN} {s n b d its nm : Int} (hs : 0 ≤ s) (e0 : VE E F) (hn : n = 130 * s + V F 73 s)
    (h73 : V G 73 s = V F 73 s + 1) (h74 : V G 74 s = V F 74 s)
    (hc : ∀ c : Nat, c = 77 ∨ c = 78 ∨ c = 80 ∨ c = 82 ∨ c = 85 ∨ c = 86 ∨ c = 88 → ∀ j : Int, 0 ≤ j → j ≠ n → V G c j = V F c j)
    (k77 : V G 77 n = its) (k80 : V G 80 n = d) (k82 : V G 82 n = nm) (k85 : V G 85 n = -1) (k86 : V G 86 n = -1) (k87 : V G 87 n = -1) (k88 : V G 88 n = b) (k89 : V G 89 (2 * n) ≤ 1009) (k89' : V G 89 (2 * n + 1) ≤ 1009)
    (h89 : ∀ j : Int, 0 ≤ j → j ≠ 2 * n → j ≠ 2 * n + 1 → V G 89 j = V F 89 j)
    (h87 : ∀ j : Int, 0 ≤ j → j ≠ n → V G 87 j = V F 87 j ∨ (j = V F 91 b ∧ ¬ V F 90 b = -1 ∧ V G 87 j = n))
    (hst : (its = 6 ∧ V G 75 s = V F 75 s ∧ ∀ j : Int, V G 93 j = V F 93 j) ∨ (¬ its = 6 ∧ V G 78 n = V F 75 s ∧ V G 75 s = V F 75 s + 1 ∧ V G 93 (40 * s + V F 75 s) = n ∧ ∀ j : Int, 0 ≤ j → j ≠ 40 * s + V F 75 s → V G 93 j = V F 93 j))
    (h90 : (V F 90 b = -1 ∧ V G 90 b = n) ∨ (¬ V F 90 b = -1 ∧ V G 90 b = V F 90 b)) (h90' : ∀ j : Int, 0 ≤ j → j ≠ b → V G 90 j = V F 90 j)
    (h91 : V G 91 b = n) (h91' : ∀ j : Int, 0 ≤ j → j ≠ b → V G 91 j = V F 91 j) (h92 : ∀ j : Int, V G 92 j = V F 92 j)
    (hnm : its ≤ 1 → 0 ≤ nm) (hits : ¬ its = 1) : NI E G s b d n its nm := by
  intro t hb ho
  have e1 : V F 73 s = V E 73 s := e0.v (by omega) (by omega)
  have e2 : V F 74 s = V E 74 s := e0.v (by omega) (by omega)
  have t' := t.ve e0
  obtain ⟨c1, c2⟩ := TR.newI hs hn t' ((BB.ve e0).mpr hb) (by rw [e0.v (by omega) (by omega)]; exact ho.ve e0) h73 h74 hc k77 k80 k82 k85 k86 k87 k88 k89 k89' h89 h87 hst h90 h90' h91 h91' h92 hnm hits
  have g' := (GR.ve e0 s n (280 * s + V F 74 s) b).tr c2 (by omega) (by omega) (by omega)
  rw [e2] at g'
  exact ⟨c1, g', by omega, by omega, by omega, k80, k77, k82⟩
theorem RI.of {E G H : FN} {s b d n its nm : Int} (hs : 0 ≤ s) (h : NI E G s b d n its nm) (r : RT G H s n d) : RI E H s b d := by
  intro t hb ho
  obtain ⟨c1, c2, c3, c4, c5, c6, _, _⟩ := h t hb ho
  have p := t.1
  obtain ⟨d1, d2, d3, d4⟩ := r c1 (by omega) (by omega) c6
  have g := c2.tr d2 (by omega) (by omega) (by omega)
  rw [c3] at g d3
  exact ⟨d1, g, d3⟩
theorem OO.last {F : FN} {s i d : Int} (hi : i = 130 * s + V F 73 s - 1) (h0 : 0 < V F 73 s) (hd : V F 80 i = d) : OO F s i (d + 1) := Or.inr ⟨⟨by omega, by omega⟩, by omega, fun k h1 h2 => by omega⟩
/-- operands and signs alone -/
def OP (F G : FN) : Prop := ∀ s, (TR F s → TR G s) ∧ ∀ (c : Nat) (j : Int), 73 ≤ c → c ≤ 102 → c ≠ 89 → c ≠ 83 → V G c j = V F c j
theorem OP.rfl (F : FN) : OP F F := fun _ => ⟨id, fun _ _ _ _ _ _ => _root_.rfl⟩
theorem OP.trans {F G H : FN} (h : OP F G) (g : OP G H) : OP F H := fun s => ⟨fun t => (g s).1 ((h s).1 t), fun c j h1 h2 h3 h4 => ((g s).2 c j h1 h2 h3 h4).trans ((h s).2 c j h1 h2 h3 h4)⟩
theorem OP.ve {F G : FN} (e : VE F G) : OP F G := fun _ => ⟨fun t => t.ve e, fun c j h1 h2 _ _ => e.v h1 h2⟩
theorem OP.w9 {F : FN} {i : Int} {x : Int32} (hx : x.toInt ≤ 1009) : OP F (w1 F 89 i x) := fun _ => ⟨fun t => t.set9 hx, fun c j h1 h2 h3 h4 => V_ne h3⟩
theorem OP.w3 {F : FN} {i : Int} {x : Int32} : OP F (w1 F 83 i x) := fun _ => ⟨fun t => t.irr (by omega), fun c j h1 h2 h3 h4 => V_ne h4⟩
theorem OP.gr {F G : FN} (h : OP F G) (s n m b : Int) : GR F G s n m b := by
  have e := fun c j => (h s).2 c j
  refine ⟨fun i _ _ => ⟨e 77 _ (by omega) (by omega) (by omega) (by omega), e 78 _ (by omega) (by omega) (by omega) (by omega), e 80 _ (by omega) (by omega) (by omega) (by omega), e 82 _ (by omega) (by omega) (by omega) (by omega), e 85 _ (by omega) (by omega) (by omega) (by omega), e 86 _ (by omega) (by omega) (by omega) (by omega), e 88 _ (by omega) (by omega) (by omega) (by omega)⟩, fun q _ _ => ⟨e 92 _ (by omega) (by omega) (by omega) (by omega), Or.inr (e 91 _ (by omega) (by omega) (by omega) (by omega))⟩, ?_, ?_, ?_⟩
  · rw [e 73 _ (by omega) (by omega) (by omega) (by omega)]; exact Int.le_refl _
  · rw [e 74 _ (by omega) (by omega) (by omega) (by omega)]; exact Int.le_refl _
  · rw [e 75 _ (by omega) (by omega) (by omega) (by omega)]; exact Int.le_refl _
theorem RT.op {F G : FN} {s i d : Int} (h : OP F G) (hk : ¬ V F 77 i = 6) (h2 : ¬ V F 77 i = 2) (h3 : ¬ V F 77 i = 3) : RT F G s i d := by
  intro t hi h0 hd
  have e := fun c j => (h s).2 c j
  refine ⟨(h s).1 t, h.gr s _ _ _, fun j h1 h2 => ?_, e 88 _ (by omega) (by omega) (by omega) (by omega)⟩
  rw [e 73 _ (by omega) (by omega) (by omega) (by omega)] at h2
  have : j = i := by omega
  subst this
  unfold CC
  rw [e 77 _ (by omega) (by omega) (by omega) (by omega), e 80 _ (by omega) (by omega) (by omega) (by omega)]
  exact ⟨by omega, fun w => by omega, fun w => by omega⟩
/-- a SET that is a CALL -/
theorem RT.call {E F G : FN} {s i d : Int} {x y : Int32} (hs : 0 ≤ s) (h0 : OP E F) (h : OP (w1 (w1 F 77 i x) 84 i y) G) (hk : V E 77 i = 0) (hx : x.toInt = 1) (hn : V E 82 i ≤ 5) : RT E G s i d := by
  intro t hi hp hd
  have e := fun c j => (h0 s).2 c j
  have t1 := (h0 s).1 t
  have k77 : V F 77 i = 0 := by rw [e 77 _ (by omega) (by omega) (by omega) (by omega)]; exact hk
  have k82 : V F 82 i ≤ 5 := by rw [e 82 _ (by omega) (by omega) (by omega) (by omega)]; exact hn
  have t2 : TR (w1 (w1 F 77 i x) 84 i y) s := (t1.setK hs (by omega) k77 hx k82).irr (by omega)
  have g1 : GR F (w1 (w1 F 77 i x) 84 i y) s i (280 * s + V F 74 s) (-1) := (GR.w (b := -1) hs (by omega) (by omega) (by omega)).tr (GR.w (b := -1) hs (by omega) (Int.le_refl i) (by omega)) (by omega) (Int.le_refl _) (by omega)
  have e2 := fun c j => (h s).2 c j
  have e74 := e 74 s (by omega) (by omega) (by omega) (by omega)
  have g2 := ((h0.gr s i (280 * s + V E 74 s) (-1)).tr g1 (by omega) (by omega) (by omega)).tr (h.gr s i (280 * s + V E 74 s) (-1)) (by omega) (by omega) (by omega)
  refine ⟨(h s).1 t2, g2, fun j h1 h2 => ?_, ?_⟩
  · rw [e2 73 _ (by omega) (by omega) (by omega) (by omega), V_ne (by omega), V_ne (by omega), e 73 _ (by omega) (by omega) (by omega) (by omega)] at h2
    have : j = i := by omega
    subst this
    unfold CC
    rw [e2 77 _ (by omega) (by omega) (by omega) (by omega), V_ne (by omega), V_eq, e2 80 _ (by omega) (by omega) (by omega) (by omega), V_ne (by omega), V_ne (by omega), e 80 _ (by omega) (by omega) (by omega) (by omega)]
    exact ⟨by omega, fun w => by omega, fun w => by omega⟩
  · rw [e2 88 _ (by omega) (by omega) (by omega) (by omega), V_ne (by omega), V_ne (by omega), e 88 _ (by omega) (by omega) (by omega) (by omega)]
/-- the blocks of an item: the first, then (maybe) another -/
def R1 (F G : FN) (s i d : Int) : Prop := TR F s → i = 130 * s + V F 73 s - 1 → 0 < V F 73 s → V F 80 i = d → TR G s ∧ GR F G s i (280 * s + V F 74 s) (-1) ∧ CN G s (i + 1) (d + 1) ∧ V G 77 i = V F 77 i ∧ V G 80 i = d ∧ V G 88 i = V F 88 i ∧ 0 ≤ V G 85 i ∧ i < 130 * s + V G 73 s
theorem R1.mk {E F G : FN} {s i d v : Int} {x : Int32} (hs : 0 ≤ s) (h0 : OP E F) (r : RB F G s i (d + 1) v) (hx : x.toInt = v) : R1 E (w1 G 85 i x) s i d := by
  intro t hi hp hd
  have e := fun c j => (h0 s).2 c j
  have t1 := (h0 s).1 t
  have e73 := e 73 s (by omega) (by omega) (by omega) (by omega)
  have e74 := e 74 s (by omega) (by omega) (by omega) (by omega)
  have e80 := e 80 i (by omega) (by omega) (by omega) (by omega)
  have e77 := e 77 i (by omega) (by omega) (by omega) (by omega)
  have e88 := e 88 i (by omega) (by omega) (by omega) (by omega)
  have p := t1.1
  obtain ⟨a1, a2, a3, a4, a5, a6⟩ := r t1 (Or.inr ⟨⟨by omega, by omega⟩, by omega, fun k h1 h2 => by omega⟩)
  have b := a2.1 i (by omega) (by omega)
  have c := a2.2.2.1
  refine ⟨a1.setB (by omega) hs (by omega) hx ⟨by omega, a5⟩ a6, ?_, ?_, ?_, ?_, ?_, ?_, ?_⟩
  · exact ((h0.gr s i (280 * s + V E 74 s) (-1)).tr (a2.mono (n' := i) (m' := 280 * s + V E 74 s) (by omega) (by omega)) (by omega) (by omega) (by omega)).tr (GR.w (b := -1) hs (by omega) (Int.le_refl i) (by omega)) (by omega) (Int.le_refl _) (by omega)
  · have e1 : 130 * s + V F 73 s = i + 1 := by omega
    rw [e1] at a3
    exact a3.w (by omega) (by omega) (by omega)
  · rw [V_ne (by omega)]; omega
  · rw [V_ne (by omega)]; omega
  · rw [V_ne (by omega)]; omega
  · rw [V_eq, hx]; omega
  · rw [V_ne (by omega)]; omega
theorem R1.ve {F G H : FN} {s i d : Int} (r : R1 F G s i d) (e : VE G H) : R1 F H s i d := by
  intro t hi hp hd
  obtain ⟨a1, a2, a3, a4, a5, a6, a7, a8⟩ := r t hi hp hd
  refine ⟨a1.ve e, a2.tr (GR.ve e s i (280 * s + V F 74 s) (-1)) (by omega) (by omega) (by omega), a3.ve e, ?_, ?_, ?_, ?_, ?_⟩ <;> rw [e.v (by omega) (by omega)] <;> assumption
/-- one block alone: a loop, a test -/
theorem R1.fin {F G : FN} {s i d : Int} (r : R1 F G s i d) (hk : ¬ V F 77 i = 6) : RT F G s i d := by
  intro t hi hp hd
  obtain ⟨a1, a2, a3, a4, a5, a6, a7, a8⟩ := r t hi hp hd
  refine ⟨a1, a2, fun j h1 h2 => ?_, a6⟩
  by_cases q : j = i
  · rw [q]
    unfold CC
    exact ⟨by omega, fun w => by omega, fun _ => a7⟩
  · have := a3 j (by omega) h2
    exact ⟨by omega, this.2⟩
theorem R1.nm {F G : FN} {s i d : Int} {x : Int32} (hs : 0 ≤ s) (r : R1 F G s i d) (hk : V F 77 i = 6) : R1 F (w1 G 82 i x) s i d := by
  intro t hi hp hd
  have p := t.1
  obtain ⟨a1, a2, a3, a4, a5, a6, a7, a8⟩ := r t hi hp hd
  refine ⟨a1.setN hs (by omega) (by omega), a2.tr (GR.w (b := -1) hs (by omega) (Int.le_refl i) (by omega)) (by omega) (Int.le_refl _) (by omega), a3.w (by omega) (by omega) (by omega), ?_, ?_, ?_, ?_, ?_⟩ <;> rw [V_ne (by omega)] <;> assumption
theorem R1.fin2 {F G H : FN} {s i d v : Int} {x : Int32} (hs : 0 ≤ s) (r : R1 F G s i d) (r2 : RB G H s i (d + 1) v) (hx : x.toInt = v) (hk : V F 77 i = 6 → 0 ≤ V G 82 i ∧ V G 82 i ≤ 5) : RT F (w1 H 86 i x) s i d := by
  intro t hi hp hd
  have p := t.1
  obtain ⟨a1, a2, a3, a4, a5, a6, a7, a8⟩ := r t hi hp hd
  obtain ⟨b1, b2, b3, b4, b5, b6⟩ := r2 a1 (Or.inr ⟨⟨by omega, a8⟩, by omega, fun k h1 h2 => (a3 k (by omega) h2).1⟩)
  have p1 := a1.1
  have q := b2.1 i (by omega) (by omega)
  have g74 := a2.2.2.2.1
  have cn := a3.join b2 b3 (by omega)
  refine ⟨b1.setB (by omega) hs (by omega) hx ⟨by omega, b5⟩ b6, ?_, fun j h1 h2 => ?_, ?_⟩
  · exact (a2.tr (b2.mono (n' := i) (m' := 280 * s + V F 74 s) (by omega) (by omega)) (by omega) (by omega) (by omega)).tr (GR.w (b := -1) hs (by omega) (Int.le_refl i) (by omega)) (by omega) (Int.le_refl _) (by omega)
  · by_cases z : j = i
    · rw [z]
      unfold CC
      rw [V_eq, V_ne (by omega), V_ne (by omega), V_ne (by omega), V_ne (by omega), hx]
      exact ⟨by omega, fun w => by have := hk (by omega); omega, fun _ => by omega⟩
    · have := (cn.w (c := 86) (i := i) (x := x) (by omega) (by omega) (by omega)) j (by omega) h2
      exact ⟨by omega, this.2⟩
  · rw [V_ne (by omega)]; omega
theorem R1.oo {F G : FN} {s i d : Int} (r : R1 F G s i d) (t : TR F s) (hi : i = 130 * s + V F 73 s - 1) (h0 : 0 < V F 73 s) (hd : V F 80 i = d) : TR G s ∧ OO G s i (d + 1) := by
  have p := t.1
  obtain ⟨a1, a2, a3, a4, a5, a6, a7, a8⟩ := r t hi h0 hd
  exact ⟨a1, Or.inr ⟨⟨by omega, a8⟩, by omega, fun k h1 h2 => (a3 k (by omega) h2).1⟩⟩
/-- half of an array -/
def wd (c : Nat) : Int := if c ≤ 76 then 1 else if c ≤ 88 then 130 else if c = 89 then 260 else if c ≤ 92 then 280 else if c = 93 then 40 else if c = 94 then 5 else if c ≤ 99 then 40 else 5
/-- the other half stays -/
def OH (F G : FN) (s : Int) : Prop := (∀ (c j : Nat), 73 ≤ c → c ≤ 102 → ¬ (wd c * s ≤ (j : Int) ∧ (j : Int) < wd c * s + wd c) → G c j = F c j) ∧ G 70 6 = F 70 6 ∧ G 70 29 = F 70 29 ∧ G 70 30 = F 70 30
theorem OH.rfl (F : FN) (s : Int) : OH F F s := ⟨fun _ _ _ _ _ => _root_.rfl, _root_.rfl, _root_.rfl, _root_.rfl⟩
theorem OH.trans {F G H : FN} {s : Int} (h : OH F G s) (g : OH G H s) : OH F H s := ⟨fun c j a b e => (g.1 c j a b e).trans (h.1 c j a b e), g.2.1.trans h.2.1, g.2.2.1.trans h.2.2.1, g.2.2.2.trans h.2.2.2⟩
theorem OH.side {F G : FN} {s : Int} (h : OH F G s) : G 70 6 = F 70 6 := h.2.1
theorem OH.of {P : PP} {h g : HP} (a : Iv P h) (b : Iv P g) (s : Int) : OH h.2.1 g.2.1 s := ⟨fun c j h1 h2 _ => by rw [a.fz h1 h2, b.fz h1 h2], by rw [a.fy (by omega), b.fy (by omega)], by rw [a.fy (by omega), b.fy (by omega)], by rw [a.fy (by omega), b.fy (by omega)]⟩
theorem OH.w {F : FN} {s i : Int} {c : Nat} {x : Int32} (w : Int) (hw : wd c = w) (hc : 73 ≤ c) (h0 : 0 ≤ i) (h1 : w * s ≤ i) (h2 : i < w * s + w) : OH F (w1 F c i x) s := by
  refine ⟨fun c' j a b e => ?_, ?_, ?_, ?_⟩
  · show (if c' = c ∧ j = i.toNat then x else F c' j) = _
    rw [if_neg (fun q => by
      apply e
      rw [q.1, hw, q.2]
      omega)]
  · show (if 70 = c ∧ 6 = i.toNat then x else F 70 6) = _
    rw [if_neg (by omega)]
  · show (if 70 = c ∧ 29 = i.toNat then x else F 70 29) = _
    rw [if_neg (by omega)]
  · show (if 70 = c ∧ 30 = i.toNat then x else F 70 30) = _
    rw [if_neg (by omega)]
/-- a call has a callee -/
def CKF (F : FN) : Prop := ∀ j, (F 77 j).toInt = 1 → 0 ≤ (F 84 j).toInt
theorem CKF.ve {F G : FN} (e : VE F G) (h : CKF F) : CKF G := fun j => by rw [e 77 j (by omega) (by omega), e 84 j (by omega) (by omega)]; exact h j
theorem CKF.w {F : FN} {i : Int} {c : Nat} {x : Int32} (hc : c ≠ 77 ∧ c ≠ 84) (h : CKF F) : CKF (w1 F c i x) := by
  intro j
  show (if 77 = c ∧ j = i.toNat then x else F 77 j).toInt = 1 → 0 ≤ (if 84 = c ∧ j = i.toNat then x else F 84 j).toInt
  rw [if_neg (by omega), if_neg (by omega)]
  exact h j
theorem CKF.w77 {F : FN} {i : Int} {x : Int32} (hx : ¬ x.toInt = 1) (h : CKF F) : CKF (w1 F 77 i x) := by
  intro j
  show (if 77 = 77 ∧ j = i.toNat then x else F 77 j).toInt = 1 → 0 ≤ (if 84 = 77 ∧ j = i.toNat then x else F 84 j).toInt
  rw [if_neg (show ¬ (84 = 77 ∧ j = i.toNat) by omega)]
  by_cases q : 77 = 77 ∧ j = i.toNat
  · rw [if_pos q]; exact fun w => absurd w hx
  · rw [if_neg q]; exact h j
theorem CKF.w84 {F : FN} {i : Int} {x : Int32} (hx : 0 ≤ x.toInt ∨ ¬ V F 77 i = 1) (h : CKF F) : CKF (w1 F 84 i x) := by
  intro j
  show (if 77 = 84 ∧ j = i.toNat then x else F 77 j).toInt = 1 → 0 ≤ (if 84 = 84 ∧ j = i.toNat then x else F 84 j).toInt
  rw [if_neg (show ¬ (77 = 84 ∧ j = i.toNat) by omega)]
  by_cases q : 84 = 84 ∧ j = i.toNat
  · rw [if_pos q, q.2]
    intro w
    rcases hx with z | z
    · exact z
    · exact absurd w z
  · rw [if_neg q]; exact h j
theorem CKF.call {F G : FN} {i : Int} {x y : Int32} (e : VE (w1 F 77 i x) G) (hy : 0 ≤ y.toInt) (h : CKF F) : CKF (w1 G 84 i y) := by
  intro j
  show (if 77 = 84 ∧ j = i.toNat then y else G 77 j).toInt = 1 → 0 ≤ (if 84 = 84 ∧ j = i.toNat then y else G 84 j).toInt
  rw [if_neg (show ¬ (77 = 84 ∧ j = i.toNat) by omega)]
  by_cases q : 84 = 84 ∧ j = i.toNat
  · rw [if_pos q]; exact fun _ => hy
  · rw [if_neg q, e 77 j (by omega) (by omega), e 84 j (by omega) (by omega)]
    show (if 77 = 77 ∧ j = i.toNat then x else F 77 j).toInt = 1 → 0 ≤ (if 84 = 77 ∧ j = i.toNat then x else F 84 j).toInt
    rw [if_neg (by omega), if_neg (by omega)]
    exact h j
/-- P, but the reference's tree as it is -/
def mz (P : PP) (h : HP) : PP := (P.1, P.2.1, P.2.2.1, P.2.2.2.1, h.2.1)
def MW (P Q : PP) : Prop := Q.1 = P.1 ∧ Q.2.1 = P.2.1 ∧ Q.2.2.1 = P.2.2.1 ∧ Q.2.2.2.1 = P.2.2.2.1
theorem MW.rfl (P : PP) : MW P P := ⟨_root_.rfl, _root_.rfl, _root_.rfl, _root_.rfl⟩
theorem MW.mz (P : PP) (h : HP) : MW P (mz P h) := ⟨_root_.rfl, _root_.rfl, _root_.rfl, _root_.rfl⟩
theorem MW.trans {P Q R : PP} (h : MW P Q) (g : MW Q R) : MW P R := ⟨g.1.trans h.1, g.2.1.trans h.2.1, g.2.2.1.trans h.2.2.1, g.2.2.2.trans h.2.2.2⟩
theorem Iv.putF {P : PP} {h : HP} {c j : Nat} {x : Int32} {a : Int} (hi : Iv P h) (ex : TI x a) (h1 : (rg c j).1 ≤ a) (h2 : a ≤ (rg c j).2) (f1 : 73 ≤ c) : Iv (Jvm.Pilot.CCallSlicerLaw_law_r4367_10c721.mz P (hI h c j x)) (hI h c j x) := by
  obtain ⟨q1, q2, q3, q4, q5, q6, q7, q8, q9, q10, q12⟩ := hi
  refine ⟨q1, fun c' j' => ?_, q3, q4, ?_, fun c' hc' j' => ?_, ?_, ?_, fun c' hc' j' => ?_, q10, fun c' j' hc' => _root_.rfl⟩
  · show (rg c' j').1 ≤ (if c' = c ∧ j' = j then x else h.2.1 c' j').toInt ∧ (if c' = c ∧ j' = j then x else h.2.1 c' j').toInt ≤ (rg c' j').2
    by_cases e : c' = c ∧ j' = j
    · rw [if_pos e, e.1, e.2, show x.toInt = a from ex]; exact ⟨h1, h2⟩
    · rw [if_neg e]; exact q2 c' j'
  · show 1 ≤ (if 34 = c ∧ 1 = j then x else h.2.1 34 1).toInt → _
    rw [if_neg (by omega)]; exact q5
  · show (if c' + 2 = c ∧ j' = j then x else h.2.1 (c' + 2) j').toInt = 1 → 0 ≤ (if c' + 7 = c ∧ j' = j then x else h.2.1 (c' + 7) j').toInt
    rw [if_neg (by omega), if_neg (by omega)]
    exact q6 c' hc' j'
  · show (if 0 = c ∧ 1 = j then x else h.2.1 0 1) = _
    rw [if_neg (by omega)]; exact q7
  · show (if 70 = c ∧ 2 = j then x else h.2.1 70 2) = _
    rw [if_neg (by omega)]; exact q8
  · show (if c' = c ∧ j' = j then x else h.2.1 c' j') = _
    rw [if_neg (by omega)]; exact q9 c' hc' j'
section GM
variable {l : Launch} {own : String} {cc : ByteArray} {nL : Nat} {R : Room} {nm : String} {rt : Option FieldType} {n0 mc ms : Nat} {Xf : Nat → State → Prop} {Qf : Option Value → HP → Prop} {sl pc : Nat} {lv : List (Nat × Value)} {st : List Value} {h : HP} {P : PP}
theorem gi_fst {c len : Nat} {i x : Int32} {a b lo hi : Int} (hv : Iv P h) (ei : TI i a) (ex : TI x b) (hc : sh0[c]? = some (10, len)) (h0 : 0 ≤ a) (h1 : a < len) (hr : ∀ j, rg c j = (lo, hi)) (g1 : lo ≤ b) (g2 : b ≤ hi) (f1 : 73 ≤ c) (hd : decode cc pc = .ok (.iastore, 1)) (k : ∀ h' : HP, Iv (mz P h') h' → h' = hI h c a.toNat x → Go l own cc nL R nm rt n0 mc ms Xf Qf sl (pc + 1) lv st h') : Go l own cc nL R nm rt n0 mc ms Xf Qf sl pc lv (.int x :: .int i :: .ref c :: st) h :=
  go_iast (hv.sh hc) (ti_in ei h0 h1) hd (by rw [ti_ix ei h0]; exact k _ (hv.putF ex (by rw [hr]; exact g1) (by rw [hr]; exact g2) f1) rfl)
theorem gi_fzt {c len : Nat} {i x : Int32} {a b : Int} (hv : Iv P h) (ei : TI i a) (ex : TI x b) (hc : sh0[c]? = some (12, len)) (h0 : 0 ≤ a) (h1 : a < len) (hr : ∀ j, rg c j = (0, 1)) (g1 : 0 ≤ b) (g2 : b ≤ 1) (f1 : 73 ≤ c) (hd : decode cc pc = .ok (.bastore, 1)) (k : ∀ h' : HP, Iv (mz P h') h' → h' = hI h c a.toNat x → Go l own cc nL R nm rt n0 mc ms Xf Qf sl (pc + 1) lv st h') : Go l own cc nL R nm rt n0 mc ms Xf Qf sl pc lv (.int x :: .int i :: .ref c :: st) h :=
  go_zast (hv.sh hc) (ti_in ei h0 h1) hd (by rw [ti_ix ei h0, nar_z (by rw [show x.toInt = b from ex]; exact g1) (by rw [show x.toInt = b from ex]; exact g2)]; exact k _ (hv.putF ex (by rw [hr]; exact g1) (by rw [hr]; exact g2) f1) rfl)
end GM
/-- procedures, their blocks, ways and flags stay -/
def KP (F G : FN) : Prop := ∀ (c j : Nat), c = 76 ∨ (94 ≤ c ∧ c ≤ 102) → G c j = F c j
theorem KP.rfl (F : FN) : KP F F := fun _ _ _ => _root_.rfl
theorem KP.trans {F G H : FN} (h : KP F G) (g : KP G H) : KP F H := fun c j e => (g c j e).trans (h c j e)
theorem KP.ve {F G : FN} (h : VE F G) : KP F G := fun c j e => h c j (by omega) (by omega)
theorem KP.w {F : FN} {c : Nat} {i : Int} {x : Int32} (h : c ≠ 76 ∧ c < 94) : KP F (w1 F c i x) := fun c' j e => by
  show (if c' = c ∧ j = i.toNat then x else F c' j) = _
  rw [if_neg (by omega)]
theorem KP.v {F G : FN} (h : KP F G) {c : Nat} {i : Int} (hc : c = 76 ∨ (94 ≤ c ∧ c ≤ 102)) : V G c i = V F c i := by unfold V; rw [h c _ hc]
theorem NI.cr10 {E F G G2 : FN} {s n b d its nm : Int} {x73 x77 x78 x79 x80 x81 x82 x83 x84 x85 x86 x87 x88 x89 y89 x90 x91 : Int32} (hs : 0 ≤ s) (e0 : VE E F) (hG : G = (w1 (w1 (w1 (w1 (w1 (w1 (w1 (w1 (w1 (w1 (w1 (w1 (w1 (w1 (w1 (w1 (w1 F 73 s x73) 77 n x77) 78 n x78) 79 n x79) 80 n x80) 81 n x81) 82 n x82) 83 n x83) 84 n x84) 85 n x85) 86 n x86) 87 n x87) 88 n x88) 89 (2 * n) x89) 89 (2 * n + 1) y89) 90 b x90) 91 b x91)) (e1 : VE G G2) (hn : n = 130 * s + V F 73 s) (hb0 : 0 ≤ b) (hx73 : x73.toInt = V F 73 s + 1) (hx77 : x77.toInt = its) (hx80 : x80.toInt = d) (hx82 : x82.toInt = nm) (hx85 : x85.toInt = -1) (hx86 : x86.toInt = -1) (hx87 : x87.toInt = -1) (hx88 : x88.toInt = b) (hx89 : x89.toInt = 0) (hy89 : y89.toInt = 0) (hx90 : x90.toInt = n) (h90 : V F 90 b = -1) (hx91 : x91.toInt = n) (h73 : 0 ≤ V F 73 s) (h6 : its = 6) (hnm : its ≤ 1 → 0 ≤ nm) (hits : ¬ its = 1) : NI E G2 s b d n its nm := by
  have g : ∀ (c : Nat) (j : Int), 73 ≤ c → c ≤ 102 → V G2 c j = V G c j := fun c j a b => e1.v a b
  refine NI.mk (G := G2) (n := n) (its := its) (nm := nm) hs e0 hn ?_ ?_ ?_ ?_ ?_ ?_ ?_ ?_ ?_ ?_ ?_ ?_ ?_ ?_ ?_ ?_ ?_ ?_ ?_ ?_ hnm hits
  · rw [g _ _ (by omega) (by omega), hG, V_ne (by omega), V_ne (by omega), V_ne (by omega), V_ne (by omega), V_ne (by omega), V_ne (by omega), V_ne (by omega), V_ne (by omega), V_ne (by omega), V_ne (by omega), V_ne (by omega), V_ne (by omega), V_ne (by omega), V_ne (by omega), V_ne (by omega), V_ne (by omega), V_eq]; exact hx73
  · rw [g _ _ (by omega) (by omega), hG, V_ne (by omega), V_ne (by omega), V_ne (by omega), V_ne (by omega), V_ne (by omega), V_ne (by omega), V_ne (by omega), V_ne (by omega), V_ne (by omega), V_ne (by omega), V_ne (by omega), V_ne (by omega), V_ne (by omega), V_ne (by omega), V_ne (by omega), V_ne (by omega), V_ne (by omega)]
  · intro c hc j h0 hj
    rw [g _ _ (by omega) (by omega), hG]
    rcases hc with rfl | rfl | rfl | rfl | rfl | rfl | rfl
    · rw [V_ne (by omega), V_ne (by omega), V_ne (by omega), V_ne (by omega), V_ne (by omega), V_ne (by omega), V_ne (by omega), V_ne (by omega), V_ne (by omega), V_ne (by omega), V_ne (by omega), V_ne (by omega), V_ne (by omega), V_ne (by omega), V_ne (by omega), V_nj h0 (by omega) (by omega), V_ne (by omega)]
    · rw [V_ne (by omega), V_ne (by omega), V_ne (by omega), V_ne (by omega), V_ne (by omega), V_ne (by omega), V_ne (by omega), V_ne (by omega), V_ne (by omega), V_ne (by omega), V_ne (by omega), V_ne (by omega), V_ne (by omega), V_ne (by omega), V_nj h0 (by omega) (by omega), V_ne (by omega), V_ne (by omega)]
    · rw [V_ne (by omega), V_ne (by omega), V_ne (by omega), V_ne (by omega), V_ne (by omega), V_ne (by omega), V_ne (by omega), V_ne (by omega), V_ne (by omega), V_ne (by omega), V_ne (by omega), V_ne (by omega), V_nj h0 (by omega) (by omega), V_ne (by omega), V_ne (by omega), V_ne (by omega), V_ne (by omega)]
    · rw [V_ne (by omega), V_ne (by omega), V_ne (by omega), V_ne (by omega), V_ne (by omega), V_ne (by omega), V_ne (by omega), V_ne (by omega), V_ne (by omega), V_ne (by omega), V_nj h0 (by omega) (by omega), V_ne (by omega), V_ne (by omega), V_ne (by omega), V_ne (by omega), V_ne (by omega), V_ne (by omega)]
    · rw [V_ne (by omega), V_ne (by omega), V_ne (by omega), V_ne (by omega), V_ne (by omega), V_ne (by omega), V_ne (by omega), V_nj h0 (by omega) (by omega), V_ne (by omega), V_ne (by omega), V_ne (by omega), V_ne (by omega), V_ne (by omega), V_ne (by omega), V_ne (by omega), V_ne (by omega), V_ne (by omega)]
    · rw [V_ne (by omega), V_ne (by omega), V_ne (by omega), V_ne (by omega), V_ne (by omega), V_ne (by omega), V_nj h0 (by omega) (by omega), V_ne (by omega), V_ne (by omega), V_ne (by omega), V_ne (by omega), V_ne (by omega), V_ne (by omega), V_ne (by omega), V_ne (by omega), V_ne (by omega), V_ne (by omega)]
    · rw [V_ne (by omega), V_ne (by omega), V_ne (by omega), V_ne (by omega), V_nj h0 (by omega) (by omega), V_ne (by omega), V_ne (by omega), V_ne (by omega), V_ne (by omega), V_ne (by omega), V_ne (by omega), V_ne (by omega), V_ne (by omega), V_ne (by omega), V_ne (by omega), V_ne (by omega), V_ne (by omega)]
  · rw [g _ _ (by omega) (by omega), hG, V_ne (by omega), V_ne (by omega), V_ne (by omega), V_ne (by omega), V_ne (by omega), V_ne (by omega), V_ne (by omega), V_ne (by omega), V_ne (by omega), V_ne (by omega), V_ne (by omega), V_ne (by omega), V_ne (by omega), V_ne (by omega), V_ne (by omega), V_eq]; exact hx77
  · rw [g _ _ (by omega) (by omega), hG, V_ne (by omega), V_ne (by omega), V_ne (by omega), V_ne (by omega), V_ne (by omega), V_ne (by omega), V_ne (by omega), V_ne (by omega), V_ne (by omega), V_ne (by omega), V_ne (by omega), V_ne (by omega), V_eq]; exact hx80
  · rw [g _ _ (by omega) (by omega), hG, V_ne (by omega), V_ne (by omega), V_ne (by omega), V_ne (by omega), V_ne (by omega), V_ne (by omega), V_ne (by omega), V_ne (by omega), V_ne (by omega), V_ne (by omega), V_eq]; exact hx82
  · rw [g _ _ (by omega) (by omega), hG, V_ne (by omega), V_ne (by omega), V_ne (by omega), V_ne (by omega), V_ne (by omega), V_ne (by omega), V_ne (by omega), V_eq]; exact hx85
  · rw [g _ _ (by omega) (by omega), hG, V_ne (by omega), V_ne (by omega), V_ne (by omega), V_ne (by omega), V_ne (by omega), V_ne (by omega), V_eq]; exact hx86
  · rw [g _ _ (by omega) (by omega), hG, V_ne (by omega), V_ne (by omega), V_ne (by omega), V_ne (by omega), V_ne (by omega), V_eq]; exact hx87
  · rw [g _ _ (by omega) (by omega), hG, V_ne (by omega), V_ne (by omega), V_ne (by omega), V_ne (by omega), V_eq]; exact hx88
  · rw [g _ _ (by omega) (by omega), hG, V_ne (by omega), V_ne (by omega), V_nj (by omega) (by omega) (by omega), V_eq]; omega
  · rw [g _ _ (by omega) (by omega), hG, V_ne (by omega), V_ne (by omega), V_eq]; omega
  · intro j h0 hj hj2
    rw [g _ _ (by omega) (by omega), hG, V_ne (by omega), V_ne (by omega), V_nj h0 (by omega) (by omega), V_nj h0 (by omega) (by omega), V_ne (by omega), V_ne (by omega), V_ne (by omega), V_ne (by omega), V_ne (by omega), V_ne (by omega), V_ne (by omega), V_ne (by omega), V_ne (by omega), V_ne (by omega), V_ne (by omega), V_ne (by omega), V_ne (by omega)]
  · intro j h0 hj
    refine Or.inl ?_
    rw [g _ _ (by omega) (by omega), hG, V_ne (by omega), V_ne (by omega), V_ne (by omega), V_ne (by omega), V_ne (by omega), V_nj h0 (by omega) (by omega), V_ne (by omega), V_ne (by omega), V_ne (by omega), V_ne (by omega), V_ne (by omega), V_ne (by omega), V_ne (by omega), V_ne (by omega), V_ne (by omega), V_ne (by omega), V_ne (by omega)]
  · refine Or.inl ⟨h6, ?_, fun j => ?_⟩
    · rw [g _ _ (by omega) (by omega), hG, V_ne (by omega), V_ne (by omega), V_ne (by omega), V_ne (by omega), V_ne (by omega), V_ne (by omega), V_ne (by omega), V_ne (by omega), V_ne (by omega), V_ne (by omega), V_ne (by omega), V_ne (by omega), V_ne (by omega), V_ne (by omega), V_ne (by omega), V_ne (by omega), V_ne (by omega)]
    · rw [g _ _ (by omega) (by omega), hG, V_ne (by omega), V_ne (by omega), V_ne (by omega), V_ne (by omega), V_ne (by omega), V_ne (by omega), V_ne (by omega), V_ne (by omega), V_ne (by omega), V_ne (by omega), V_ne (by omega), V_ne (by omega), V_ne (by omega), V_ne (by omega), V_ne (by omega), V_ne (by omega), V_ne (by omega)]
  · refine Or.inl ⟨h90, ?_⟩
    rw [g _ _ (by omega) (by omega), hG, V_ne (by omega), V_eq]; exact hx90
  · intro j h0 hj
    rw [g _ _ (by omega) (by omega), hG, V_ne (by omega), V_nj h0 (by omega) (by omega), V_ne (by omega), V_ne (by omega), V_ne (by omega), V_ne (by omega), V_ne (by omega), V_ne (by omega), V_ne (by omega), V_ne (by omega), V_ne (by omega), V_ne (by omega), V_ne (by omega), V_ne (by omega), V_ne (by omega), V_ne (by omega), V_ne (by omega)]
  · rw [g _ _ (by omega) (by omega), hG, V_eq]; exact hx91
  · intro j h0 hj
    rw [g _ _ (by omega) (by omega), hG, V_nj h0 (by omega) (by omega), V_ne (by omega), V_ne (by omega), V_ne (by omega), V_ne (by omega), V_ne (by omega), V_ne (by omega), V_ne (by omega), V_ne (by omega), V_ne (by omega), V_ne (by omega), V_ne (by omega), V_ne (by omega), V_ne (by omega), V_ne (by omega), V_ne (by omega), V_ne (by omega)]
  · intro j
    rw [g _ _ (by omega) (by omega), hG, V_ne (by omega), V_ne (by omega), V_ne (by omega), V_ne (by omega), V_ne (by omega), V_ne (by omega), V_ne (by omega), V_ne (by omega), V_ne (by omega), V_ne (by omega), V_ne (by omega), V_ne (by omega), V_ne (by omega), V_ne (by omega), V_ne (by omega), V_ne (by omega), V_ne (by omega)]
theorem NI.cr11 {E F G G2 : FN} {s n b d its nm q : Int} {x73 x77 x78 x79 x80 x81 x82 x83 x84 x85 x86 x87 x88 x89 y89 y87 x91 : Int32} (hs : 0 ≤ s) (e0 : VE E F) (hG : G = (w1 (w1 (w1 (w1 (w1 (w1 (w1 (w1 (w1 (w1 (w1 (w1 (w1 (w1 (w1 (w1 (w1 F 73 s x73) 77 n x77) 78 n x78) 79 n x79) 80 n x80) 81 n x81) 82 n x82) 83 n x83) 84 n x84) 85 n x85) 86 n x86) 87 n x87) 88 n x88) 89 (2 * n) x89) 89 (2 * n + 1) y89) 87 q y87) 91 b x91)) (e1 : VE G G2) (hn : n = 130 * s + V F 73 s) (hb0 : 0 ≤ b) (hx73 : x73.toInt = V F 73 s + 1) (hx77 : x77.toInt = its) (hx80 : x80.toInt = d) (hx82 : x82.toInt = nm) (hx85 : x85.toInt = -1) (hx86 : x86.toInt = -1) (hx87 : x87.toInt = -1) (hx88 : x88.toInt = b) (hx89 : x89.toInt = 0) (hy89 : y89.toInt = 0) (hq : q = V F 91 b) (hq0 : 0 ≤ q) (hqn : q ≠ n) (hy87 : y87.toInt = n) (h90 : ¬ V F 90 b = -1) (hx91 : x91.toInt = n) (h73 : 0 ≤ V F 73 s) (h6 : its = 6) (hnm : its ≤ 1 → 0 ≤ nm) (hits : ¬ its = 1) : NI E G2 s b d n its nm := by
  have g : ∀ (c : Nat) (j : Int), 73 ≤ c → c ≤ 102 → V G2 c j = V G c j := fun c j a b => e1.v a b
  refine NI.mk (G := G2) (n := n) (its := its) (nm := nm) hs e0 hn ?_ ?_ ?_ ?_ ?_ ?_ ?_ ?_ ?_ ?_ ?_ ?_ ?_ ?_ ?_ ?_ ?_ ?_ ?_ ?_ hnm hits
  · rw [g _ _ (by omega) (by omega), hG, V_ne (by omega), V_ne (by omega), V_ne (by omega), V_ne (by omega), V_ne (by omega), V_ne (by omega), V_ne (by omega), V_ne (by omega), V_ne (by omega), V_ne (by omega), V_ne (by omega), V_ne (by omega), V_ne (by omega), V_ne (by omega), V_ne (by omega), V_ne (by omega), V_eq]; exact hx73
  · rw [g _ _ (by omega) (by omega), hG, V_ne (by omega), V_ne (by omega), V_ne (by omega), V_ne (by omega), V_ne (by omega), V_ne (by omega), V_ne (by omega), V_ne (by omega), V_ne (by omega), V_ne (by omega), V_ne (by omega), V_ne (by omega), V_ne (by omega), V_ne (by omega), V_ne (by omega), V_ne (by omega), V_ne (by omega)]
  · intro c hc j h0 hj
    rw [g _ _ (by omega) (by omega), hG]
    rcases hc with rfl | rfl | rfl | rfl | rfl | rfl | rfl
    · rw [V_ne (by omega), V_ne (by omega), V_ne (by omega), V_ne (by omega), V_ne (by omega), V_ne (by omega), V_ne (by omega), V_ne (by omega), V_ne (by omega), V_ne (by omega), V_ne (by omega), V_ne (by omega), V_ne (by omega), V_ne (by omega), V_ne (by omega), V_nj h0 (by omega) (by omega), V_ne (by omega)]
    · rw [V_ne (by omega), V_ne (by omega), V_ne (by omega), V_ne (by omega), V_ne (by omega), V_ne (by omega), V_ne (by omega), V_ne (by omega), V_ne (by omega), V_ne (by omega), V_ne (by omega), V_ne (by omega), V_ne (by omega), V_ne (by omega), V_nj h0 (by omega) (by omega), V_ne (by omega), V_ne (by omega)]
    · rw [V_ne (by omega), V_ne (by omega), V_ne (by omega), V_ne (by omega), V_ne (by omega), V_ne (by omega), V_ne (by omega), V_ne (by omega), V_ne (by omega), V_ne (by omega), V_ne (by omega), V_ne (by omega), V_nj h0 (by omega) (by omega), V_ne (by omega), V_ne (by omega), V_ne (by omega), V_ne (by omega)]
    · rw [V_ne (by omega), V_ne (by omega), V_ne (by omega), V_ne (by omega), V_ne (by omega), V_ne (by omega), V_ne (by omega), V_ne (by omega), V_ne (by omega), V_ne (by omega), V_nj h0 (by omega) (by omega), V_ne (by omega), V_ne (by omega), V_ne (by omega), V_ne (by omega), V_ne (by omega), V_ne (by omega)]
    · rw [V_ne (by omega), V_ne (by omega), V_ne (by omega), V_ne (by omega), V_ne (by omega), V_ne (by omega), V_ne (by omega), V_nj h0 (by omega) (by omega), V_ne (by omega), V_ne (by omega), V_ne (by omega), V_ne (by omega), V_ne (by omega), V_ne (by omega), V_ne (by omega), V_ne (by omega), V_ne (by omega)]
    · rw [V_ne (by omega), V_ne (by omega), V_ne (by omega), V_ne (by omega), V_ne (by omega), V_ne (by omega), V_nj h0 (by omega) (by omega), V_ne (by omega), V_ne (by omega), V_ne (by omega), V_ne (by omega), V_ne (by omega), V_ne (by omega), V_ne (by omega), V_ne (by omega), V_ne (by omega), V_ne (by omega)]
    · rw [V_ne (by omega), V_ne (by omega), V_ne (by omega), V_ne (by omega), V_nj h0 (by omega) (by omega), V_ne (by omega), V_ne (by omega), V_ne (by omega), V_ne (by omega), V_ne (by omega), V_ne (by omega), V_ne (by omega), V_ne (by omega), V_ne (by omega), V_ne (by omega), V_ne (by omega), V_ne (by omega)]
  · rw [g _ _ (by omega) (by omega), hG, V_ne (by omega), V_ne (by omega), V_ne (by omega), V_ne (by omega), V_ne (by omega), V_ne (by omega), V_ne (by omega), V_ne (by omega), V_ne (by omega), V_ne (by omega), V_ne (by omega), V_ne (by omega), V_ne (by omega), V_ne (by omega), V_ne (by omega), V_eq]; exact hx77
  · rw [g _ _ (by omega) (by omega), hG, V_ne (by omega), V_ne (by omega), V_ne (by omega), V_ne (by omega), V_ne (by omega), V_ne (by omega), V_ne (by omega), V_ne (by omega), V_ne (by omega), V_ne (by omega), V_ne (by omega), V_ne (by omega), V_eq]; exact hx80
  · rw [g _ _ (by omega) (by omega), hG, V_ne (by omega), V_ne (by omega), V_ne (by omega), V_ne (by omega), V_ne (by omega), V_ne (by omega), V_ne (by omega), V_ne (by omega), V_ne (by omega), V_ne (by omega), V_eq]; exact hx82
  · rw [g _ _ (by omega) (by omega), hG, V_ne (by omega), V_ne (by omega), V_ne (by omega), V_ne (by omega), V_ne (by omega), V_ne (by omega), V_ne (by omega), V_eq]; exact hx85
  · rw [g _ _ (by omega) (by omega), hG, V_ne (by omega), V_ne (by omega), V_ne (by omega), V_ne (by omega), V_ne (by omega), V_ne (by omega), V_eq]; exact hx86
  · rw [g _ _ (by omega) (by omega), hG, V_ne (by omega), V_nj (by omega) (by omega) (by omega), V_ne (by omega), V_ne (by omega), V_ne (by omega), V_eq]; exact hx87
  · rw [g _ _ (by omega) (by omega), hG, V_ne (by omega), V_ne (by omega), V_ne (by omega), V_ne (by omega), V_eq]; exact hx88
  · rw [g _ _ (by omega) (by omega), hG, V_ne (by omega), V_ne (by omega), V_nj (by omega) (by omega) (by omega), V_eq]; omega
  · rw [g _ _ (by omega) (by omega), hG, V_ne (by omega), V_ne (by omega), V_eq]; omega
  · intro j h0 hj hj2
    rw [g _ _ (by omega) (by omega), hG, V_ne (by omega), V_ne (by omega), V_nj h0 (by omega) (by omega), V_nj h0 (by omega) (by omega), V_ne (by omega), V_ne (by omega), V_ne (by omega), V_ne (by omega), V_ne (by omega), V_ne (by omega), V_ne (by omega), V_ne (by omega), V_ne (by omega), V_ne (by omega), V_ne (by omega), V_ne (by omega), V_ne (by omega)]
  · intro j h0 hj
    by_cases z : j = q
    · refine Or.inr ⟨by omega, h90, ?_⟩
      rw [z, g _ _ (by omega) (by omega), hG, V_ne (by omega), V_eq]; exact hy87
    · refine Or.inl ?_
      rw [g _ _ (by omega) (by omega), hG, V_ne (by omega), V_nj h0 (by omega) (by omega), V_ne (by omega), V_ne (by omega), V_ne (by omega), V_nj h0 (by omega) (by omega), V_ne (by omega), V_ne (by omega), V_ne (by omega), V_ne (by omega), V_ne (by omega), V_ne (by omega), V_ne (by omega), V_ne (by omega), V_ne (by omega), V_ne (by omega), V_ne (by omega)]
  · refine Or.inl ⟨h6, ?_, fun j => ?_⟩
    · rw [g _ _ (by omega) (by omega), hG, V_ne (by omega), V_ne (by omega), V_ne (by omega), V_ne (by omega), V_ne (by omega), V_ne (by omega), V_ne (by omega), V_ne (by omega), V_ne (by omega), V_ne (by omega), V_ne (by omega), V_ne (by omega), V_ne (by omega), V_ne (by omega), V_ne (by omega), V_ne (by omega), V_ne (by omega)]
    · rw [g _ _ (by omega) (by omega), hG, V_ne (by omega), V_ne (by omega), V_ne (by omega), V_ne (by omega), V_ne (by omega), V_ne (by omega), V_ne (by omega), V_ne (by omega), V_ne (by omega), V_ne (by omega), V_ne (by omega), V_ne (by omega), V_ne (by omega), V_ne (by omega), V_ne (by omega), V_ne (by omega), V_ne (by omega)]
  · refine Or.inr ⟨h90, ?_⟩
    rw [g _ _ (by omega) (by omega), hG, V_ne (by omega), V_ne (by omega), V_ne (by omega), V_ne (by omega), V_ne (by omega), V_ne (by omega), V_ne (by omega), V_ne (by omega), V_ne (by omega), V_ne (by omega), V_ne (by omega), V_ne (by omega), V_ne (by omega), V_ne (by omega), V_ne (by omega), V_ne (by omega), V_ne (by omega)]
  · intro j h0 hj
    rw [g _ _ (by omega) (by omega), hG, V_ne (by omega), V_ne (by omega), V_ne (by omega), V_ne (by omega), V_ne (by omega), V_ne (by omega), V_ne (by omega), V_ne (by omega), V_ne (by omega), V_ne (by omega), V_ne (by omega), V_ne (by omega), V_ne (by omega), V_ne (by omega), V_ne (by omega), V_ne (by omega), V_ne (by omega)]
  · rw [g _ _ (by omega) (by omega), hG, V_eq]; exact hx91
  · intro j h0 hj
    rw [g _ _ (by omega) (by omega), hG, V_nj h0 (by omega) (by omega), V_ne (by omega), V_ne (by omega), V_ne (by omega), V_ne (by omega), V_ne (by omega), V_ne (by omega), V_ne (by omega), V_ne (by omega), V_ne (by omega), V_ne (by omega), V_ne (by omega), V_ne (by omega), V_ne (by omega), V_ne (by omega), V_ne (by omega), V_ne (by omega)]
  · intro j
    rw [g _ _ (by omega) (by omega), hG, V_ne (by omega), V_ne (by omega), V_ne (by omega), V_ne (by omega), V_ne (by omega), V_ne (by omega), V_ne (by omega), V_ne (by omega), V_ne (by omega), V_ne (by omega), V_ne (by omega), V_ne (by omega), V_ne (by omega), V_ne (by omega), V_ne (by omega), V_ne (by omega), V_ne (by omega)]
theorem NI.cr00 {E F G G2 : FN} {s n b d its nm k : Int} {x73 x77 x78 x79 x80 x81 x82 x83 x84 x85 x86 x87 x88 x89 y89 z78 x93 x75 x90 x91 : Int32} (hs : 0 ≤ s) (e0 : VE E F) (hG : G = (w1 (w1 (w1 (w1 (w1 (w1 (w1 (w1 (w1 (w1 (w1 (w1 (w1 (w1 (w1 (w1 (w1 (w1 (w1 (w1 F 73 s x73) 77 n x77) 78 n x78) 79 n x79) 80 n x80) 81 n x81) 82 n x82) 83 n x83) 84 n x84) 85 n x85) 86 n x86) 87 n x87) 88 n x88) 89 (2 * n) x89) 89 (2 * n + 1) y89) 78 n z78) 93 (40 * s + k) x93) 75 s x75) 90 b x90) 91 b x91)) (e1 : VE G G2) (hn : n = 130 * s + V F 73 s) (hb0 : 0 ≤ b) (hx73 : x73.toInt = V F 73 s + 1) (hx77 : x77.toInt = its) (hx80 : x80.toInt = d) (hx82 : x82.toInt = nm) (hx85 : x85.toInt = -1) (hx86 : x86.toInt = -1) (hx87 : x87.toInt = -1) (hx88 : x88.toInt = b) (hx89 : x89.toInt = 0) (hy89 : y89.toInt = 0) (hk : k = V F 75 s) (hz78 : z78.toInt = k) (hx93 : x93.toInt = n) (hx75 : x75.toInt = k + 1) (h75 : 0 ≤ V F 75 s) (hx90 : x90.toInt = n) (h90 : V F 90 b = -1) (hx91 : x91.toInt = n) (h73 : 0 ≤ V F 73 s) (h6 : ¬ its = 6) (hnm : its ≤ 1 → 0 ≤ nm) (hits : ¬ its = 1) : NI E G2 s b d n its nm := by
  have g : ∀ (c : Nat) (j : Int), 73 ≤ c → c ≤ 102 → V G2 c j = V G c j := fun c j a b => e1.v a b
  refine NI.mk (G := G2) (n := n) (its := its) (nm := nm) hs e0 hn ?_ ?_ ?_ ?_ ?_ ?_ ?_ ?_ ?_ ?_ ?_ ?_ ?_ ?_ ?_ ?_ ?_ ?_ ?_ ?_ hnm hits
  · rw [g _ _ (by omega) (by omega), hG, V_ne (by omega), V_ne (by omega), V_ne (by omega), V_ne (by omega), V_ne (by omega), V_ne (by omega), V_ne (by omega), V_ne (by omega), V_ne (by omega), V_ne (by omega), V_ne (by omega), V_ne (by omega), V_ne (by omega), V_ne (by omega), V_ne (by omega), V_ne (by omega), V_ne (by omega), V_ne (by omega), V_ne (by omega), V_eq]; exact hx73
  · rw [g _ _ (by omega) (by omega), hG, V_ne (by omega), V_ne (by omega), V_ne (by omega), V_ne (by omega), V_ne (by omega), V_ne (by omega), V_ne (by omega), V_ne (by omega), V_ne (by omega), V_ne (by omega), V_ne (by omega), V_ne (by omega), V_ne (by omega), V_ne (by omega), V_ne (by omega), V_ne (by omega), V_ne (by omega), V_ne (by omega), V_ne (by omega), V_ne (by omega)]
  · intro c hc j h0 hj
    rw [g _ _ (by omega) (by omega), hG]
    rcases hc with rfl | rfl | rfl | rfl | rfl | rfl | rfl
    · rw [V_ne (by omega), V_ne (by omega), V_ne (by omega), V_ne (by omega), V_ne (by omega), V_ne (by omega), V_ne (by omega), V_ne (by omega), V_ne (by omega), V_ne (by omega), V_ne (by omega), V_ne (by omega), V_ne (by omega), V_ne (by omega), V_ne (by omega), V_ne (by omega), V_ne (by omega), V_ne (by omega), V_nj h0 (by omega) (by omega), V_ne (by omega)]
    · rw [V_ne (by omega), V_ne (by omega), V_ne (by omega), V_ne (by omega), V_nj h0 (by omega) (by omega), V_ne (by omega), V_ne (by omega), V_ne (by omega), V_ne (by omega), V_ne (by omega), V_ne (by omega), V_ne (by omega), V_ne (by omega), V_ne (by omega), V_ne (by omega), V_ne (by omega), V_ne (by omega), V_nj h0 (by omega) (by omega), V_ne (by omega), V_ne (by omega)]
    · rw [V_ne (by omega), V_ne (by omega), V_ne (by omega), V_ne (by omega), V_ne (by omega), V_ne (by omega), V_ne (by omega), V_ne (by omega), V_ne (by omega), V_ne (by omega), V_ne (by omega), V_ne (by omega), V_ne (by omega), V_ne (by omega), V_ne (by omega), V_nj h0 (by omega) (by omega), V_ne (by omega), V_ne (by omega), V_ne (by omega), V_ne (by omega)]
    · rw [V_ne (by omega), V_ne (by omega), V_ne (by omega), V_ne (by omega), V_ne (by omega), V_ne (by omega), V_ne (by omega), V_ne (by omega), V_ne (by omega), V_ne (by omega), V_ne (by omega), V_ne (by omega), V_ne (by omega), V_nj h0 (by omega) (by omega), V_ne (by omega), V_ne (by omega), V_ne (by omega), V_ne (by omega), V_ne (by omega), V_ne (by omega)]
    · rw [V_ne (by omega), V_ne (by omega), V_ne (by omega), V_ne (by omega), V_ne (by omega), V_ne (by omega), V_ne (by omega), V_ne (by omega), V_ne (by omega), V_ne (by omega), V_nj h0 (by omega) (by omega), V_ne (by omega), V_ne (by omega), V_ne (by omega), V_ne (by omega), V_ne (by omega), V_ne (by omega), V_ne (by omega), V_ne (by omega), V_ne (by omega)]
    · rw [V_ne (by omega), V_ne (by omega), V_ne (by omega), V_ne (by omega), V_ne (by omega), V_ne (by omega), V_ne (by omega), V_ne (by omega), V_ne (by omega), V_nj h0 (by omega) (by omega), V_ne (by omega), V_ne (by omega), V_ne (by omega), V_ne (by omega), V_ne (by omega), V_ne (by omega), V_ne (by omega), V_ne (by omega), V_ne (by omega), V_ne (by omega)]
    · rw [V_ne (by omega), V_ne (by omega), V_ne (by omega), V_ne (by omega), V_ne (by omega), V_ne (by omega), V_ne (by omega), V_nj h0 (by omega) (by omega), V_ne (by omega), V_ne (by omega), V_ne (by omega), V_ne (by omega), V_ne (by omega), V_ne (by omega), V_ne (by omega), V_ne (by omega), V_ne (by omega), V_ne (by omega), V_ne (by omega), V_ne (by omega)]
  · rw [g _ _ (by omega) (by omega), hG, V_ne (by omega), V_ne (by omega), V_ne (by omega), V_ne (by omega), V_ne (by omega), V_ne (by omega), V_ne (by omega), V_ne (by omega), V_ne (by omega), V_ne (by omega), V_ne (by omega), V_ne (by omega), V_ne (by omega), V_ne (by omega), V_ne (by omega), V_ne (by omega), V_ne (by omega), V_ne (by omega), V_eq]; exact hx77
  · rw [g _ _ (by omega) (by omega), hG, V_ne (by omega), V_ne (by omega), V_ne (by omega), V_ne (by omega), V_ne (by omega), V_ne (by omega), V_ne (by omega), V_ne (by omega), V_ne (by omega), V_ne (by omega), V_ne (by omega), V_ne (by omega), V_ne (by omega), V_ne (by omega), V_ne (by omega), V_eq]; exact hx80
  · rw [g _ _ (by omega) (by omega), hG, V_ne (by omega), V_ne (by omega), V_ne (by omega), V_ne (by omega), V_ne (by omega), V_ne (by omega), V_ne (by omega), V_ne (by omega), V_ne (by omega), V_ne (by omega), V_ne (by omega), V_ne (by omega), V_ne (by omega), V_eq]; exact hx82
  · rw [g _ _ (by omega) (by omega), hG, V_ne (by omega), V_ne (by omega), V_ne (by omega), V_ne (by omega), V_ne (by omega), V_ne (by omega), V_ne (by omega), V_ne (by omega), V_ne (by omega), V_ne (by omega), V_eq]; exact hx85
  · rw [g _ _ (by omega) (by omega), hG, V_ne (by omega), V_ne (by omega), V_ne (by omega), V_ne (by omega), V_ne (by omega), V_ne (by omega), V_ne (by omega), V_ne (by omega), V_ne (by omega), V_eq]; exact hx86
  · rw [g _ _ (by omega) (by omega), hG, V_ne (by omega), V_ne (by omega), V_ne (by omega), V_ne (by omega), V_ne (by omega), V_ne (by omega), V_ne (by omega), V_ne (by omega), V_eq]; exact hx87
  · rw [g _ _ (by omega) (by omega), hG, V_ne (by omega), V_ne (by omega), V_ne (by omega), V_ne (by omega), V_ne (by omega), V_ne (by omega), V_ne (by omega), V_eq]; exact hx88
  · rw [g _ _ (by omega) (by omega), hG, V_ne (by omega), V_ne (by omega), V_ne (by omega), V_ne (by omega), V_ne (by omega), V_nj (by omega) (by omega) (by omega), V_eq]; omega
  · rw [g _ _ (by omega) (by omega), hG, V_ne (by omega), V_ne (by omega), V_ne (by omega), V_ne (by omega), V_ne (by omega), V_eq]; omega
  · intro j h0 hj hj2
    rw [g _ _ (by omega) (by omega), hG, V_ne (by omega), V_ne (by omega), V_ne (by omega), V_ne (by omega), V_ne (by omega), V_nj h0 (by omega) (by omega), V_nj h0 (by omega) (by omega), V_ne (by omega), V_ne (by omega), V_ne (by omega), V_ne (by omega), V_ne (by omega), V_ne (by omega), V_ne (by omega), V_ne (by omega), V_ne (by omega), V_ne (by omega), V_ne (by omega), V_ne (by omega), V_ne (by omega)]
  · intro j h0 hj
    refine Or.inl ?_
    rw [g _ _ (by omega) (by omega), hG, V_ne (by omega), V_ne (by omega), V_ne (by omega), V_ne (by omega), V_ne (by omega), V_ne (by omega), V_ne (by omega), V_ne (by omega), V_nj h0 (by omega) (by omega), V_ne (by omega), V_ne (by omega), V_ne (by omega), V_ne (by omega), V_ne (by omega), V_ne (by omega), V_ne (by omega), V_ne (by omega), V_ne (by omega), V_ne (by omega), V_ne (by omega)]
  · refine Or.inr ⟨h6, ?_, ?_, ?_, fun j h0 hj => ?_⟩
    · rw [g _ _ (by omega) (by omega), hG, V_ne (by omega), V_ne (by omega), V_ne (by omega), V_ne (by omega), V_eq]; omega
    · rw [g _ _ (by omega) (by omega), hG, V_ne (by omega), V_ne (by omega), V_eq]; omega
    · rw [← hk, g _ _ (by omega) (by omega), hG, V_ne (by omega), V_ne (by omega), V_ne (by omega), V_eq]; exact hx93
    · rw [g _ _ (by omega) (by omega), hG, V_ne (by omega), V_ne (by omega), V_ne (by omega), V_nj h0 (by omega) (by omega), V_ne (by omega), V_ne (by omega), V_ne (by omega), V_ne (by omega), V_ne (by omega), V_ne (by omega), V_ne (by omega), V_ne (by omega), V_ne (by omega), V_ne (by omega), V_ne (by omega), V_ne (by omega), V_ne (by omega), V_ne (by omega), V_ne (by omega), V_ne (by omega)]
  · refine Or.inl ⟨h90, ?_⟩
    rw [g _ _ (by omega) (by omega), hG, V_ne (by omega), V_eq]; exact hx90
  · intro j h0 hj
    rw [g _ _ (by omega) (by omega), hG, V_ne (by omega), V_nj h0 (by omega) (by omega), V_ne (by omega), V_ne (by omega), V_ne (by omega), V_ne (by omega), V_ne (by omega), V_ne (by omega), V_ne (by omega), V_ne (by omega), V_ne (by omega), V_ne (by omega), V_ne (by omega), V_ne (by omega), V_ne (by omega), V_ne (by omega), V_ne (by omega), V_ne (by omega), V_ne (by omega), V_ne (by omega)]
  · rw [g _ _ (by omega) (by omega), hG, V_eq]; exact hx91
  · intro j h0 hj
    rw [g _ _ (by omega) (by omega), hG, V_nj h0 (by omega) (by omega), V_ne (by omega), V_ne (by omega), V_ne (by omega), V_ne (by omega), V_ne (by omega), V_ne (by omega), V_ne (by omega), V_ne (by omega), V_ne (by omega), V_ne (by omega), V_ne (by omega), V_ne (by omega), V_ne (by omega), V_ne (by omega), V_ne (by omega), V_ne (by omega), V_ne (by omega), V_ne (by omega), V_ne (by omega)]
  · intro j
    rw [g _ _ (by omega) (by omega), hG, V_ne (by omega), V_ne (by omega), V_ne (by omega), V_ne (by omega), V_ne (by omega), V_ne (by omega), V_ne (by omega), V_ne (by omega), V_ne (by omega), V_ne (by omega), V_ne (by omega), V_ne (by omega), V_ne (by omega), V_ne (by omega), V_ne (by omega), V_ne (by omega), V_ne (by omega), V_ne (by omega), V_ne (by omega), V_ne (by omega)]
theorem NI.cr01 {E F G G2 : FN} {s n b d its nm k q : Int} {x73 x77 x78 x79 x80 x81 x82 x83 x84 x85 x86 x87 x88 x89 y89 z78 x93 x75 y87 x91 : Int32} (hs : 0 ≤ s) (e0 : VE E F) (hG : G = (w1 (w1 (w1 (w1 (w1 (w1 (w1 (w1 (w1 (w1 (w1 (w1 (w1 (w1 (w1 (w1 (w1 (w1 (w1 (w1 F 73 s x73) 77 n x77) 78 n x78) 79 n x79) 80 n x80) 81 n x81) 82 n x82) 83 n x83) 84 n x84) 85 n x85) 86 n x86) 87 n x87) 88 n x88) 89 (2 * n) x89) 89 (2 * n + 1) y89) 78 n z78) 93 (40 * s + k) x93) 75 s x75) 87 q y87) 91 b x91)) (e1 : VE G G2) (hn : n = 130 * s + V F 73 s) (hb0 : 0 ≤ b) (hx73 : x73.toInt = V F 73 s + 1) (hx77 : x77.toInt = its) (hx80 : x80.toInt = d) (hx82 : x82.toInt = nm) (hx85 : x85.toInt = -1) (hx86 : x86.toInt = -1) (hx87 : x87.toInt = -1) (hx88 : x88.toInt = b) (hx89 : x89.toInt = 0) (hy89 : y89.toInt = 0) (hk : k = V F 75 s) (hz78 : z78.toInt = k) (hx93 : x93.toInt = n) (hx75 : x75.toInt = k + 1) (h75 : 0 ≤ V F 75 s) (hq : q = V F 91 b) (hq0 : 0 ≤ q) (hqn : q ≠ n) (hy87 : y87.toInt = n) (h90 : ¬ V F 90 b = -1) (hx91 : x91.toInt = n) (h73 : 0 ≤ V F 73 s) (h6 : ¬ its = 6) (hnm : its ≤ 1 → 0 ≤ nm) (hits : ¬ its = 1) : NI E G2 s b d n its nm := by
  have g : ∀ (c : Nat) (j : Int), 73 ≤ c → c ≤ 102 → V G2 c j = V G c j := fun c j a b => e1.v a b
  refine NI.mk (G := G2) (n := n) (its := its) (nm := nm) hs e0 hn ?_ ?_ ?_ ?_ ?_ ?_ ?_ ?_ ?_ ?_ ?_ ?_ ?_ ?_ ?_ ?_ ?_ ?_ ?_ ?_ hnm hits
  · rw [g _ _ (by omega) (by omega), hG, V_ne (by omega), V_ne (by omega), V_ne (by omega), V_ne (by omega), V_ne (by omega), V_ne (by omega), V_ne (by omega), V_ne (by omega), V_ne (by omega), V_ne (by omega), V_ne (by omega), V_ne (by omega), V_ne (by omega), V_ne (by omega), V_ne (by omega), V_ne (by omega), V_ne (by omega), V_ne (by omega), V_ne (by omega), V_eq]; exact hx73
  · rw [g _ _ (by omega) (by omega), hG, V_ne (by omega), V_ne (by omega), V_ne (by omega), V_ne (by omega), V_ne (by omega), V_ne (by omega), V_ne (by omega), V_ne (by omega), V_ne (by omega), V_ne (by omega), V_ne (by omega), V_ne (by omega), V_ne (by omega), V_ne (by omega), V_ne (by omega), V_ne (by omega), V_ne (by omega), V_ne (by omega), V_ne (by omega), V_ne (by omega)]
  · intro c hc j h0 hj
    rw [g _ _ (by omega) (by omega), hG]
    rcases hc with rfl | rfl | rfl | rfl | rfl | rfl | rfl
    · rw [V_ne (by omega), V_ne (by omega), V_ne (by omega), V_ne (by omega), V_ne (by omega), V_ne (by omega), V_ne (by omega), V_ne (by omega), V_ne (by omega), V_ne (by omega), V_ne (by omega), V_ne (by omega), V_ne (by omega), V_ne (by omega), V_ne (by omega), V_ne (by omega), V_ne (by omega), V_ne (by omega), V_nj h0 (by omega) (by omega), V_ne (by omega)]
    · rw [V_ne (by omega), V_ne (by omega), V_ne (by omega), V_ne (by omega), V_nj h0 (by omega) (by omega), V_ne (by omega), V_ne (by omega), V_ne (by omega), V_ne (by omega), V_ne (by omega), V_ne (by omega), V_ne (by omega), V_ne (by omega), V_ne (by omega), V_ne (by omega), V_ne (by omega), V_ne (by omega), V_nj h0 (by omega) (by omega), V_ne (by omega), V_ne (by omega)]
    · rw [V_ne (by omega), V_ne (by omega), V_ne (by omega), V_ne (by omega), V_ne (by omega), V_ne (by omega), V_ne (by omega), V_ne (by omega), V_ne (by omega), V_ne (by omega), V_ne (by omega), V_ne (by omega), V_ne (by omega), V_ne (by omega), V_ne (by omega), V_nj h0 (by omega) (by omega), V_ne (by omega), V_ne (by omega), V_ne (by omega), V_ne (by omega)]
    · rw [V_ne (by omega), V_ne (by omega), V_ne (by omega), V_ne (by omega), V_ne (by omega), V_ne (by omega), V_ne (by omega), V_ne (by omega), V_ne (by omega), V_ne (by omega), V_ne (by omega), V_ne (by omega), V_ne (by omega), V_nj h0 (by omega) (by omega), V_ne (by omega), V_ne (by omega), V_ne (by omega), V_ne (by omega), V_ne (by omega), V_ne (by omega)]
    · rw [V_ne (by omega), V_ne (by omega), V_ne (by omega), V_ne (by omega), V_ne (by omega), V_ne (by omega), V_ne (by omega), V_ne (by omega), V_ne (by omega), V_ne (by omega), V_nj h0 (by omega) (by omega), V_ne (by omega), V_ne (by omega), V_ne (by omega), V_ne (by omega), V_ne (by omega), V_ne (by omega), V_ne (by omega), V_ne (by omega), V_ne (by omega)]
    · rw [V_ne (by omega), V_ne (by omega), V_ne (by omega), V_ne (by omega), V_ne (by omega), V_ne (by omega), V_ne (by omega), V_ne (by omega), V_ne (by omega), V_nj h0 (by omega) (by omega), V_ne (by omega), V_ne (by omega), V_ne (by omega), V_ne (by omega), V_ne (by omega), V_ne (by omega), V_ne (by omega), V_ne (by omega), V_ne (by omega), V_ne (by omega)]
    · rw [V_ne (by omega), V_ne (by omega), V_ne (by omega), V_ne (by omega), V_ne (by omega), V_ne (by omega), V_ne (by omega), V_nj h0 (by omega) (by omega), V_ne (by omega), V_ne (by omega), V_ne (by omega), V_ne (by omega), V_ne (by omega), V_ne (by omega), V_ne (by omega), V_ne (by omega), V_ne (by omega), V_ne (by omega), V_ne (by omega), V_ne (by omega)]
  · rw [g _ _ (by omega) (by omega), hG, V_ne (by omega), V_ne (by omega), V_ne (by omega), V_ne (by omega), V_ne (by omega), V_ne (by omega), V_ne (by omega), V_ne (by omega), V_ne (by omega), V_ne (by omega), V_ne (by omega), V_ne (by omega), V_ne (by omega), V_ne (by omega), V_ne (by omega), V_ne (by omega), V_ne (by omega), V_ne (by omega), V_eq]; exact hx77
  · rw [g _ _ (by omega) (by omega), hG, V_ne (by omega), V_ne (by omega), V_ne (by omega), V_ne (by omega), V_ne (by omega), V_ne (by omega), V_ne (by omega), V_ne (by omega), V_ne (by omega), V_ne (by omega), V_ne (by omega), V_ne (by omega), V_ne (by omega), V_ne (by omega), V_ne (by omega), V_eq]; exact hx80
  · rw [g _ _ (by omega) (by omega), hG, V_ne (by omega), V_ne (by omega), V_ne (by omega), V_ne (by omega), V_ne (by omega), V_ne (by omega), V_ne (by omega), V_ne (by omega), V_ne (by omega), V_ne (by omega), V_ne (by omega), V_ne (by omega), V_ne (by omega), V_eq]; exact hx82
  · rw [g _ _ (by omega) (by omega), hG, V_ne (by omega), V_ne (by omega), V_ne (by omega), V_ne (by omega), V_ne (by omega), V_ne (by omega), V_ne (by omega), V_ne (by omega), V_ne (by omega), V_ne (by omega), V_eq]; exact hx85
  · rw [g _ _ (by omega) (by omega), hG, V_ne (by omega), V_ne (by omega), V_ne (by omega), V_ne (by omega), V_ne (by omega), V_ne (by omega), V_ne (by omega), V_ne (by omega), V_ne (by omega), V_eq]; exact hx86
  · rw [g _ _ (by omega) (by omega), hG, V_ne (by omega), V_nj (by omega) (by omega) (by omega), V_ne (by omega), V_ne (by omega), V_ne (by omega), V_ne (by omega), V_ne (by omega), V_ne (by omega), V_eq]; exact hx87
  · rw [g _ _ (by omega) (by omega), hG, V_ne (by omega), V_ne (by omega), V_ne (by omega), V_ne (by omega), V_ne (by omega), V_ne (by omega), V_ne (by omega), V_eq]; exact hx88
  · rw [g _ _ (by omega) (by omega), hG, V_ne (by omega), V_ne (by omega), V_ne (by omega), V_ne (by omega), V_ne (by omega), V_nj (by omega) (by omega) (by omega), V_eq]; omega
  · rw [g _ _ (by omega) (by omega), hG, V_ne (by omega), V_ne (by omega), V_ne (by omega), V_ne (by omega), V_ne (by omega), V_eq]; omega
  · intro j h0 hj hj2
    rw [g _ _ (by omega) (by omega), hG, V_ne (by omega), V_ne (by omega), V_ne (by omega), V_ne (by omega), V_ne (by omega), V_nj h0 (by omega) (by omega), V_nj h0 (by omega) (by omega), V_ne (by omega), V_ne (by omega), V_ne (by omega), V_ne (by omega), V_ne (by omega), V_ne (by omega), V_ne (by omega), V_ne (by omega), V_ne (by omega), V_ne (by omega), V_ne (by omega), V_ne (by omega), V_ne (by omega)]
  · intro j h0 hj
    by_cases z : j = q
    · refine Or.inr ⟨by omega, h90, ?_⟩
      rw [z, g _ _ (by omega) (by omega), hG, V_ne (by omega), V_eq]; exact hy87
    · refine Or.inl ?_
      rw [g _ _ (by omega) (by omega), hG, V_ne (by omega), V_nj h0 (by omega) (by omega), V_ne (by omega), V_ne (by omega), V_ne (by omega), V_ne (by omega), V_ne (by omega), V_ne (by omega), V_nj h0 (by omega) (by omega), V_ne (by omega), V_ne (by omega), V_ne (by omega), V_ne (by omega), V_ne (by omega), V_ne (by omega), V_ne (by omega), V_ne (by omega), V_ne (by omega), V_ne (by omega), V_ne (by omega)]
  · refine Or.inr ⟨h6, ?_, ?_, ?_, fun j h0 hj => ?_⟩
    · rw [g _ _ (by omega) (by omega), hG, V_ne (by omega), V_ne (by omega), V_ne (by omega), V_ne (by omega), V_eq]; omega
    · rw [g _ _ (by omega) (by omega), hG, V_ne (by omega), V_ne (by omega), V_eq]; omega
    · rw [← hk, g _ _ (by omega) (by omega), hG, V_ne (by omega), V_ne (by omega), V_ne (by omega), V_eq]; exact hx93
    · rw [g _ _ (by omega) (by omega), hG, V_ne (by omega), V_ne (by omega), V_ne (by omega), V_nj h0 (by omega) (by omega), V_ne (by omega), V_ne (by omega), V_ne (by omega), V_ne (by omega), V_ne (by omega), V_ne (by omega), V_ne (by omega), V_ne (by omega), V_ne (by omega), V_ne (by omega), V_ne (by omega), V_ne (by omega), V_ne (by omega), V_ne (by omega), V_ne (by omega), V_ne (by omega)]
  · refine Or.inr ⟨h90, ?_⟩
    rw [g _ _ (by omega) (by omega), hG, V_ne (by omega), V_ne (by omega), V_ne (by omega), V_ne (by omega), V_ne (by omega), V_ne (by omega), V_ne (by omega), V_ne (by omega), V_ne (by omega), V_ne (by omega), V_ne (by omega), V_ne (by omega), V_ne (by omega), V_ne (by omega), V_ne (by omega), V_ne (by omega), V_ne (by omega), V_ne (by omega), V_ne (by omega), V_ne (by omega)]
  · intro j h0 hj
    rw [g _ _ (by omega) (by omega), hG, V_ne (by omega), V_ne (by omega), V_ne (by omega), V_ne (by omega), V_ne (by omega), V_ne (by omega), V_ne (by omega), V_ne (by omega), V_ne (by omega), V_ne (by omega), V_ne (by omega), V_ne (by omega), V_ne (by omega), V_ne (by omega), V_ne (by omega), V_ne (by omega), V_ne (by omega), V_ne (by omega), V_ne (by omega), V_ne (by omega)]
  · rw [g _ _ (by omega) (by omega), hG, V_eq]; exact hx91
  · intro j h0 hj
    rw [g _ _ (by omega) (by omega), hG, V_nj h0 (by omega) (by omega), V_ne (by omega), V_ne (by omega), V_ne (by omega), V_ne (by omega), V_ne (by omega), V_ne (by omega), V_ne (by omega), V_ne (by omega), V_ne (by omega), V_ne (by omega), V_ne (by omega), V_ne (by omega), V_ne (by omega), V_ne (by omega), V_ne (by omega), V_ne (by omega), V_ne (by omega), V_ne (by omega), V_ne (by omega)]
  · intro j
    rw [g _ _ (by omega) (by omega), hG, V_ne (by omega), V_ne (by omega), V_ne (by omega), V_ne (by omega), V_ne (by omega), V_ne (by omega), V_ne (by omega), V_ne (by omega), V_ne (by omega), V_ne (by omega), V_ne (by omega), V_ne (by omega), V_ne (by omega), V_ne (by omega), V_ne (by omega), V_ne (by omega), V_ne (by omega), V_ne (by omega), V_ne (by omega), V_ne (by omega)]
/-- 1: good -/
def gd (x : Int) : Int := if x = 0 then 1 else 0
theorem gd_spec (x : Int) : (x = 0 → gd x = 1) ∧ (¬ x = 0 → gd x = 0) := by
  unfold gd
  refine ⟨fun h => if_pos h, fun h => if_neg h⟩



