/-! on what a place hangs in the reference: the rounds of one use -/
section V
variable {c : Nat} {S p to y nm : Int} {F : Nat → Nat → Int}
def uV (c : Nat) (F : Nat → Nat → Int) (p to nm v : Int) : Prop := ∀ t, 0 ≤ t → LT c F nm t (en p v) → LT c F nm t (en p to)
noncomputable def uM (seen : Int64) : Nat := cc (fun k => bt seen (k : Int)) 40
/-- all but v is dealt with -/
def uI (c : Nat) (S : Int) (F : Nat → Nat → Int) (p to y nm : Int) (s0 s : ST) (seen left : Int64) (v : Int) : Prop := uH c F p to y nm s0 s ∧ uS c F p to nm seen left ∧ uV c F p to nm v ∧ (∀ u, 0 ≤ u → bt seen u → u ≠ v → uK c S F p y nm s seen left u) ∧ (to = -1 → v ≠ -1 → uK c S F p y nm s seen left (-1)) ∧ (¬ to = -1 → bt seen to ∨ bt left to) ∧ ((v = -1 ∧ to = -1) ∨ (0 ≤ v ∧ bt seen v))
/-- a round begins -/
def uJ (c : Nat) (S : Int) (F : Nat → Nat → Int) (p to y nm : Int) (s0 s : ST) (seen left : Int64) (b9 : Int) : Prop := uH c F p to y nm s0 s ∧ uS c F p to nm seen left ∧ (∀ u, 0 ≤ u → bt seen u → uK c S F p y nm s seen left u) ∧ ((b9 = 1 ∧ to = -1) ∨ (b9 = 0 ∧ (to = -1 → uK c S F p y nm s seen left (-1)))) ∧ (¬ to = -1 → bt seen to ∨ bt left to)
def uT (c : Nat) (F : Nat → Nat → Int) (p to : Int) : Prop := to = -1 ∨ (0 ≤ to ∧ to < F c 0 ∧ F (c + 3) to.toNat = p)
theorem uI.hang {s0 s : ST} {seen left : Int64} {v x : Int} (b : BRI c S F) (y0 : 0 ≤ y) (n0 : 0 ≤ nm) (n1 : nm ≤ 9) (p0 : 0 ≤ p) (p1 : p < F c 1) (h : uI c S F p to y nm s0 s seen left v) (x0 : 0 ≤ x) (x1 : x < 608) (hx : ∃ t, 0 ≤ t ∧ LT c F nm t (en p v) ∧ x = pT c F nm t) : uI c S F p to y nm s0 (f_X8_hang2 s y x) seen left v := by
  obtain ⟨h1, h2, h3, h4, h5, h6, h7⟩ := h
  have m : ∀ z, 0 ≤ z → z < 608 → RH s y z → RH (f_X8_hang2 s y x) y z := fun z z0 z1 w => (hang_r y0 x0 x1 y0 z0 z1).mpr (Or.inl w)
  refine ⟨⟨h1.1.tr hang_e, fun y' z y0' z0 z1 w => (hang_r y0 x0 x1 y0' z0 z1).mpr (Or.inl (h1.2.1 y' z y0' z0 z1 w)), fun y' z y0' z0 z1 w => ?_⟩, h2, h3, fun u u0 us un => (h4 u u0 us un).mono b y0 n0 n1 p0 p1 m (fun _ _ w => w), fun a e => (h5 a e).mono b y0 n0 n1 p0 p1 m (fun _ _ w => w), h6, h7⟩
  rcases (hang_r y0 x0 x1 y0' z0 z1).mp w with w | ⟨w1, w2⟩
  · exact h1.2.2 y' z y0' z0 z1 w
  · obtain ⟨t, t0, ht, hx⟩ := hx
    exact Or.inr ⟨w1, t, t0, h3 t t0 ht, w2.trans hx⟩
theorem left_r {left : Int64} {k : Int} (k0 : 0 ≤ k) (k1 : k ≤ 63) {u : Int} (u0 : 0 ≤ u) : bt (o_lor left (o_lshl (1 : Int64) k)) u ↔ bt left u ∨ u = k := by
  rw [lor_r, shl_r k0 k1 u0]
theorem uI.left {s0 s : ST} {seen left : Int64} {v k : Int} (b : BRI c S F) (y0 : 0 ≤ y) (n0 : 0 ≤ nm) (n1 : nm ≤ 9) (p0 : 0 ≤ p) (p1 : p < F c 1) (hto : uT c F p to) (h : uI c S F p to y nm s0 s seen left v) (k0 : 0 ≤ k) (k1 : k < F c 0) (ko : F (c + 3) k.toNat = p) (ks : ¬ bt seen k) (hk : ∀ t, 0 ≤ t → LT c F nm t k → LT c F nm t (en p v)) : uI c S F p to y nm s0 s seen (o_lor left (o_lshl (1 : Int64) k)) v := by
  have k40 := b.2.2.2.2.1.1.2
  obtain ⟨h1, h2, h3, h4, h5, h6, h7⟩ := h
  have r : ∀ u, 0 ≤ u → (bt (o_lor left (o_lshl (1 : Int64) k)) u ↔ bt left u ∨ u = k) := fun u u0 => left_r k0 (by omega) u0
  have mb : ∀ u, 0 ≤ u → bt seen u ∨ bt left u → bt seen u ∨ bt (o_lor left (o_lshl (1 : Int64) k)) u := fun u u0 w => by
    rw [r u u0]
    rcases w with w | w
    · exact Or.inl w
    · exact Or.inr (Or.inl w)
  refine ⟨h1, ⟨fun u u0 w => ?_, fun u u0 w => ?_⟩, h3, fun u u0 us un => (h4 u u0 us un).mono b y0 n0 n1 p0 p1 (fun _ _ _ w => w) mb, fun a e => (h5 a e).mono b y0 n0 n1 p0 p1 (fun _ _ _ w => w) mb, fun w => ?_, h7⟩
  · rw [r u u0] at w
    by_cases e : u = k
    · rw [e]
      exact ⟨k1, ko, fun t t0 z => h3 t t0 (hk t t0 z)⟩
    · refine h2.1 u u0 ?_
      rcases w with w | w | w
      · exact Or.inl w
      · exact Or.inr w
      · exact absurd w e
  · rw [r u u0] at w
    rcases w.2 with z | z
    · exact h2.2 u u0 ⟨w.1, z⟩
    · rw [z] at w
      exact ks w.1
  · rcases hto with g | g
    · exact absurd g w
    · exact mb to g.1 (h6 w)
theorem way_lt (b : BRI c S F) {k e v : Int} (k0 : 0 ≤ k) (k1 : k < F c 0) (ko : F (c + 3) k.toNat = p) (he : e = 0 ∨ e = 1) (n0 : 0 ≤ nm) (n1 : nm ≤ 9) (hv : rW c S F k e = v) (v1 : -1 ≤ v) : (¬ rT c F nm k e = -1 → LT c F nm k (en p v) ∧ rT c F nm k e = pT c F nm k ∧ 0 ≤ rT c F nm k e ∧ rT c F nm k e < 608) ∧ (rT c F nm k e = -1 → ∀ t, 0 ≤ t → LT c F nm t k → LT c F nm t (en p v)) := by
  have k40 := b.2.2.2.2.1.1.2
  have pk : 0 ≤ pT c F nm k ∧ pT c F nm k < 608 := by
    rw [pT_k (by omega)]
    split
    · split <;> omega
    · omega
  have go : ∀ (u : Int) (Tl : Prop), cUp Tl k u (LT c F nm) → u = en p v → TLs c F nm k Tl (rT c F nm k e) → (¬ rT c F nm k e = -1 → LT c F nm k (en p v) ∧ rT c F nm k e = pT c F nm k ∧ 0 ≤ rT c F nm k e ∧ rT c F nm k e < 608) ∧ (rT c F nm k e = -1 → ∀ t, 0 ≤ t → LT c F nm t k → LT c F nm t (en p v)) := fun u Tl cu hu ht => by
    rw [hu] at cu
    rcases ht with ⟨t1, t2⟩ | ⟨t1, t2⟩
    · refine ⟨fun _ => ⟨cu.1 t1, t2, ?_, ?_⟩, fun z => ?_⟩
      · rw [t2]; exact pk.1
      · rw [t2]; exact pk.2
      · rw [t2] at z; omega
    · exact ⟨fun z => absurd t2 z, fun _ t t0 z => cu.2 t1 t t0 z⟩
  rcases edge_r (nm := nm) b k0 k1 he n0 with er | er
  · omega
  · have er2 := er.2.2
    rw [hv, ko] at er2
    rcases er2 with ⟨g, g1, g2⟩ | ⟨g, g1, g2⟩
    · exact go _ _ ((LT.cl.2 k k0 k1).1 g) g1 g2
    · exact go _ _ ((LT.cl.2 k k0 k1).2 g) g1 g2
theorem uC.step {s : ST} {seen left : Int64} {v k e : Int} (h : uC c S F p y nm s seen left v k e) (new : F (c + 3) k.toNat = p → rW c S F k e = v → (¬ rT c F nm k e = -1 → RH s y (rT c F nm k e)) ∧ (rT c F nm k e = -1 → bt seen k ∨ bt left k)) : uC c S F p y nm s seen left v k (e + 1) := by
  intro k' e' k0 k1 ko he ha hw
  by_cases z : k' = k ∧ e' = e
  · rw [z.1, z.2] at hw ⊢
    rw [z.1] at ko
    exact new ko hw
  · exact h k' e' k0 k1 ko he (by omega) hw
theorem uC.next {s : ST} {seen left : Int64} {v k e : Int} (h : uC c S F p y nm s seen left v k e) (z : 2 ≤ e ∨ ¬ F (c + 3) k.toNat = p) : uC c S F p y nm s seen left v (k + 1) 0 := by
  intro k' e' k0 k1 ko he ha hw
  refine h k' e' k0 k1 ko he ?_ hw
  rcases z with z | z
  · omega
  · by_cases q : k' = k
    · rw [q] at ko
      exact absurd ko z
    · omega
theorem uC.nil {s : ST} {seen left : Int64} {v : Int} : uC c S F p y nm s seen left v 0 0 := by
  intro k' e' k0 k1 ko he ha hw
  omega
theorem uB.mono {s s' : ST} {v : Int} (p0 : 0 ≤ p) (p1 : p < F c 1) (f : CFC c F) (n0 : 0 ≤ nm) (n1 : nm ≤ 9) (h : uB c S F p y nm s v) (hs : ∀ x, 0 ≤ x → x < 608 → RH s y x → RH s' y x) : uB c S F p y nm s' v := fun w z => by
  have := f.2.1.2
  refine hs _ ?_ ?_ (h w z)
  · unfold pT
    rw [if_neg (by omega)]
    split <;> omega
  · unfold pT
    rw [if_neg (by omega)]
    split <;> omega
end V
