/-! the class's code: what its ways ask -/
/-- a unit of a procedure: a statement of it, or its end -/
def UO (c : Nat) (F : Nat → Nat → Int) (u p : Int) : Prop := (0 ≤ u ∧ u < F c 0 ∧ F (c + 3) u.toNat = p) ∨ u = 40 + p
def CFC (c : Nat) (F : Nat → Nat → Int) : Prop := (0 ≤ F c 0 ∧ F c 0 ≤ 40) ∧ (0 ≤ F c 1 ∧ F c 1 ≤ 5) ∧ (0 ≤ F c 3 ∧ F c 3 < 32) ∧ (0 ≤ F c 4 ∧ F c 4 < 32) ∧ (∀ k, 0 ≤ k → k < F c 0 → (0 ≤ F (c + 2) k.toNat ∧ F (c + 2) k.toNat ≤ 5) ∧ (F (c + 2) k.toNat = 1 → 0 ≤ F (c + 7) k.toNat ∧ F (c + 7) k.toNat < F c 1) ∧ (0 ≤ F (c + 3) k.toNat ∧ F (c + 3) k.toNat < F c 1) ∧ UO c F (F (c + 12) k.toNat) (F (c + 3) k.toNat) ∧ UO c F (F (c + 13) k.toNat) (F (c + 3) k.toNat)) ∧ (∀ p, 0 ≤ p → p < F c 1 → UO c F (F (c + 1) p.toNat) p)
theorem UO.r {c : Nat} {F : Nat → Nat → Int} {u p : Int} (h : UO c F u p) (f : CFC c F) (p0 : 0 ≤ p) (p1 : p < F c 1) : 0 ≤ u ∧ u < 45 := by
  have a := f.1
  have b := f.2.1
  rcases h with h | h <;> omega
def cGS (c : Nat) (F : Nat → Nat → Int) (k : Int) : Prop := (F (c + 2) k.toNat = 1 ∧ FB (F c 3) (F (c + 7) k.toNat)) ∨ (¬ F (c + 2) k.toNat = 1 ∧ ¬ F (c + 2) k.toNat = 4 ∧ ¬ F (c + 2) k.toNat = 5)
def cDE (c : Nat) (F : Nat → Nat → Int) (k : Int) : Prop := (F (c + 2) k.toNat = 1 ∧ FB (F c 4) (F (c + 7) k.toNat)) ∨ (¬ F (c + 2) k.toNat = 1 ∧ ¬ F (c + 2) k.toNat = 0)
def cES (c : Nat) (F : Nat → Nat → Int) (k : Int) : Prop := F (c + 14) k.toNat < 0 ∧ (F (c + 2) k.toNat = 4 ∨ (F (c + 2) k.toNat = 1 ∧ FB (F c 4) (F (c + 7) k.toNat)))
def cTS (c : Nat) (F : Nat → Nat → Int) (nm k : Int) : Prop := (F (c + 2) k.toNat = 1 ∧ 6 ≤ nm) ∨ F (c + 6) k.toNat = nm
def cTA (c : Nat) (F : Nat → Nat → Int) (nm k : Int) : Prop := (F (c + 2) k.toNat = 1 ∧ 6 ≤ nm) ∨ ((F (c + 2) k.toNat = 1 ∨ F (c + 2) k.toNat = 4) ∧ F (c + 14) k.toNat = nm)
theorem gs_r {c : Nat} {X : ST} {k : Int} (f : CFC c X.1) (k0 : 0 ≤ k) (k1 : k < X.1 c 0) : f_X0_goesStraight X c k = 0 ↔ ¬ cGS c X.1 k := by
  have e := f.2.2.2.2.1 k k0 k1
  have p5 := f.2.1
  unfold f_X0_goesStraight cGS
  repeat rewrite [bd_r]
  by_cases z1 : X.1 (c + 2) k.toNat = 1
  · have c1 := e.2.1 z1
    have f3 := flag_r (s := X) f.2.2.1.1 f.2.2.1.2 c1.1 (by omega)
    rw [if_neg (fun q => q z1), f3]
    exact ⟨fun q y => by rcases y with y | y; (exact q y.2); (exact y.1 z1), fun q y => q (Or.inl ⟨z1, y⟩)⟩
  · rw [if_pos z1]
    by_cases z4 : X.1 (c + 2) k.toNat = 4
    · rw [if_pos z4]
      exact ⟨fun _ y => by rcases y with y | y; (exact z1 y.1); (exact y.2.1 z4), fun _ => rfl⟩
    · rw [if_neg z4]
      by_cases z5 : X.1 (c + 2) k.toNat = 5
      · rw [if_pos z5]
        exact ⟨fun _ y => by rcases y with y | y; (exact z1 y.1); (exact y.2.2 z5), fun _ => rfl⟩
      · rw [if_neg z5]
        exact ⟨fun q => absurd q (by decide), fun q => absurd (Or.inr ⟨z1, z4, z5⟩) q⟩
theorem de_r {c : Nat} {X : ST} {k : Int} (f : CFC c X.1) (k0 : 0 ≤ k) (k1 : k < X.1 c 0) : f_X0_decides X c k = 0 ↔ ¬ cDE c X.1 k := by
  have e := f.2.2.2.2.1 k k0 k1
  have p5 := f.2.1
  unfold f_X0_decides cDE
  repeat rewrite [bd_r]
  by_cases z1 : X.1 (c + 2) k.toNat = 1
  · have c1 := e.2.1 z1
    have f4 := flag_r (s := X) f.2.2.2.1.1 f.2.2.2.1.2 c1.1 (by omega)
    rw [if_neg (fun q => q z1), f4]
    exact ⟨fun q y => by rcases y with y | y; (exact q y.2); (exact y.1 z1), fun q y => q (Or.inl ⟨z1, y⟩)⟩
  · rw [if_pos z1]
    by_cases z0 : X.1 (c + 2) k.toNat = 0
    · rw [if_pos z0]
      exact ⟨fun _ y => by rcases y with y | y; (exact z1 y.1); (exact y.2 z0), fun _ => rfl⟩
    · rw [if_neg z0]
      exact ⟨fun q => absurd q (by decide), fun q => absurd (Or.inr ⟨z1, z0⟩) q⟩
theorem es_r {c : Nat} {X : ST} {k : Int} (f : CFC c X.1) (k0 : 0 ≤ k) (k1 : k < X.1 c 0) : f_X0_escapes X c k = 0 ↔ ¬ cES c X.1 k := by
  have e := f.2.2.2.2.1 k k0 k1
  have p5 := f.2.1
  unfold f_X0_escapes cES
  repeat rewrite [bd_r]
  by_cases v : X.1 (c + 14) k.toNat < 0
  · rw [if_pos v]
    by_cases z4 : X.1 (c + 2) k.toNat = 4
    · rw [if_pos z4]
      exact ⟨fun q => absurd q (by decide), fun q => absurd ⟨v, Or.inl z4⟩ q⟩
    · rw [if_neg z4]
      by_cases z1 : X.1 (c + 2) k.toNat = 1
      · have c1 := e.2.1 z1
        have f4 := flag_r (s := X) f.2.2.2.1.1 f.2.2.2.1.2 c1.1 (by omega)
        rw [if_neg (fun q => q z1)]
        by_cases g : f_X7_has X (o_i2l (X.1 c 4)) (X.1 (c + 7) k.toNat) = 0
        · rw [if_pos g]
          exact ⟨fun _ y => by rcases y.2 with y | y; (exact z4 y); (exact (f4.mp g) y.2), fun _ => rfl⟩
        · rw [if_neg g]
          exact ⟨fun q => absurd q (by decide), fun q => absurd (f4.mpr (fun y => q ⟨v, Or.inr ⟨z1, y⟩⟩)) g⟩
      · rw [if_pos z1]
        exact ⟨fun _ y => by rcases y.2 with y | y; (exact z4 y); (exact z1 y.1), fun _ => rfl⟩
  · rw [if_neg v]
    exact ⟨fun _ y => v y.1, fun _ => rfl⟩
theorem ifd_r {s : ST} {a : Int} : f_X7_isField s a = if a < 6 then 0 else 1 := rfl
theorem ts_r {c : Nat} {X : ST} {k nm : Int} : f_X0_tellsStraight2 X c k nm = 0 ↔ ¬ cTS c X.1 nm k := by
  unfold f_X0_tellsStraight2 cTS
  repeat rewrite [bd_r]
  rw [ifd_r]
  by_cases z1 : X.1 (c + 2) k.toNat = 1
  · rw [if_neg (fun q => q z1)]
    by_cases z6 : nm < 6
    · rw [if_pos z6, if_pos rfl]
      by_cases z : X.1 (c + 6) k.toNat = nm
      · rw [if_neg (fun q => q z)]
        exact ⟨fun q => absurd q (by decide), fun q => absurd (Or.inr z) q⟩
      · rw [if_pos z]
        exact ⟨fun _ y => by rcases y with y | y; (omega); (exact z y), fun _ => rfl⟩
    · rw [if_neg z6, if_neg (by decide)]
      exact ⟨fun q => absurd q (by decide), fun q => absurd (Or.inl ⟨z1, by omega⟩) q⟩
  · rw [if_pos z1]
    by_cases z : X.1 (c + 6) k.toNat = nm
    · rw [if_neg (fun q => q z)]
      exact ⟨fun q => absurd q (by decide), fun q => absurd (Or.inr z) q⟩
    · rw [if_pos z]
      exact ⟨fun _ y => by rcases y with y | y; (exact z1 y.1); (exact z y), fun _ => rfl⟩
theorem ta_r {c : Nat} {X : ST} {k nm : Int} : f_X0_tellsAside2 X c k nm = 0 ↔ ¬ cTA c X.1 nm k := by
  unfold f_X0_tellsAside2 cTA
  repeat rewrite [bd_r]
  rw [ifd_r]
  by_cases z1 : X.1 (c + 2) k.toNat = 1
  · rw [if_neg (fun q => q z1)]
    by_cases z6 : nm < 6
    · rw [if_pos z6, if_neg (fun q => q rfl)]
      by_cases z : X.1 (c + 14) k.toNat = nm
      · rw [if_neg (fun q => q z)]
        exact ⟨fun q => absurd q (by decide), fun q => absurd (Or.inr ⟨Or.inl z1, z⟩) q⟩
      · rw [if_pos z]
        exact ⟨fun _ y => by rcases y with y | y; (omega); (exact z y.2), fun _ => rfl⟩
    · rw [if_neg z6, if_pos (by decide)]
      exact ⟨fun q => absurd q (by decide), fun q => absurd (Or.inl ⟨z1, by omega⟩) q⟩
  · rw [if_pos z1]
    by_cases z4 : X.1 (c + 2) k.toNat = 4
    · rw [if_neg (fun q => q z4)]
      by_cases z : X.1 (c + 14) k.toNat = nm
      · rw [if_neg (fun q => q z)]
        exact ⟨fun q => absurd q (by decide), fun q => absurd (Or.inr ⟨Or.inr z4, z⟩) q⟩
      · rw [if_pos z]
        exact ⟨fun _ y => by rcases y with y | y; (exact z1 y.1); (exact z y.2), fun _ => rfl⟩
    · rw [if_pos z4]
      exact ⟨fun _ y => by rcases y with y | y; (exact z1 y.1); (rcases y.1 with w | w; (exact z1 w); (exact z4 w)), fun _ => rfl⟩
/-! who told a name last: one step -/
def TLR (s : ST) (t u : Int) : Prop := bt (s.2.1 62 u.toNat) t
/-- ints and references stay, and longs but those of q -/
def EQL (q : Nat) (s s' : ST) : Prop := s'.1 = s.1 ∧ s'.2.2 = s.2.2 ∧ ∀ p, p ≠ q → s'.2.1 p = s.2.1 p
theorem EQL.rfl {q : Nat} {s : ST} : EQL q s s := ⟨_root_.rfl, _root_.rfl, fun _ _ => _root_.rfl⟩
theorem EQL.tr {q : Nat} {s u w : ST} (a : EQL q s u) (b : EQL q u w) : EQL q s w := ⟨b.1.trans a.1, b.2.1.trans a.2.1, fun p h => (b.2.2 p h).trans (a.2.2 p h)⟩
theorem EQL.L {q j : Nat} {s : ST} {x : Int64} : EQL q s (sL s q j x) := ⟨_root_.rfl, _root_.rfl, fun p h => sL_nc h⟩
def HS (s s' : ST) (v : Int) (Cl : (Int → Int → Prop) → Prop) : Prop := EQL 62 s s' ∧ (v = 0 ∨ v = 1) ∧ (∀ t u, 0 ≤ t → 0 ≤ u → TLR s t u → TLR s' t u) ∧ (∀ C, Cl C → (∀ t u, 0 ≤ t → 0 ≤ u → u < 45 → TLR s t u → C t u) → ∀ t u, 0 ≤ t → 0 ≤ u → u < 45 → TLR s' t u → C t u) ∧ (v = 0 → s'.2.1 62 = s.2.1 62 ∧ Cl (TLR s)) ∧ (v = 1 → ∃ t u, 0 ≤ t ∧ 0 ≤ u ∧ u < 45 ∧ ¬ TLR s t u ∧ TLR s' t u)
theorem HS.rfl {s : ST} {Cl : (Int → Int → Prop) → Prop} (h : ∀ C, Cl C) : HS s s 0 Cl := ⟨EQL.rfl, Or.inl _root_.rfl, fun _ _ _ _ z => z, fun _ _ z => z, fun _ => ⟨_root_.rfl, h _⟩, fun z => absurd z (by decide)⟩
theorem TLR.e {s s' : ST} (h : s'.2.1 62 = s.2.1 62) : TLR s' = TLR s := by
  funext t u
  unfold TLR
  rw [h]
theorem HS.comp {s s1 s2 : ST} {v1 v2 : Int} {A B : (Int → Int → Prop) → Prop} (a : HS s s1 v1 A) (b : HS s1 s2 v2 B) : HS s s2 (o_ior v1 v2) (fun C => A C ∧ B C) := by
  obtain ⟨a1, a2, a3, a4, a5, a6⟩ := a
  obtain ⟨b1, b2, b3, b4, b5, b6⟩ := b
  have o := ior_01 a2 b2
  refine ⟨a1.tr b1, o.1, fun t u t0 u0 z => b3 t u t0 u0 (a3 t u t0 u0 z), fun C hC h => b4 C hC.2 (a4 C hC.1 h), fun z => ?_, fun z => ?_⟩
  · have w := o.2.mp z
    have x := a5 w.1
    have y := b5 w.2
    rw [TLR.e x.1] at y
    exact ⟨y.1.trans x.1, x.2, y.2⟩
  · by_cases w : v1 = 1
    · obtain ⟨t, u, t0, u0, u1, n, p⟩ := a6 w
      exact ⟨t, u, t0, u0, u1, n, b3 t u t0 u0 p⟩
    · have w0 : v1 = 0 := by
        rcases a2 with y | y
        · exact y
        · exact absurd y w
      have w1 : v2 = 1 := by
        rcases b2 with y | y
        · exact absurd (o.2.mpr ⟨w0, y⟩) (by omega)
        · exact y
      obtain ⟨t, u, t0, u0, u1, n, p⟩ := b6 w1
      rw [TLR.e (a5 w0).1] at n
      exact ⟨t, u, t0, u0, u1, n, p⟩
theorem HS.cl {s s' : ST} {v : Int} {A B : (Int → Int → Prop) → Prop} (a : HS s s' v A) (h : ∀ C, A C ↔ B C) : HS s s' v B :=
  ⟨a.1, a.2.1, a.2.2.1, fun C hC => a.2.2.2.1 C ((h C).mpr hC), fun z => ⟨(a.2.2.2.2.1 z).1, (h _).mp (a.2.2.2.2.1 z).2⟩, a.2.2.2.2.2⟩
/-- what is told at u by k, or goes on from k -/
def cUp (Tl : Prop) (k u : Int) (C : Int → Int → Prop) : Prop := (Tl → C k u) ∧ (¬ Tl → ∀ t, 0 ≤ t → C t k → C t u)
theorem add_ok8 {s : ST} {k u : Int} {m : Int64} {Tl : Prop} (k0 : 0 ≤ k) (k1 : k < 40) (u0 : 0 ≤ u) (u1 : u < 45) (h1 : Tl → m = f_X7_bit s k) (h2 : ¬ Tl → m = s.2.1 62 k.toNat) : HS s (f_X1_addTellers2 s u m).1 (f_X1_addTellers2 s u m).2 (cUp Tl k u) := by
  have e : f_X1_addTellers2 s u m = (sL s 62 u.toNat (o_lor (s.2.1 62 u.toNat) m), if o_lor (s.2.1 62 u.toNat) m = s.2.1 62 u.toNat then 0 else 1) := by
    unfold f_X1_addTellers2
    repeat rewrite [bd_r]
    rw [sL_eq]
    by_cases z : o_lor (s.2.1 62 u.toNat) m = s.2.1 62 u.toNat
    · rw [if_pos (lcmp_r.mpr z), if_pos z]
    · rw [if_neg (fun y => z (lcmp_r.mp y)), if_neg z]
  rw [e]
  dsimp only
  have hm : ∀ t, 0 ≤ t → (bt m t ↔ (Tl ∧ t = k) ∨ (¬ Tl ∧ TLR s t k)) := fun t t0 => by
    by_cases z : Tl
    · rw [h1 z, bit_r k0 (by omega) t0]
      exact ⟨fun y => Or.inl ⟨z, y⟩, fun y => by rcases y with y | y; (exact y.2); (exact absurd z y.1)⟩
    · rw [h2 z]
      exact ⟨fun y => Or.inr ⟨z, y⟩, fun y => by rcases y with y | y; (exact absurd y.1 z); (exact y.2)⟩
  have hb : ∀ t x, 0 ≤ x → (TLR (sL s 62 u.toNat (o_lor (s.2.1 62 u.toNat) m)) t x ↔ TLR s t x ∨ (x = u ∧ bt m t)) := fun t x x0 => by
    unfold TLR
    by_cases z : x = u
    · rw [z, sL_eq, lor_r]
      exact ⟨fun y => by rcases y with y | y; (exact Or.inl y); (exact Or.inr ⟨_root_.rfl, y⟩), fun y => by rcases y with y | y; (exact Or.inl y); (exact Or.inr y.2)⟩
    · rw [sL_ne (by omega)]
      exact ⟨Or.inl, fun y => by rcases y with y | y; (exact y); (exact absurd y.1 z)⟩
  refine ⟨EQL.L, ?_, fun t x _ x0 z => (hb t x x0).mpr (Or.inl z), fun C hC h t x t0 x0 x1 z => ?_, fun z => ?_, fun z => ?_⟩
  · by_cases z : o_lor (s.2.1 62 u.toNat) m = s.2.1 62 u.toNat
    · rw [if_pos z]; exact Or.inl _root_.rfl
    · rw [if_neg z]; exact Or.inr _root_.rfl
  · rcases (hb t x x0).mp z with y | ⟨y1, y2⟩
    · exact h t x t0 x0 x1 y
    · rw [y1]
      rcases (hm t t0).mp y2 with ⟨w1, w2⟩ | ⟨w1, w2⟩
      · rw [w2]; exact hC.1 w1
      · exact hC.2 w1 t t0 (h t k t0 k0 (by omega) w2)
  · have w : o_lor (s.2.1 62 u.toNat) m = s.2.1 62 u.toNat := by
      by_cases y : o_lor (s.2.1 62 u.toNat) m = s.2.1 62 u.toNat
      · exact y
      · rw [if_neg y] at z; exact absurd z (by decide)
    have ml : ∀ t, bt m t → TLR s t u := fun t y => by
      unfold TLR
      rw [← w, lor_r]
      exact Or.inr y
    refine ⟨?_, fun y => ml k ((hm k k0).mpr (Or.inl ⟨y, _root_.rfl⟩)), fun y t t0 x => ml t ((hm t t0).mpr (Or.inr ⟨y, x⟩))⟩
    rw [w]
    funext q
    show (if 62 = 62 ∧ q = u.toNat then s.2.1 62 u.toNat else s.2.1 62 q) = s.2.1 62 q
    by_cases y : q = u.toNat
    · rw [if_pos ⟨_root_.rfl, y⟩, y]
    · rw [if_neg (fun x => y x.2)]
  · have w : ¬ o_lor (s.2.1 62 u.toNat) m = s.2.1 62 u.toNat := fun y => by
      rw [if_pos y] at z; exact absurd z (by decide)
    rcases Classical.em (∃ t, 0 ≤ t ∧ bt m t ∧ ¬ TLR s t u) with ⟨t, t0, y1, y2⟩ | y
    · exact ⟨t, u, t0, u0, u1, y2, (hb t u u0).mpr (Or.inr ⟨_root_.rfl, y1⟩)⟩
    · exfalso
      refine w (bt_ext (fun j j0 _ => ?_))
      rw [lor_r]
      constructor
      · rintro (x | x)
        · exact x
        · rcases Classical.em (TLR s j u) with r | r
          · exact r
          · exact absurd ⟨j, j0, x, r⟩ y
      · exact Or.inl
/-- closed at one statement -/
def cAt (c : Nat) (F : Nat → Nat → Int) (nm k : Int) (C : Int → Int → Prop) : Prop := (cGS c F k → cUp (cTS c F nm k) k (F (c + 12) k.toNat) C) ∧ (cDE c F k → cUp (cTA c F nm k) k (F (c + 13) k.toNat) C)

