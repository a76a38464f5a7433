/-! the class's rows, all of them -/
/-- what hangs on begins by way -/
def BGb (c : Nat) (F : Nat → Nat → Int) (b y x : Int) : Prop := ∃ p u, 0 ≤ p ∧ p < b ∧ 0 ≤ u ∧ u < F c 0 ∧ GU c F (F (c + 1) p.toNat) u ∧ y = 13 * u ∧ x = 13 * (40 + p)
/-- after the rows by way: rows, by way, on begins -/
def WP (c : Nat) (b : Int) (s0 s : ST) : Prop := s.1 = s0.1 ∧ s.2.2 = s0.2.2 ∧ (∀ p, p ≠ 58 → p ≠ 60 → p ≠ 61 → p ≠ 63 → s.2.1 p = s0.2.1 p) ∧ (∀ y x, 0 ≤ y → 0 ≤ x → x < 585 → (CH s y x ↔ CH s0 y x ∨ DWb c s0.1 (s0.1 c 0) y x ∨ BGb c s0.1 b y x)) ∧ (∀ y x, 0 ≤ y → 0 ≤ x → x < 64 → (BW s y x ↔ BW s0 y x ∨ WWb c s0.1 (s0.1 c 0) y x)) ∧ (∀ p u, 0 ≤ p → p < b → 0 ≤ u → (bt (s.2.1 61 p.toNat) u ↔ GU c s0.1 (s0.1 (c + 1) p.toNat) u)) ∧ FCP c s0 (s0.1, (fun q => if q = 63 then s.2.1 63 else s0.2.1 q), s0.2.2)
theorem wp_n {c : Nat} {s0 : ST} (hc : c = 2 ∨ c = 18) (f : CFC c s0.1) (h57 : s0.2.2 57 6 = c) : ∀ (n : Nat) (l : Int) (sx : ST), 0 ≤ l → l ≤ s0.1 c 1 → WP c l s0 sx → 10 - l < (n : Int) → WP c (s0.1 c 1) s0 (f_X1_tieByWay2_ n 70 l sx) := by
  intro n
  have n40 := f.1
  have p5 := f.2.1
  induction n with
  | zero => intros; omega
  | succ n ih =>
    intro l sx h0 h1 h hm
    obtain ⟨g1, g2, g3, g4, g5, g6, g7⟩ := h
    have r : sx.2.2 57 6 = c := by rw [g2]; exact h57
    rw [f_X1_tieByWay2_, if_neg (by decide)]
    simp only [bd_r, r, g1]
    by_cases z : s0.1 c 1 ≤ l
    · rw [if_pos z]
      have el : s0.1 c 1 = l := by omega
      rw [el]
      exact ⟨g1, g2, g3, g4, g5, g6, g7⟩
    · rw [if_neg z]
      have uo := f.2.2.2.2.2 l h0 (by omega)
      obtain ⟨v, hv⟩ : ∃ v, v = sx.2.1 63 (s0.1 (c + 1) l.toNat).toNat := ⟨_, rfl⟩
      have bv : ∀ u, 0 ≤ u → (bt v u ↔ GU c s0.1 (s0.1 (c + 1) l.toNat) u) := fun u u0 => by
        have a1 := CT3.gu f g7 uo h0 (by omega) u0
        rw [← a1, hv]
        rfl
      rw [← hv, sL_eq]
      have a := ta_ok (c := c) (s0 := sL sx 61 l.toNat v) (m := v) (l3 := 0) (l4 := 40 + l) (by show CFC c sx.1; rw [g1]; exact f) r (by decide) (by decide) (by omega) (by omega)
      have ea : (sL sx 61 l.toNat v).1 = s0.1 := g1
      rw [ea] at a
      have c58 : (sL sx 61 l.toNat v).2.1 58 = sx.2.1 58 := sL_nc (by decide)
      have c60 : (sL sx 61 l.toNat v).2.1 60 = sx.2.1 60 := sL_nc (by decide)
      refine ih (l + 1) _ (by omega) (by omega) ⟨a.1.1.trans g1, a.1.2.1.trans g2, fun p z1 z2 z3 z4 => ?_, fun y x y0 x0 x1 => ?_, fun y x y0 x0 x1 => ?_, fun p u p0 p1 u0 => ?_, ?_⟩ (by omega)
      · by_cases q : p = 59
        · have b59 : ∀ j : Nat, (f_X1_tieAll2 (sL sx 61 l.toNat v) v 0 (40 + l)).2.1 59 j = (sL sx 61 l.toNat v).2.1 59 j := fun j => by
            refine bt_ext (fun u u0 u1 => ?_)
            have w := a.2.2.1 (j : Int) u (by omega) u0 u1
            unfold BV at w
            rw [show ((j : Int)).toNat = j from Int.toNat_natCast j] at w
            rw [w]
            exact ⟨fun y => by rcases y with y | y; (exact y); (exact absurd y id), Or.inl⟩
          rw [q]
          funext j
          rw [b59 j, sL_nc (show (59 : Nat) ≠ 61 by decide), g3 59 (by decide) (by decide) (by decide) (by decide)]
        · rw [a.1.2.2 p z1 q z2, sL_nc z3]
          exact g3 p z1 z2 z3 z4
      · rw [a.2.1 y x y0 x0 x1]
        unfold CH at g4 ⊢
        rw [c58, g4 y x y0 x0 x1]
        constructor
        · rintro ((w | w | ⟨p, u, p0, p1, w⟩) | ⟨k, k0, k1, w1, w2, w3⟩)
          · exact Or.inl w
          · exact Or.inr (Or.inl w)
          · exact Or.inr (Or.inr ⟨p, u, p0, by omega, w⟩)
          · exact Or.inr (Or.inr ⟨l, k, h0, by omega, k0, k1, (bv k k0).mp w1, w2, by omega⟩)
        · rintro (w | w | ⟨p, u, p0, p1, u0, u1, w1, w2, w3⟩)
          · exact Or.inl (Or.inl w)
          · exact Or.inl (Or.inr (Or.inl w))
          · by_cases q : p = l
            · rw [q] at w1 w3
              exact Or.inr ⟨u, u0, u1, (bv u u0).mpr w1, w2, by omega⟩
            · exact Or.inl (Or.inr (Or.inr ⟨p, u, p0, by omega, u0, u1, w1, w2, w3⟩))
      · rw [a.2.2.2 y x y0 x0 x1]
        unfold BW at g5 ⊢
        rw [c60, g5 y x y0 x0 x1]
        exact ⟨fun w => by rcases w with w | w; (exact w); (exact absurd w id), Or.inl⟩
      · rw [a.1.2.2 61 (by decide) (by decide) (by decide)]
        by_cases q : p = l
        · rw [q, sL_eq]; exact bv u u0
        · rw [sL_ne (by omega)]; exact g6 p u p0 (by omega) u0
      · have c63 : (f_X1_tieAll2 (sL sx 61 l.toNat v) v 0 (40 + l)).2.1 63 = sx.2.1 63 := by
          rw [a.1.2.2 63 (by decide) (by decide) (by decide), sL_nc (by decide)]
        rw [c63]
        exact g7
theorem tbw_ok {c : Nat} {s0 : ST} (hc : c = 2 ∨ c = 18) (f : CFC c s0.1) (h57 : s0.2.2 57 6 = c) : WP c (s0.1 c 1) s0 (f_X1_tieByWay2 s0) := by
  unfold f_X1_tieByWay2
  rw [bd_r]
  have fc := fc_ok f h57
  have n40 := f.1
  generalize f_X1_findCertain2 s0 = s1 at fc ⊢
  obtain ⟨m, s2, q1, q2, q3⟩ := tw_n hc f h57 fc 160 0 s1 (by decide) f.1.1 (HD.rfl.iff (fun y x _ _ _ => ⟨fun w => absurd w id, fun ⟨k, u, k0, k1, _⟩ => by omega⟩) (fun _ _ _ _ _ => Iff.rfl) (fun y x _ x0 _ => ⟨fun w => absurd w id, fun w => by have := w.2.1; omega⟩)) (by omega)
  rw [q1]
  have c58 : s1.2.1 58 = s0.2.1 58 := fc.1.2.2 58 (by decide)
  have c60 : s1.2.1 60 = s0.2.1 60 := fc.1.2.2 60 (by decide)
  refine wp_n hc f h57 m 0 s2 (by decide) f.2.1.1 ⟨q3.1.1.trans fc.1.1, q3.1.2.1.trans fc.1.2.1, fun p z1 z2 z3 z4 => ?_, fun y x y0 x0 x1 => ?_, fun y x y0 x0 x1 => ?_, fun p u p0 p1 => by omega, ?_⟩ (by omega)
  · by_cases q : p = 59
    · rw [q]
      funext j
      have b59 : s2.2.1 59 j = s1.2.1 59 j := by
        refine bt_ext (fun u u0 u1 => ?_)
        have w := q3.2.2.1 (j : Int) u (by omega) u0 u1
        unfold BV at w
        rw [show ((j : Int)).toNat = j from Int.toNat_natCast j] at w
        rw [w]
        exact ⟨fun y => by rcases y with y | y; (exact y); (exact absurd y id), Or.inl⟩
      rw [b59, fc.1.2.2 59 (by decide)]
    · rw [q3.1.2.2 p z1 q z2]
      exact fc.1.2.2 p z4
  · rw [q3.2.1 y x y0 x0 x1]
    unfold CH
    rw [c58]
    exact ⟨fun w => by rcases w with w | w; (exact Or.inl w); (exact Or.inr (Or.inl w)), fun w => by rcases w with w | w | ⟨p, u, p0, p1, _⟩; (exact Or.inl w); (exact Or.inr w); (omega)⟩
  · rw [q3.2.2.2 y x y0 x0 x1]
    unfold BW
    rw [c60]
  · have c63 : s2.2.1 63 = s1.2.1 63 := q3.1.2.2 63 (by decide) (by decide) (by decide)
    rw [c63]
    refine ⟨⟨rfl, rfl, fun p hp => if_neg hp⟩, fun w u w0 w1 u0 => ?_, fun k u k0 k1 u0 => ?_⟩
    · exact fc.2.1 w u w0 w1 u0
    · exact fc.2.2 k u k0 k1 u0
/-- all on which a place hangs directly -/
def HVV (c : Nat) (F : Nat → Nat → Int) (b y x : Int) : Prop := ∃ nm, 0 ≤ nm ∧ nm < b ∧ HVb c F nm 45 y x
def VVV (c : Nat) (F : Nat → Nat → Int) (b y x : Int) : Prop := ∃ nm, 0 ≤ nm ∧ nm < b ∧ VVb c F nm 45 y x
def DHc (c : Nat) (F : Nat → Nat → Int) (y x : Int) : Prop := DWb c F (F c 0) y x ∨ BGb c F (F c 1) y x ∨ HVV c F 10 y x ∨ EAb c F (F c 0) y x ∨ CAb c F (F c 0) 0 y x
/-- tables of the class -/
def TBL (c : Nat) (F : Nat → Nat → Int) (s : ST) : Prop := (∀ y x, 0 ≤ y → y < 585 → 0 ≤ x → x < 585 → (CH s y x ↔ DHc c F y x)) ∧ (∀ y x, 0 ≤ y → y < 40 → 0 ≤ x → x < 64 → (BV s y x ↔ VVV c F 10 y x)) ∧ (∀ y x, 0 ≤ y → y < 40 → 0 ≤ x → x < 64 → (BW s y x ↔ WWb c F (F c 0) y x)) ∧ (∀ p u, 0 ≤ p → p < F c 1 → 0 ≤ u → (bt (s.2.1 61 p.toNat) u ↔ GU c F (F (c + 1) p.toNat) u))
def EQT (s0 s : ST) : Prop := s.1 = s0.1 ∧ s.2.2 = s0.2.2 ∧ ∀ p, p < 58 ∨ 63 < p → s.2.1 p = s0.2.1 p
theorem EQT.tr {s u w : ST} (a : EQT s u) (b : EQT u w) : EQT s w := ⟨b.1.trans a.1, b.2.1.trans a.2.1, fun p h => (b.2.2 p h).trans (a.2.2 p h)⟩
theorem EQH.t {s s' : ST} (h : EQH s s') : EQT s s' := ⟨h.1, h.2.1, fun p hp => h.2.2 p (by omega) (by omega) (by omega)⟩
theorem EQL.t {q : Nat} {s s' : ST} (h : EQL q s s') (h1 : 58 ≤ q) (h2 : q ≤ 63) : EQT s s' := ⟨h.1, h.2.1, fun p hp => h.2.2 p (by omega)⟩
/-- the names, one behind the other -/
def NMb (c : Nat) (b : Int) (s0 s : ST) : Prop := EQT s0 s ∧ (∀ y x, 0 ≤ y → 0 ≤ x → x < 585 → (CH s y x ↔ CH s0 y x ∨ HVV c s0.1 b y x)) ∧ (∀ y x, 0 ≤ y → 0 ≤ x → x < 64 → (BV s y x ↔ BV s0 y x ∨ VVV c s0.1 b y x)) ∧ s.2.1 60 = s0.2.1 60 ∧ s.2.1 61 = s0.2.1 61
theorem HD.w0 {s s' : ST} {A V : Int → Int → Prop} (h : HD s s' A V NO) : s'.2.1 60 = s.2.1 60 := by
  funext j
  refine bt_ext (fun u u0 u1 => ?_)
  have w := h.2.2.2 (j : Int) u (by omega) u0 u1
  unfold BW at w
  rw [show ((j : Int)).toNat = j from Int.toNat_natCast j] at w
  rw [w]
  exact ⟨fun y => by rcases y with y | y; (exact y); (exact absurd y id), Or.inl⟩
theorem EQT.cl {c : Nat} {s s' : ST} (hc : c = 2 ∨ c = 18) (h : EQT s s') (cl : CLB c s) : CLB c s' := fun k k0 k1 => by
  rw [h.1, h.2.2 c (by omega)]
  exact cl k k0 k1
theorem bld_n {c : Nat} {s0 : ST} (hc : c = 2 ∨ c = 18) (f : CFC c s0.1) (h57 : s0.2.2 57 6 = c) (cl : CLB c s0) : ∀ (n m : Nat) (l : Int) (sx : ST), 0 ≤ l → l ≤ 10 → NMb c l s0 sx → 11 - l < (n : Int) → ∃ s1, NMb c 10 s0 s1 ∧ f_X1_build2_ n m l sx = f_X1_tieCalls2 (f_X1_tieEnds2 s1) := by
  intro n
  induction n with
  | zero => intros; omega
  | succ n ih =>
    intro m l sx h0 h1 h hm
    rw [f_X1_build2_]
    by_cases z : 10 ≤ l
    · rw [if_pos z, bd_r, bd_r]
      rw [show l = 10 by omega] at h
      exact ⟨sx, h, rfl⟩
    · rw [if_neg z, bd_r, bd_r]
      obtain ⟨g1, g2, g3, g4, g5⟩ := h
      have e1 : sx.1 = s0.1 := g1.1
      have r : sx.2.2 57 6 = c := by rw [g1.2.1]; exact h57
      have a := ft_ok (nm := l) (s := sx) (c := c) (by rw [e1]; exact f) r
      rw [show f_X1_findTellers2 sx l = f_X1_findTellers2 sx l from rfl] at a
      have ea := a.1.1
      have b := tv_ok (c := c) (nm := l) (s0 := f_X1_findTellers2 sx l) hc h0 (by omega) (by rw [ea, e1]; exact f) (by rw [a.1.2.1]; exact r) (((a.1.t (by decide) (by decide))).cl hc (g1.cl hc cl)) (by rw [ea]; exact a.2)
      rw [ea, e1] at b
      have c58 : (f_X1_findTellers2 sx l).2.1 58 = sx.2.1 58 := a.1.2.2 58 (by decide)
      have c59 : (f_X1_findTellers2 sx l).2.1 59 = sx.2.1 59 := a.1.2.2 59 (by decide)
      have c60 : (f_X1_findTellers2 sx l).2.1 60 = sx.2.1 60 := a.1.2.2 60 (by decide)
      have c61 : (f_X1_findTellers2 sx l).2.1 61 = sx.2.1 61 := a.1.2.2 61 (by decide)
      refine ih 35 (l + 1) _ (by omega) (by omega) ⟨(g1.tr (a.1.t (by decide) (by decide))).tr b.1.t, fun y x y0 x0 x1 => ?_, fun y x y0 x0 x1 => ?_, ?_, ?_⟩ (by omega)
      · rw [b.2.1 y x y0 x0 x1]
        unfold CH at g2 ⊢
        rw [c58, g2 y x y0 x0 x1]
        constructor
        · rintro ((w | ⟨nm, n0, n1, w⟩) | w)
          · exact Or.inl w
          · exact Or.inr ⟨nm, n0, by omega, w⟩
          · exact Or.inr ⟨l, h0, by omega, w⟩
        · rintro (w | ⟨nm, n0, n1, w⟩)
          · exact Or.inl (Or.inl w)
          · by_cases q : nm = l
            · rw [q] at w; exact Or.inr w
            · exact Or.inl (Or.inr ⟨nm, n0, by omega, w⟩)
      · rw [b.2.2.1 y x y0 x0 x1]
        unfold BV at g3 ⊢
        rw [c59, g3 y x y0 x0 x1]
        constructor
        · rintro ((w | ⟨nm, n0, n1, w⟩) | w)
          · exact Or.inl w
          · exact Or.inr ⟨nm, n0, by omega, w⟩
          · exact Or.inr ⟨l, h0, by omega, w⟩
        · rintro (w | ⟨nm, n0, n1, w⟩)
          · exact Or.inl (Or.inl w)
          · by_cases q : nm = l
            · rw [q] at w; exact Or.inr w
            · exact Or.inl (Or.inr ⟨nm, n0, by omega, w⟩)
      · rw [b.w0, c60, g4]
      · rw [b.1.2.2 61 (by decide) (by decide) (by decide), c61, g5]
theorem build_ok {c : Nat} {s : ST} (hc : c = 2 ∨ c = 18) (f : CFC c s.1) (cl : CLB c s) : EQT (sR s 57 6 c) (f_X1_build2 s c) ∧ TBL c s.1 (f_X1_build2 s c) := by
  unfold f_X1_build2
  rw [bd_r, bd_r, bd_r, bd_r, bd_r]
  obtain ⟨s0, hs0⟩ : ∃ z, z = sR s 57 6 c := ⟨_, rfl⟩
  have i0 : s0.1 = s.1 := by rw [hs0]; rfl
  have l0 : s0.2.1 = s.2.1 := by rw [hs0]; rfl
  have r0 : s0.2.2 57 6 = c := by
    rw [hs0]
    show (if 57 = 57 ∧ 6 = 6 then c else s.2.2 57 6) = c
    rw [if_pos ⟨rfl, rfl⟩]
  rw [← hs0]
  have f0 : CFC c s0.1 := by rw [i0]; exact f
  have cl0 : CLB c s0 := fun k k0 k1 => by rw [i0, l0]; exact cl k k0 k1
  have a := fl58 s0 0
  generalize f_J7_fill_d0a16_at582 s0 0 = s1 at a ⊢
  have b := fl59 s1 0
  generalize f_J7_fill_d0a16_at592 s1 0 = s2 at b ⊢
  have d := fl60 s2 0
  generalize f_J7_fill_d0a16_at602 s2 0 = s3 at d ⊢
  have t3 : EQT s0 s3 := ((a.1.t (by decide) (by decide)).tr (b.1.t (by decide) (by decide))).tr (d.1.t (by decide) (by decide))
  have i3 : s3.1 = s.1 := t3.1.trans i0
  have r3 : s3.2.2 57 6 = c := by rw [t3.2.1]; exact r0
  have z58 : ∀ y x, 0 ≤ y → y < 585 → 0 ≤ x → x < 585 → ¬ CH s3 y x := fun y x y0 y1 x0 x1 => by
    unfold CH
    rw [d.1.2.2 58 (by decide), b.1.2.2 58 (by decide), a.2 _ (by omega)]
    exact bt_0
  have z59 : ∀ y x, 0 ≤ y → y < 40 → ¬ BV s3 y x := fun y x y0 y1 => by
    unfold BV
    rw [d.1.2.2 59 (by decide), b.2 _ (by omega)]
    exact bt_0
  have z60 : ∀ y x, 0 ≤ y → y < 40 → ¬ BW s3 y x := fun y x y0 y1 => by
    unfold BW
    rw [d.2 _ (by omega)]
    exact bt_0
  have w := tbw_ok (c := c) (s0 := s3) hc (by rw [i3]; exact f) r3
  rw [i3] at w
  generalize f_X1_tieByWay2 s3 = s4 at w ⊢
  obtain ⟨w1, w2, w3, w4, w5, w6, -⟩ := w
  rw [i3] at w1 w4 w5 w6
  have t4 : EQT s3 s4 := ⟨by rw [w1, i3], w2, fun p hp => w3 p (by omega) (by omega) (by omega) (by omega)⟩
  have r4 : s4.2.2 57 6 = c := by rw [w2]; exact r3
  have cl4 : CLB c s4 := t4.cl hc (t3.cl hc cl0)
  obtain ⟨s5, n5, e5⟩ := bld_n (c := c) (s0 := s4) hc (by rw [w1]; exact f) r4 cl4 49 35 0 s4 (by decide) (by decide) ⟨⟨rfl, rfl, fun _ _ => rfl⟩, fun y x _ _ _ => ⟨Or.inl, fun z => by rcases z with z | ⟨nm, n0, n1, _⟩; (exact z); (omega)⟩, fun y x _ _ _ => ⟨Or.inl, fun z => by rcases z with z | ⟨nm, n0, n1, _⟩; (exact z); (omega)⟩, rfl, rfl⟩ (by omega)
  rw [e5]
  obtain ⟨n1, n2, n3, n4, n6⟩ := n5
  have i5 : s5.1 = s.1 := n1.1.trans w1
  have r5 : s5.2.2 57 6 = c := by rw [n1.2.1]; exact r4
  have e := te_ok (c := c) (s0 := s5) (by rw [i5]; exact f) r5
  generalize f_X1_tieEnds2 s5 = s6 at e ⊢
  have i6 : s6.1 = s.1 := e.1.1.trans i5
  have g := tc_ok (c := c) (s0 := s6) (by rw [i6]; exact f) (by rw [e.1.2.1]; exact r5)
  generalize f_X1_tieCalls2 s6 = s7 at g ⊢
  rw [i5] at e
  rw [i6] at g
  rw [w1] at n2 n3
  refine ⟨(((t3.tr t4).tr n1).tr e.1.t).tr g.1.t, fun y x y0 y1 x0 x1 => ?_, fun y x y0 y1 x0 x1 => ?_, fun y x y0 y1 x0 x1 => ?_, fun p u p0 p1 u0 => ?_⟩
  · rw [g.2.1 y x y0 x0 x1, e.2.1 y x y0 x0 x1, n2 y x y0 x0 x1, w4 y x y0 x0 x1]
    have z := z58 y x y0 y1 x0 x1
    unfold DHc
    constructor
    · rintro (((((q | q | q) | q) | q) | q))
      · exact absurd q z
      · exact Or.inl q
      · exact Or.inr (Or.inl q)
      · exact Or.inr (Or.inr (Or.inl q))
      · exact Or.inr (Or.inr (Or.inr (Or.inl q)))
      · exact Or.inr (Or.inr (Or.inr (Or.inr q)))
    · rintro (q | q | q | q | q)
      · exact Or.inl (Or.inl (Or.inl (Or.inr (Or.inl q))))
      · exact Or.inl (Or.inl (Or.inl (Or.inr (Or.inr q))))
      · exact Or.inl (Or.inl (Or.inr q))
      · exact Or.inl (Or.inr q)
      · exact Or.inr q
  · rw [g.2.2.1 y x y0 x0 x1, e.2.2.1 y x y0 x0 x1, n3 y x y0 x0 x1]
    have z := z59 y x y0 y1
    have c59 : s4.2.1 59 = s3.2.1 59 := w3 59 (by decide) (by decide) (by decide) (by decide)
    unfold BV at z ⊢
    rw [c59]
    exact ⟨fun q => by rcases q with (((q | q) | q) | q); (exact absurd q z); (exact q); (exact absurd q id); (exact absurd q id), fun q => Or.inl (Or.inl (Or.inr q))⟩
  · have c60 : s7.2.1 60 = s4.2.1 60 := by rw [g.w0, e.w0, n4]
    have z := z60 y x y0 y1
    have q := w5 y x y0 x0 x1
    unfold BW at z q ⊢
    rw [c60, q]
    exact ⟨fun q => by rcases q with q | q; (exact absurd q z); (exact q), Or.inr⟩
  · rw [g.1.2.2 61 (by decide) (by decide) (by decide), e.1.2.2 61 (by decide) (by decide) (by decide), n6]
    exact w6 p u p0 p1 u0

