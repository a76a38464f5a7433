/-! by way, in the reference: what begins hang, what calls hang; all of it -/
section E
variable {c : Nat} {S : Int} {F : Nat → Nat → Int}
theorem WYR.b {sA s : ST} {A W : Int → Int → Prop} (h : WYR c F sA s A W) {j : Nat} {v : Int64} : WYR c F sA (sL s 107 j v) A W := ⟨h.1, h.2.1, fun q q1 q2 => by rw [sL_nc q2]; exact h.2.2.1 q q1 q2, h.2.2.2.1, fun y x a b d => by rw [sL_nc (show 105 ≠ 107 by decide)]; exact h.2.2.2.2 y x a b d⟩
def BGI (c : Nat) (F : Nat → Nat → Int) (p i y x : Int) : Prop := ∃ u, 0 ≤ u ∧ u < i ∧ u < F c 0 ∧ GU c F (F (c + 1) p.toNat) u ∧ y = 13 * u ∧ x = 13 * (40 + p)
def BEG (c : Nat) (F : Nat → Nat → Int) (b : Int) (s : ST) : Prop := ∀ p u, 0 ≤ p → p < b → 0 ≤ u → (bt (s.2.1 107 p.toNat) u ↔ GU c F (F (c + 1) p.toNat) u)
theorem BGI.step {p i y x : Int} (i0 : 0 ≤ i) (i1 : i < F c 0) : BGI c F p (i + 1) y x ↔ BGI c F p i y x ∨ (GU c F (F (c + 1) p.toNat) i ∧ y = 13 * i ∧ x = 13 * (40 + p)) := by
  unfold BGI
  constructor
  · rintro ⟨u, u0, u1, u2, g, a⟩
    by_cases q : u = i
    · rw [q] at g a
      exact Or.inr ⟨g, a⟩
    · exact Or.inl ⟨u, u0, by omega, u2, g, a⟩
  · rintro (⟨u, u0, u1, u2, g, a⟩ | ⟨g, a⟩)
    · exact ⟨u, u0, by omega, u2, g, a⟩
    · exact ⟨i, i0, by omega, i1, g, a⟩
theorem BGb.step {p y x : Int} (p0 : 0 ≤ p) : BGb c F (p + 1) y x ↔ BGb c F p y x ∨ BGI c F p (F c 0) y x := by
  unfold BGb BGI
  constructor
  · rintro ⟨p', u, q0, q1, u0, u1, g, a1, a2⟩
    by_cases q : p' = p
    · rw [q] at g a2
      exact Or.inr ⟨u, u0, u1, u1, g, a1, a2⟩
    · exact Or.inl ⟨p', u, q0, by omega, u0, u1, g, a1, a2⟩
  · rintro (⟨p', u, q0, q1, u0, u1, g, a1, a2⟩ | ⟨u, u0, u1, u2, g, a1, a2⟩)
    · exact ⟨p', u, q0, by omega, u0, u1, g, a1, a2⟩
    · exact ⟨p, u, p0, by omega, u0, u1, g, a1, a2⟩
theorem wy_b {sA : ST} {A0 W : Int → Int → Prop} (hr0 : RS F sA) (hS : F 70 6 = S) (b : BRI c S F) (ho : OREST c F sA) : ∀ n : Nat,
    (∀ (p : Int) (a : Int64) (a5 a3 : Int) (s : ST), 0 ≤ p → p ≤ F c 1 → WYR c F sA s (fun y x => A0 y x ∨ BGb c F p y x) W → BEG c F p s → 900 + 50 * (5 - p) + 49 < (n : Int) → ∃ (n' : Nat) (s1 : ST), 850 < (n' : Int) ∧ WYR c F sA s1 (fun y x => A0 y x ∨ BGb c F (F c 1) y x) W ∧ BEG c F (F c 1) s1 ∧ f_X8_laysWay2_ n 285 0 p a a5 a3 s = f_X8_laysWay2_ n' 377 0 0 0 0 0 s1) ∧
    (∀ (p i : Int) (a : Int64) (a5 : Int) (s : ST), 0 ≤ p → p < F c 1 → 0 ≤ i → i ≤ F c 0 → WYR c F sA s (fun y x => (A0 y x ∨ BGb c F p y x) ∨ BGI c F p i y x) W → BEG c F (p + 1) s → 900 + 50 * (5 - p) + 48 - i < (n : Int) → ∃ (n' : Nat) (s1 : ST), 850 < (n' : Int) ∧ WYR c F sA s1 (fun y x => A0 y x ∨ BGb c F (F c 1) y x) W ∧ BEG c F (F c 1) s1 ∧ f_X8_laysWay2_ n 323 0 p a a5 i s = f_X8_laysWay2_ n' 377 0 0 0 0 0 s1) := by
  have f := b.2.2.2.2.1
  have n40 := f.1
  have p5 := f.2.1
  intro n
  induction n with
  | zero => exact ⟨by intros; omega, by intros; omega⟩
  | succ n ih =>
    refine ⟨fun p a a5 a3 s p0 p1 h hb hm => ?_, fun p i a a5 s p0 p1 i0 i1 h hb hm => ?_⟩
    · have r := h.rs hr0
      rw [f_X8_laysWay2_, if_neg (by decide), if_neg (by decide), if_neg (by decide), if_neg (by decide), if_neg (by decide), if_neg (by decide), if_pos rfl, bd_r, bd_r, r.g (q := 70) (j := 6) (by omega), hS, r.g (q := 76) (by omega), b.2.2.2.1]
      by_cases z : F c 1 ≤ p
      · rw [if_pos z]
        have e : p = F c 1 := by omega
        rw [e] at h hb
        exact ⟨n, s, by omega, h, hb, rfl⟩
      · rw [if_neg z, bd_r, bd_r, bd_r, r.g (q := 100) (by omega)]
        have br := b.2.2.2.2.2.2.1 p p0 (show p < F c 1 by omega)
        have uo := f.2.2.2.2.2 p p0 (show p < F c 1 by omega)
        refine ih.2 p 0 0 0 _ p0 (by omega) (by omega) n40.1 (h.b.iff (fun y x _ _ _ => ⟨Or.inl, fun w => by rcases w with w | ⟨u, u0, u1, _⟩; (exact w); (omega)⟩) (fun _ _ _ _ _ => Iff.rfl)) (fun p' u w1 w2 u0 => ?_) (by omega)
        by_cases q : p' = p
        · rw [q, sL_eq, on_r b (o := p) p0 br.2.1 br.2.2.1, br.1]
          exact oa_gu (h.or ho) n40.2 p0 uo u0
        · rw [sL_ne (by omega)]
          exact hb p' u w1 (by omega) u0
    · have r := h.rs hr0
      rw [f_X8_laysWay2_, if_neg (by decide), if_neg (by decide), if_neg (by decide), if_neg (by decide), if_neg (by decide), if_neg (by decide), if_neg (by decide), if_pos rfl, bd_r, bd_r, r.g (q := 70) (j := 6) (by omega), hS, r.g (q := 75) (by omega), b.2.2.1]
      by_cases z : F c 0 ≤ i
      · rw [if_pos z]
        have e : i = F c 0 := by omega
        refine ih.1 (p + 1) 0 0 0 s (by omega) (by omega) (h.iff (fun y x _ _ _ => ?_) (fun _ _ _ _ _ => Iff.rfl)) hb (by omega)
        rw [BGb.step p0, e]
        exact or_assoc
      · rw [if_neg z, bd_r, bd_r]
        have i1' : i < F c 0 := by omega
        have hx := has2_r (s := s) (x := s.2.1 107 p.toNat) i0 (show i ≤ 63 by omega)
        rw [hb p i p0 (by omega) i0] at hx
        by_cases y : f_X8_has2 s (s.2.1 107 p.toNat) i = 0
        · rw [if_pos y]
          have nb := hx.mp y
          refine ih.2 p (i + 1) 0 0 s p0 p1 (by omega) (by omega) (h.iff (fun y' x _ _ _ => ?_) (fun _ _ _ _ _ => Iff.rfl)) hb (by omega)
          refine or_congr Iff.rfl ?_
          rw [BGI.step i0 i1']
          exact ⟨Or.inl, fun w => by rcases w with w | w; (exact w); (exact absurd w.1 nb)⟩
        · rw [if_neg y, bd_r, bd_r, bd_r]
          have yb : GU c F (F (c + 1) p.toNat) i := Classical.byContradiction (fun w => y (hx.mpr w))
          unfold f_X8_statementPlace2 f_X8_procedurePlace2
          refine ih.2 p (i + 1) 0 0 _ p0 p1 (by omega) (by omega) ((h.hang (y := 13 * i + 0) (x := 520 + 13 * p + 0) (by omega) (by omega) (by omega)).iff (fun y' x _ _ _ => ?_) (fun _ _ _ _ _ => Iff.rfl)) (fun p' u w1 w2 u0 => ?_) (by omega)
          · rw [BGI.step i0 i1']
            constructor
            · rintro ((w | w) | ⟨w1, w2⟩)
              · exact Or.inl w
              · exact Or.inr (Or.inl w)
              · exact Or.inr (Or.inr ⟨yb, by omega, by omega⟩)
            · rintro (w | w | ⟨_, w1, w2⟩)
              · exact Or.inl (Or.inl w)
              · exact Or.inl (Or.inr w)
              · exact Or.inr ⟨by omega, by omega⟩
          · rw [hang_2]
            exact hb p' u w1 w2 u0
theorem CAb.step {k q y x : Int} (k0 : 0 ≤ k) (k1 : k < F c 0) (z : F (c + 2) k.toNat = 1) (q1 : 1 ≤ q) (q2 : q < 13) : CAb c F k (q + 1) y x ↔ CAb c F k q y x ∨ (y = 13 * k + q ∧ x = 13 * k) := by
  unfold CAb
  constructor
  · rintro ⟨k', p, a0, a1, a2, a3, a4, a5, a6, a7⟩
    by_cases e : k' = k ∧ p = q
    · rw [e.1, e.2] at a6
      rw [e.1] at a7
      exact Or.inr ⟨a6, a7⟩
    · exact Or.inl ⟨k', p, a0, by omega, a2, a3, a4, a5, a6, a7⟩
  · rintro (⟨k', p, a0, a1, a2, a3, a4, a5, a6, a7⟩ | ⟨a6, a7⟩)
    · exact ⟨k', p, a0, by omega, a2, a3, a4, a5, a6, a7⟩
    · exact ⟨k, q, k0, by omega, k1, z, q1, q2, a6, a7⟩
theorem CAb.next {k q y x : Int} (h : 13 ≤ q ∨ ¬ F (c + 2) k.toNat = 1) : CAb c F k q y x ↔ CAb c F (k + 1) 0 y x := by
  unfold CAb
  constructor
  · rintro ⟨k', p, a0, a1, a2, a3, a4, a5, a6, a7⟩
    exact ⟨k', p, a0, by omega, a2, a3, a4, a5, a6, a7⟩
  · rintro ⟨k', p, a0, a1, a2, a3, a4, a5, a6, a7⟩
    refine ⟨k', p, a0, ?_, a2, a3, a4, a5, a6, a7⟩
    by_cases e : k' = k
    · rcases h with g | g
      · omega
      · rw [e] at a3
        exact absurd a3 g
    · omega
theorem CAb.one {k y x : Int} : CAb c F k 0 y x ↔ CAb c F k 1 y x := by
  unfold CAb
  constructor
  · rintro ⟨k', p, a0, a1, a2, a3, a4, a5, a6, a7⟩
    exact ⟨k', p, a0, by omega, a2, a3, a4, a5, a6, a7⟩
  · rintro ⟨k', p, a0, a1, a2, a3, a4, a5, a6, a7⟩
    exact ⟨k', p, a0, by omega, a2, a3, a4, a5, a6, a7⟩
theorem wy_c {sA : ST} {A0 W : Int → Int → Prop} (hr0 : RS F sA) (hS : F 70 6 = S) (b : BRI c S F) : ∀ n : Nat,
    (∀ (k : Int) (a : Int64) (a5 a3 : Int) (s : ST), 0 ≤ k → k ≤ F c 0 → WYR c F sA s (fun y x => A0 y x ∨ CAb c F k 0 y x) W → BEG c F (F c 1) s → 20 * (40 - k) + 19 < (n : Int) → WYR c F sA (f_X8_laysWay2_ n 377 0 k a a5 a3 s) (fun y x => A0 y x ∨ CAb c F (F c 0) 0 y x) W ∧ BEG c F (F c 1) (f_X8_laysWay2_ n 377 0 k a a5 a3 s)) ∧
    (∀ (k q : Int) (a : Int64) (a5 : Int) (s : ST), 0 ≤ k → k < F c 0 → 1 ≤ q → q ≤ 13 → WYR c F sA s (fun y x => A0 y x ∨ CAb c F k q y x) W → BEG c F (F c 1) s → 20 * (40 - k) + 18 - q < (n : Int) → WYR c F sA (f_X8_laysWay2_ n 392 0 k a a5 q s) (fun y x => A0 y x ∨ CAb c F (F c 0) 0 y x) W ∧ BEG c F (F c 1) (f_X8_laysWay2_ n 392 0 k a a5 q s)) := by
  have f := b.2.2.2.2.1
  have n40 := f.1
  intro n
  induction n with
  | zero => exact ⟨by intros; omega, by intros; omega⟩
  | succ n ih =>
    refine ⟨fun k a a5 a3 s k0 k1 h hb hm => ?_, fun k q a a5 s k0 k1 q1 q2 h hb hm => ?_⟩
    · have r := h.rs hr0
      rw [f_X8_laysWay2_, if_neg (by decide), if_neg (by decide), if_neg (by decide), if_neg (by decide), if_neg (by decide), if_neg (by decide), if_neg (by decide), if_neg (by decide), if_pos rfl, bd_r, bd_r, r.g (q := 70) (j := 6) (by omega), hS, r.g (q := 75) (by omega), b.2.2.1]
      by_cases z : F c 0 ≤ k
      · rw [if_pos z]
        have e : k = F c 0 := by omega
        rw [e] at h
        exact ⟨h, hb⟩
      · rw [if_neg z]
        exact ih.2 k 1 0 0 s k0 (by omega) (by omega) (by omega) (h.iff (fun _ _ _ _ _ => or_congr Iff.rfl CAb.one) (fun _ _ _ _ _ => Iff.rfl)) hb (by omega)
    · have r := h.rs hr0
      rw [f_X8_laysWay2_, if_neg (by decide), if_neg (by decide), if_neg (by decide), if_neg (by decide), if_neg (by decide), if_neg (by decide), if_neg (by decide), if_neg (by decide), if_neg (by decide)]
      have nx : (13 ≤ q ∨ ¬ F (c + 2) k.toNat = 1) → WYR c F sA s (fun y x => A0 y x ∨ CAb c F (k + 1) 0 y x) W := fun w => h.iff (fun _ _ _ _ _ => or_congr Iff.rfl (CAb.next w)) (fun _ _ _ _ _ => Iff.rfl)
      by_cases z : 13 ≤ q
      · rw [if_pos z]
        exact ih.1 (k + 1) 0 0 0 s (by omega) (by omega) (nx (Or.inl z)) hb (by omega)
      · rw [if_neg z, bd_r, kind_r8 r hS b k0 k1]
        by_cases y : F (c + 2) k.toNat = 1
        · rw [if_neg (fun w => w y), bd_r, bd_r, bd_r]
          unfold f_X8_statementPlace2
          refine ih.2 k (q + 1) 0 0 _ k0 k1 (by omega) (by omega) ((h.hang (y := 13 * k + q) (x := 13 * k + 0) (by omega) (by omega) (by omega)).iff (fun y' x _ _ _ => ?_) (fun _ _ _ _ _ => Iff.rfl)) (fun p' u w1 w2 u0 => ?_) (by omega)
          · rw [CAb.step k0 k1 y q1 (by omega)]
            constructor
            · rintro ((w | w) | ⟨w1, w2⟩)
              · exact Or.inl w
              · exact Or.inr (Or.inl w)
              · exact Or.inr (Or.inr ⟨w1, by omega⟩)
            · rintro (w | w | ⟨w1, w2⟩)
              · exact Or.inl (Or.inl w)
              · exact Or.inl (Or.inr w)
              · exact Or.inr ⟨w1, by omega⟩
          · rw [hang_2]
            exact hb p' u w1 w2 u0
        · rw [if_pos y]
          exact ih.1 (k + 1) 0 0 0 s (by omega) (by omega) (nx (Or.inr y)) hb (by omega)
/-- what laysWay leaves -/
def WAP (c : Nat) (F : Nat → Nat → Int) (s0 s : ST) : Prop := (∀ q, q ≠ 103 → s.1 q = s0.1 q) ∧ s.2.2 = s0.2.2 ∧ (∀ q, q ≠ 105 → q ≠ 106 → q ≠ 107 → s.2.1 q = s0.2.1 q) ∧ (∀ y x, 0 ≤ y → 0 ≤ x → x < 608 → (RH s y x ↔ RH s0 y x ∨ DWb c F (F c 0) y x ∨ BGb c F (F c 1) y x ∨ CAb c F (F c 0) 0 y x)) ∧ (∀ y x, 0 ≤ y → y < F c 0 → 0 ≤ x → (bt (s.2.1 105 y.toNat) x ↔ WWb c F (F c 0) y x)) ∧ BEG c F (F c 1) s
theorem way_ok {s0 : ST} (hr : RS F s0) (hS : F 70 6 = S) (b : BRI c S F) (h01 : H01 F) : WAP c F s0 (f_X8_laysWay2 s0) := by
  have f := b.2.2.2.2.1
  have n40 := f.1
  have p5 := f.2.1
  have bg := BG_le 2000000000000000000000001
  unfold f_X8_laysWay2
  obtain ⟨n1, s1, m1, o1, e1⟩ := or_i hr hS b h01 (BG 2000000000000000000000001) 0 0 0 0 0 s0 (by decide) (by decide) ⟨rfl, rfl, fun _ _ => rfl⟩ (fun k' w1 w2 => by omega) (by omega)
  rw [e1]
  have r1 := hr.q o1.1.1
  obtain ⟨n2, s2, m2, q2, z2, e2⟩ := wy_z r1 hS b n1 0 0 0 0 s1 (by decide) n40.1 ⟨rfl, rfl, fun _ _ => rfl⟩ (fun k' w1 w2 => by omega) (by omega)
  rw [e2]
  have r2 := r1.q q2.1
  have ho : OREST c F s2 := fun k u a b' d => by
    have := o1.2 k u a b' d
    unfold OB1 at this ⊢
    rw [q2.2.2 106 (by decide)]
    exact this
  obtain ⟨n3, s3, m3, w3, e3⟩ := (wy_n r2 hS b h01 ho n2).1 0 0 0 0 s2 (by decide) n40.1 ⟨fun _ _ => rfl, rfl, fun _ _ _ => rfl, fun y x _ _ _ => ⟨Or.inl, fun w => by rcases w with w | ⟨k', u, w, _⟩; (exact w); (unfold PDC at w; omega)⟩, fun y x y0 y1 x0 => by
    rw [z2 y y0 y1]
    exact ⟨fun w => absurd w bt_0, fun w => by unfold PDC at w; omega⟩⟩ (by omega)
  rw [e3]
  obtain ⟨n4, s4, m4, w4, b4, e4⟩ := (wy_b r2 hS b ho n3).1 0 0 0 0 s3 (by decide) p5.1 (w3.iff (fun y x _ _ _ => ⟨Or.inl, fun w => by rcases w with w | ⟨p', u, q0, q1, _⟩; (exact w); (omega)⟩) (fun _ _ _ _ _ => Iff.rfl)) (fun p' u w1 w2 _ => by omega) (by omega)
  rw [e4]
  have h5 := (wy_c r2 hS b n4).1 0 0 0 0 s4 (by decide) n40.1 (w4.iff (fun y x _ _ _ => ⟨Or.inl, fun w => by rcases w with w | ⟨k', p', a0, a1, a2, a3, a4, _⟩; (exact w); (omega)⟩) (fun _ _ _ _ _ => Iff.rfl)) b4 (by omega)
  generalize f_X8_laysWay2_ n4 377 0 0 0 0 0 s4 = s5 at h5 ⊢
  obtain ⟨⟨a1, a2, a3, a4, a5⟩, a6⟩ := h5
  refine ⟨fun q hq => ?_, ?_, fun q h1 h2 h3 => ?_, fun y x y0 x0 x1 => ?_, fun y x y0 y1 x0 => ?_, a6⟩
  · rw [a1 q hq, q2.1, o1.1.1]
  · rw [a2, q2.2.1, o1.1.2.1]
  · rw [a3 q h1 h3, q2.2.2 q h1, o1.1.2.2 q h2]
  · rw [a4 y x y0 x0 x1]
    have e : RH s2 y x ↔ RH s0 y x := by
      unfold RH
      rw [q2.1, o1.1.1]
    rw [e]
    have d : PDA c F (F c 0) 0 y x ↔ DWb c F (F c 0) y x := by
      unfold PDA PDC DWb
      constructor
      · rintro ⟨k', u, ⟨w, c0, c1, c2, c3, c4⟩, g1, g2⟩
        exact ⟨k', u, c0, c1, c2, c3, c4, g1, g2⟩
      · rintro ⟨k', u, c0, c1, c2, c3, c4, g1, g2⟩
        exact ⟨k', u, ⟨Or.inl c1, c0, c1, c2, c3, c4⟩, g1, g2⟩
    dsimp only
    rw [d]
    constructor
    · rintro (w | (w | w) | w)
      · exact Or.inl w
      · exact Or.inr (Or.inl w)
      · exact Or.inr (Or.inr (Or.inl w))
      · exact Or.inr (Or.inr (Or.inr w))
    · rintro (w | w | w | w)
      · exact Or.inl w
      · exact Or.inr (Or.inl (Or.inl w))
      · exact Or.inr (Or.inl (Or.inr w))
      · exact Or.inr (Or.inr w)
  · rw [a5 y x y0 y1 x0]
    show PDC c F (F c 0) 0 x y ↔ WWb c F (F c 0) y x
    unfold PDC WWb
    constructor
    · rintro ⟨w, c0, c1, c2, c3, c4⟩
      exact ⟨c3, c1, c4⟩
    · rintro ⟨c3, c1, c4⟩
      exact ⟨Or.inl c1, x0, c1, y0, c3, c4⟩
end E
