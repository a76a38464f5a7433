/-! on what ends hang, and what is given to a call and brought by it -/
theorem ti1 (s : ST) (u p q : Int) (m : Int64) : (f_X1_tie2 s u p q m).1 = s.1 := rfl
theorem ti2 (s : ST) (u p q : Int) (m : Int64) : (f_X1_tie2 s u p q m).2.2 = s.2.2 := rfl
theorem tie_b {s : ST} {u p q k : Int} (x0 : ST) (u0 : 0 ≤ u) (u1 : u < 45) (p0 : 0 ≤ p) (p1 : p < 13) (q0 : 0 ≤ q) (q1 : q < 13) (k0 : 0 ≤ k) (k1 : k < 45) : HD s (f_X1_tie2 s u p q (f_X7_bit x0 k)) (fun y x => y = 13 * u + p ∧ x = 13 * k + q) NO NO := by
  refine (tie_ok (m := f_X7_bit x0 k) u0 u1 p0 p1 q0 q1).iff (fun y x y0 x0' _ => ?_) (fun _ _ _ _ _ => Iff.rfl) (fun _ _ _ _ _ => Iff.rfl)
  rw [bit_r k0 (by omega) (by omega)]
  constructor
  · rintro ⟨a, b, d⟩
    exact ⟨a, by omega⟩
  · rintro ⟨a, b⟩
    exact ⟨a, by omega, by omega⟩
/-- of one statement: on what the end of its procedure hangs -/
def EA1 (c : Nat) (F : Nat → Nat → Int) (k y x : Int) : Prop := (F (c + 2) k.toNat = 5 ∨ cES c F k) ∧ ((y = 13 * (40 + F (c + 3) k.toNat) + 7 ∧ x = 13 * k + (if F (c + 2) k.toNat = 1 then 7 else 0)) ∨ (FB (F c 4) (F (c + 3) k.toNat) ∧ y = 13 * (40 + F (c + 3) k.toNat) + 8 ∧ x = 13 * k + (if F (c + 2) k.toNat = 1 then 8 else 0)))
def EAb (c : Nat) (F : Nat → Nat → Int) (b y x : Int) : Prop := ∃ k, 0 ≤ k ∧ k < b ∧ EA1 c F k y x
theorem ea_step {c : Nat} {F : Nat → Nat → Int} {b : Int} {s0 sx s' : ST} {A : Int → Int → Prop} (b0 : 0 ≤ b) (h : HD s0 sx (EAb c F b) NO NO) (g : HD sx s' A NO NO) (e : ∀ y x, A y x ↔ EA1 c F b y x) : HD s0 s' (EAb c F (b + 1)) NO NO := by
  refine (h.tr g).iff (fun y x _ _ _ => ?_) (fun y x _ _ _ => ⟨fun w => by rcases w with w | w <;> exact w, Or.inl⟩) (fun y x _ _ _ => ⟨fun w => by rcases w with w | w <;> exact w, Or.inl⟩)
  rw [e]
  constructor
  · rintro (⟨k, k0, k1, w⟩ | w)
    · exact ⟨k, k0, by omega, w⟩
    · exact ⟨b, b0, by omega, w⟩
  · rintro ⟨k, k0, k1, w⟩
    by_cases z : k = b
    · rw [z] at w; exact Or.inr w
    · exact Or.inl ⟨k, k0, by omega, w⟩
theorem te_n {c : Nat} {s0 : ST} (f : CFC c s0.1) (h57 : s0.2.2 57 6 = c) : ∀ (n m : Nat) (l : Int) (sx : ST), 0 ≤ l → l ≤ s0.1 c 0 → HD s0 sx (EAb c s0.1 l) NO NO → 60 - l < (n : Int) → HD s0 (f_X1_tieEnds2_ n m l sx) (EAb c s0.1 (s0.1 c 0)) NO NO := by
  intro n
  have n40 := f.1
  have p5 := f.2.1
  induction n with
  | zero => intros; omega
  | succ n ih =>
    intro m l sx h0 h1 h hm
    have e1 : sx.1 = s0.1 := h.1.1
    have r : sx.2.2 57 6 = c := by rw [h.1.2.1]; exact h57
    rw [f_X1_tieEnds2_]
    simp only [bd_r, ti1, ti2, r, e1]
    by_cases z : s0.1 c 0 ≤ l
    · rw [if_pos z]
      rw [show l = s0.1 c 0 by omega] at h
      exact h
    · rw [if_neg z]
      have e := f.2.2.2.2.1 l h0 (by omega)
      have ow := e.2.2.1
      have fl := fun s : ST => flag_r (s := s) f.2.2.2.1.1 f.2.2.2.1.2 ow.1 (by omega)
      have es := es_r (X := sx) (k := l) (by rw [e1]; exact f) h0 (by rw [e1]; omega)
      rw [e1] at es
      -- one tie, or two
      have fin : ∀ (q1 q2 : Int), 0 ≤ q1 → q1 < 13 → 0 ≤ q2 → q2 < 13 → (s0.1 (c + 2) l.toNat = 5 ∨ cES c s0.1 l) → (q1 = if s0.1 (c + 2) l.toNat = 1 then 7 else 0) → (q2 = if s0.1 (c + 2) l.toNat = 1 then 8 else 0) → HD s0 (if f_X7_has (f_X1_tie2 sx (40 + s0.1 (c + 3) l.toNat) 7 q1 (f_X7_bit sx l)) (o_i2l (s0.1 c 4)) (s0.1 (c + 3) l.toNat) = 0 then f_X1_tieEnds2_ n 2 (l + 1) (f_X1_tie2 sx (40 + s0.1 (c + 3) l.toNat) 7 q1 (f_X7_bit sx l)) else f_X1_tieEnds2_ n 2 (l + 1) (f_X1_tie2 (f_X1_tie2 sx (40 + s0.1 (c + 3) l.toNat) 7 q1 (f_X7_bit sx l)) (40 + s0.1 (c + 3) l.toNat) 8 q2 (f_X7_bit (f_X1_tie2 sx (40 + s0.1 (c + 3) l.toNat) 7 q1 (f_X7_bit sx l)) l))) (EAb c s0.1 (s0.1 c 0)) NO NO := by
        intro q1 q2 q10 q11 q20 q21 hk hq1 hq2
        have a1 := tie_b (s := sx) (u := 40 + s0.1 (c + 3) l.toNat) (p := 7) (q := q1) (k := l) sx (by omega) (by omega) (by decide) (by decide) q10 q11 h0 (by omega)
        have a2 := tie_b (s := f_X1_tie2 sx (40 + s0.1 (c + 3) l.toNat) 7 q1 (f_X7_bit sx l)) (u := 40 + s0.1 (c + 3) l.toNat) (p := 8) (q := q2) (k := l) (f_X1_tie2 sx (40 + s0.1 (c + 3) l.toNat) 7 q1 (f_X7_bit sx l)) (by omega) (by omega) (by decide) (by decide) q20 q21 h0 (by omega)
        have fq := fl (f_X1_tie2 sx (40 + s0.1 (c + 3) l.toNat) 7 q1 (f_X7_bit sx l))
        by_cases y : f_X7_has (f_X1_tie2 sx (40 + s0.1 (c + 3) l.toNat) 7 q1 (f_X7_bit sx l)) (o_i2l (s0.1 c 4)) (s0.1 (c + 3) l.toNat) = 0
        · rw [if_pos y]
          refine ih 2 (l + 1) _ (by omega) (by omega) (ea_step h0 h a1 (fun y' x => ?_)) (by omega)
          unfold EA1
          rw [← hq1]
          exact ⟨fun w => ⟨hk, Or.inl w⟩, fun w => by rcases w.2 with w | w; (exact w); (exact absurd w.1 (fq.mp y))⟩
        · rw [if_neg y]
          have fb : FB (s0.1 c 4) (s0.1 (c + 3) l.toNat) := Classical.byContradiction (fun w => y (fq.mpr w))
          refine ih 2 (l + 1) _ (by omega) (by omega) (ea_step h0 h ((a1.tr a2).iff (fun _ _ _ _ _ => Iff.rfl) (fun y x _ _ _ => ⟨fun w => by rcases w with w | w <;> exact w, Or.inl⟩) (fun y x _ _ _ => ⟨fun w => by rcases w with w | w <;> exact w, Or.inl⟩)) (fun y' x => ?_)) (by omega)
          unfold EA1
          rw [← hq1, ← hq2]
          exact ⟨fun w => ⟨hk, by rcases w with w | w; (exact Or.inl w); (exact Or.inr ⟨fb, w⟩)⟩, fun w => by rcases w.2 with w | w; (exact Or.inl w); (exact Or.inr w.2)⟩
      by_cases y5 : s0.1 (c + 2) l.toNat = 5
      · rw [if_pos y5, if_pos (show ¬ s0.1 (c + 2) l.toNat = 1 by omega)]
        exact fin 0 0 (by decide) (by decide) (by decide) (by decide) (Or.inl y5) (by rw [if_neg (by omega)]) (by rw [if_neg (by omega)])
      · rw [if_neg y5]
        by_cases ye : f_X0_escapes sx c l = 0
        · rw [if_neg (fun w => w ye)]
          refine ih 2 (l + 1) sx (by omega) (by omega) (ea_step (A := NO) h0 h HD.rfl (fun y x => ⟨fun w => absurd w id, fun w => ?_⟩)) (by omega)
          rcases w.1 with w | w
          · exact absurd w y5
          · exact absurd w (es.mp ye)
        · rw [if_pos ye]
          have ce : cES c s0.1 l := Classical.byContradiction (fun w => ye (es.mpr w))
          by_cases y1 : s0.1 (c + 2) l.toNat = 1
          · rw [if_neg (fun w => w y1)]
            exact fin 7 8 (by decide) (by decide) (by decide) (by decide) (Or.inr ce) (by rw [if_pos y1]) (by rw [if_pos y1])
          · rw [if_pos y1]
            exact fin 0 0 (by decide) (by decide) (by decide) (by decide) (Or.inr ce) (by rw [if_neg y1]) (by rw [if_neg y1])
theorem te_ok {c : Nat} {s0 : ST} (f : CFC c s0.1) (h57 : s0.2.2 57 6 = c) : HD s0 (f_X1_tieEnds2 s0) (EAb c s0.1 (s0.1 c 0)) NO NO := by
  unfold f_X1_tieEnds2
  exact te_n f h57 139 2 0 s0 (by omega) f.1.1 (HD.rfl.iff (fun y x _ _ _ => ⟨fun w => absurd w id, fun ⟨k, k0, k1, _⟩ => by omega⟩) (fun _ _ _ _ _ => Iff.rfl) (fun _ _ _ _ _ => Iff.rfl)) (by omega)
/-- calls: places below b, of call l below part q -/
def CAb (c : Nat) (F : Nat → Nat → Int) (l q y x : Int) : Prop := ∃ k p, 0 ≤ k ∧ (k < l ∨ (k = l ∧ p < q)) ∧ k < F c 0 ∧ F (c + 2) k.toNat = 1 ∧ 1 ≤ p ∧ p < 13 ∧ y = 13 * k + p ∧ x = 13 * k
theorem tc_n {c : Nat} {s0 : ST} (f : CFC c s0.1) (h57 : s0.2.2 57 6 = c) : ∀ n : Nat,
    (∀ (l q : Int) (sx : ST), 0 ≤ l → l ≤ s0.1 c 0 → HD s0 sx (CAb c s0.1 l 0) NO NO → 20 * (41 - l) < (n : Int) → HD s0 (f_X1_tieCalls2_ n 2 l q sx) (CAb c s0.1 (s0.1 c 0) 0) NO NO) ∧
    (∀ (l q : Int) (sx : ST), 0 ≤ l → l < s0.1 c 0 → s0.1 (c + 2) l.toNat = 1 → 1 ≤ q → q ≤ 13 → HD s0 sx (CAb c s0.1 l q) NO NO → 20 * (41 - l) - q < (n : Int) → HD s0 (f_X1_tieCalls2_ n 28 l q sx) (CAb c s0.1 (s0.1 c 0) 0) NO NO) := by
  intro n
  have n40 := f.1
  induction n with
  | zero => exact ⟨by intros; omega, by intros; omega⟩
  | succ n ih =>
    refine ⟨fun l q sx h0 h1 h hm => ?_, fun l q sx h0 h1 hk q0 q1 h hm => ?_⟩
    · have e1 : sx.1 = s0.1 := h.1.1
      have r : sx.2.2 57 6 = c := by rw [h.1.2.1]; exact h57
      rw [f_X1_tieCalls2_, if_pos rfl]
      simp only [bd_r, r, e1]
      by_cases z : s0.1 c 0 ≤ l
      · rw [if_pos z]
        rw [show l = s0.1 c 0 by omega] at h
        exact h
      · rw [if_neg z]
        by_cases y : s0.1 (c + 2) l.toNat = 1
        · rw [if_neg (fun w => w y)]
          refine ih.2 l 1 sx h0 (by omega) y (by omega) (by omega) (h.iff (fun y' x _ _ _ => ?_) (fun _ _ _ _ _ => Iff.rfl) (fun _ _ _ _ _ => Iff.rfl)) (by omega)
          exact ⟨fun ⟨k, p, w1, w2, w3, w4, w5, w6⟩ => ⟨k, p, w1, by omega, w3, w4, w5, w6⟩, fun ⟨k, p, w1, w2, w3, w4, w5, w6⟩ => ⟨k, p, w1, by omega, w3, w4, w5, w6⟩⟩
        · rw [if_pos y]
          refine ih.1 (l + 1) 0 sx (by omega) (by omega) (h.iff (fun y' x _ _ _ => ?_) (fun _ _ _ _ _ => Iff.rfl) (fun _ _ _ _ _ => Iff.rfl)) (by omega)
          refine ⟨fun ⟨k, p, w1, w2, w3, w4, w5, w6⟩ => ⟨k, p, w1, by omega, w3, w4, w5, w6⟩, fun ⟨k, p, w1, w2, w3, w4, w5, w6⟩ => ⟨k, p, w1, ?_, w3, w4, w5, w6⟩⟩
          have : k ≠ l := fun g => y (by rw [← g]; exact w4)
          omega
    · have e1 : sx.1 = s0.1 := h.1.1
      rw [f_X1_tieCalls2_, if_neg (by decide)]
      simp only [bd_r]
      by_cases z : 13 ≤ q
      · rw [if_pos z]
        refine ih.1 (l + 1) 0 sx (by omega) (by omega) (h.iff (fun y' x _ _ _ => ?_) (fun _ _ _ _ _ => Iff.rfl) (fun _ _ _ _ _ => Iff.rfl)) (by omega)
        exact ⟨fun ⟨k, p, w1, w2, w3, w4, w5, w6⟩ => ⟨k, p, w1, by omega, w3, w4, w5, w6⟩, fun ⟨k, p, w1, w2, w3, w4, w5, w6⟩ => ⟨k, p, w1, by omega, w3, w4, w5, w6⟩⟩
      · rw [if_neg z]
        have a := tie_b (s := sx) (u := l) (p := q) (q := 0) (k := l) sx h0 (by omega) (by omega) (by omega) (by decide) (by decide) h0 (by omega)
        refine ih.2 l (q + 1) _ h0 h1 hk (by omega) (by omega) ((h.tr a).iff (fun y' x _ _ _ => ?_) (fun y x _ _ _ => ⟨fun w => by rcases w with w | w <;> exact w, Or.inl⟩) (fun y x _ _ _ => ⟨fun w => by rcases w with w | w <;> exact w, Or.inl⟩)) (by omega)
        constructor
        · rintro (⟨k, p, w1, w2, w3, w4, w5, w6⟩ | ⟨w1, w2⟩)
          · exact ⟨k, p, w1, by omega, w3, w4, w5, w6⟩
          · exact ⟨l, q, h0, by omega, h1, hk, q0, by omega, w1, by omega⟩
        · rintro ⟨k, p, w1, w2, w3, w4, w5, w6, w7, w8⟩
          by_cases g : k = l ∧ p = q
          · exact Or.inr ⟨by rw [w7, g.1, g.2], by rw [w8, g.1]; omega⟩
          · exact Or.inl ⟨k, p, w1, by omega, w3, w4, w5, w6, w7, w8⟩
theorem tc_ok {c : Nat} {s0 : ST} (f : CFC c s0.1) (h57 : s0.2.2 57 6 = c) : HD s0 (f_X1_tieCalls2 s0) (CAb c s0.1 (s0.1 c 0) 0) NO NO := by
  unfold f_X1_tieCalls2
  refine (tc_n f h57 1903).1 0 0 s0 (by omega) f.1.1 (HD.rfl.iff (fun y x _ _ _ => ⟨fun w => absurd w id, fun ⟨k, p, k0, k1, _⟩ => by omega⟩) (fun _ _ _ _ _ => Iff.rfl) (fun _ _ _ _ _ => Iff.rfl)) (by omega)

