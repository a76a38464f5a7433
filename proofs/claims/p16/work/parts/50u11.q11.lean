/-! on what each place hangs by way, in the class -/
def TAb (b l4 l3 : Int) (m : Int64) (y x : Int) : Prop := ∃ k, 0 ≤ k ∧ k < b ∧ bt m k ∧ y = 13 * k ∧ x = 13 * l4 + l3
theorem ta_n {c : Nat} {s0 : ST} {m : Int64} {l3 l4 : Int} (f : CFC c s0.1) (h57 : s0.2.2 57 6 = c) (q0 : 0 ≤ l3) (q1 : l3 < 13) (r0 : 0 ≤ l4) (r1 : l4 < 45) : ∀ (n g : Nat) (l : Int) (sx : ST), 0 ≤ l → l ≤ s0.1 c 0 → HD s0 sx (TAb l l4 l3 m) NO NO → 60 - l < (n : Int) → HD s0 (f_X1_tieAll2_ n g m l3 l4 l sx) (TAb (s0.1 c 0) l4 l3 m) NO NO := by
  intro n
  have n40 := f.1
  induction n with
  | zero => intros; omega
  | succ n ih =>
    intro g l sx h0 h1 h hm
    have e1 : sx.1 = s0.1 := h.1.1
    have r : sx.2.2 57 6 = c := by rw [h.1.2.1]; exact h57
    rw [f_X1_tieAll2_]
    simp only [bd_r, r, e1]
    by_cases z : s0.1 c 0 ≤ l
    · rw [if_pos z]
      rw [show l = s0.1 c 0 by omega] at h
      exact h
    · rw [if_neg z]
      have hb := has_r (s := sx) (x := m) (k := l) h0 (by omega)
      by_cases y : f_X7_has sx m l = 0
      · rw [if_pos y]
        refine ih 3 (l + 1) sx (by omega) (by omega) (h.iff (fun y' x _ _ _ => ?_) (fun _ _ _ _ _ => Iff.rfl) (fun _ _ _ _ _ => Iff.rfl)) (by omega)
        refine ⟨fun ⟨k, k0, k1, w⟩ => ⟨k, k0, by omega, w⟩, fun ⟨k, k0, k1, w⟩ => ⟨k, k0, ?_, w⟩⟩
        have : k ≠ l := fun q => hb.mp y (by rw [← q]; exact w.1)
        omega
      · rw [if_neg y]
        have bl : bt m l := Classical.byContradiction (fun w => y (hb.mpr w))
        have a := tie_b (s := sx) (u := l) (p := 0) (q := l3) (k := l4) sx h0 (by omega) (by decide) (by decide) q0 q1 r0 r1
        refine ih 3 (l + 1) _ (by omega) (by omega) ((h.tr a).iff (fun y' x _ _ _ => ?_) (fun y x _ _ _ => ⟨fun w => by rcases w with w | w <;> exact w, Or.inl⟩) (fun y x _ _ _ => ⟨fun w => by rcases w with w | w <;> exact w, Or.inl⟩)) (by omega)
        constructor
        · rintro (⟨k, k0, k1, w⟩ | ⟨w1, w2⟩)
          · exact ⟨k, k0, by omega, w⟩
          · exact ⟨l, h0, by omega, bl, by omega, w2⟩
        · rintro ⟨k, k0, k1, w1, w2, w3⟩
          by_cases q : k = l
          · exact Or.inr ⟨by omega, w3⟩
          · exact Or.inl ⟨k, k0, by omega, w1, w2, w3⟩
theorem ta_ok {c : Nat} {s0 : ST} {m : Int64} {l3 l4 : Int} (f : CFC c s0.1) (h57 : s0.2.2 57 6 = c) (q0 : 0 ≤ l3) (q1 : l3 < 13) (r0 : 0 ≤ l4) (r1 : l4 < 45) : HD s0 (f_X1_tieAll2 s0 m l3 l4) (TAb (s0.1 c 0) l4 l3 m) NO NO := by
  unfold f_X1_tieAll2
  exact ta_n f h57 q0 q1 r0 r1 139 3 0 s0 (by decide) f.1.1 (HD.rfl.iff (fun y x _ _ _ => ⟨fun w => absurd w id, fun ⟨k, k0, k1, _⟩ => by omega⟩) (fun _ _ _ _ _ => Iff.rfl) (fun _ _ _ _ _ => Iff.rfl)) (by omega)
def TDb (b k : Int) (m : Int64) (y x : Int) : Prop := y < b ∧ bt m y ∧ x = k
theorem td_n {c : Nat} {s0 : ST} {m : Int64} {l1 : Int} (f : CFC c s0.1) (h57 : s0.2.2 57 6 = c) (r0 : 0 ≤ l1) (r1 : l1 < 45) : ∀ (n g : Nat) (l : Int) (sx : ST), 0 ≤ l → l ≤ s0.1 c 0 → HD s0 sx NO NO (TDb l l1 m) → 60 - l < (n : Int) → HD s0 (f_X1_tieDecided2_ n g l1 m l sx) NO NO (TDb (s0.1 c 0) l1 m) := by
  intro n
  have n40 := f.1
  induction n with
  | zero => intros; omega
  | succ n ih =>
    intro g l sx h0 h1 h hm
    have e1 : sx.1 = s0.1 := h.1.1
    have r : sx.2.2 57 6 = c := by rw [h.1.2.1]; exact h57
    rw [f_X1_tieDecided2_]
    simp only [bd_r, r, e1]
    by_cases z : s0.1 c 0 ≤ l
    · rw [if_pos z]
      rw [show l = s0.1 c 0 by omega] at h
      exact h
    · rw [if_neg z]
      have hb := has_r (s := sx) (x := m) (k := l) h0 (by omega)
      by_cases y : f_X7_has sx m l = 0
      · rw [if_pos y]
        refine ih 28 (l + 1) sx (by omega) (by omega) (h.iff (fun _ _ _ _ _ => Iff.rfl) (fun _ _ _ _ _ => Iff.rfl) (fun y' x _ _ _ => ?_)) (by omega)
        refine ⟨fun ⟨w1, w⟩ => ⟨by omega, w⟩, fun ⟨w1, w⟩ => ⟨?_, w⟩⟩
        have : y' ≠ l := fun q => hb.mp y (by rw [← q]; exact w.1)
        omega
      · rw [if_neg y]
        have bl : bt m l := Classical.byContradiction (fun w => y (hb.mpr w))
        have a : HD sx (sL sx 60 l.toNat (o_lor (sx.2.1 60 l.toNat) (f_X7_bit sx l1))) NO NO (fun y x => y = l ∧ x = l1) := by
          refine ⟨⟨rfl, rfl, fun r _ _ h3 => sL_nc h3⟩, fun y x _ _ _ => ?_, fun y x _ _ _ => ?_, fun y x y0 x0 _ => ?_⟩
          · unfold CH
            rw [sL_nc (by decide)]
            exact ⟨Or.inl, fun w => by rcases w with w | w; (exact w); (exact absurd w id)⟩
          · unfold BV
            rw [sL_nc (by decide)]
            exact ⟨Or.inl, fun w => by rcases w with w | w; (exact w); (exact absurd w id)⟩
          · unfold BW
            by_cases q : y = l
            · rw [q, sL_eq, lor_r, bit_r r0 (by omega) x0]
              exact ⟨fun w => by rcases w with w | w; (exact Or.inl w); (exact Or.inr ⟨rfl, w⟩), fun w => by rcases w with w | w; (exact Or.inl w); (exact Or.inr w.2)⟩
            · rw [sL_ne (by omega)]
              exact ⟨Or.inl, fun w => by rcases w with w | w; (exact w); (exact absurd w.1 q)⟩
        refine ih 28 (l + 1) _ (by omega) (by omega) ((h.tr a).iff (fun y x _ _ _ => ⟨fun w => by rcases w with w | w <;> exact w, Or.inl⟩) (fun y x _ _ _ => ⟨fun w => by rcases w with w | w <;> exact w, Or.inl⟩) (fun y' x _ _ _ => ?_)) (by omega)
        constructor
        · rintro (⟨w1, w⟩ | ⟨w1, w2⟩)
          · exact ⟨by omega, w⟩
          · exact ⟨by omega, by rw [w1]; exact bl, w2⟩
        · rintro ⟨w1, w2, w3⟩
          by_cases q : y' = l
          · exact Or.inr ⟨q, w3⟩
          · exact Or.inl ⟨by omega, w2, w3⟩
theorem td_ok {c : Nat} {s0 : ST} {m : Int64} {k : Int} (f : CFC c s0.1) (h57 : s0.2.2 57 6 = c) (k0 : 0 ≤ k) (k1 : k < s0.1 c 0) : HD s0 (f_X1_tieDecided2 s0 k m) (TAb (s0.1 c 0) k (if s0.1 (c + 2) k.toNat = 1 then 8 else 0) m) NO (TDb (s0.1 c 0) k m) := by
  have n40 := f.1
  have go : ∀ q, 0 ≤ q → q < 13 → HD s0 (f_X1_tieDecided2_ 139 28 k m 0 (f_X1_tieAll2 s0 m q k)) (TAb (s0.1 c 0) k q m) NO (TDb (s0.1 c 0) k m) := fun q q0 q1 => by
    have a := ta_ok (m := m) f h57 q0 q1 k0 (show k < 45 by omega)
    have e1 := a.1.1
    have b := td_n (c := c) (s0 := f_X1_tieAll2 s0 m q k) (m := m) (l1 := k) (a.1.cf f) (by rw [a.1.2.1]; exact h57) k0 (by omega) 139 28 0 _ (by decide) (by rw [e1]; exact f.1.1) (HD.rfl.iff (fun _ _ _ _ _ => Iff.rfl) (fun _ _ _ _ _ => Iff.rfl) (fun y x _ _ _ => ⟨fun w => absurd w id, fun w => by have := w.1; omega⟩)) (by omega)
    rw [e1] at b
    exact (a.tr b).iff (fun y x _ _ _ => ⟨fun w => by rcases w with w | w; (exact w); (exact absurd w id), Or.inl⟩) (fun y x _ _ _ => ⟨fun w => by rcases w with w | w <;> exact w, Or.inl⟩) (fun y x _ _ _ => ⟨fun w => by rcases w with w | w; (exact absurd w id); (exact w), Or.inr⟩)
  unfold f_X1_tieDecided2
  simp only [bd_r, h57]
  by_cases z : s0.1 (c + 2) k.toNat = 1
  · rw [if_neg (fun w => w z), if_pos z]
    exact go 8 (by decide) (by decide)
  · rw [if_pos z, if_neg z]
    exact go 0 (by decide) (by decide)
/-- what stands on all ways on from a unit -/
def GU (c : Nat) (F : Nat → Nat → Int) (w u : Int) : Prop := w < 40 ∧ GW c F w u
/-- what k decides -/
def DC (c : Nat) (F : Nat → Nat → Int) (k u : Int) : Prop := cDE c F k ∧ ¬ (GU c F (F (c + 12) k.toNat) u ↔ GU c F (F (c + 13) k.toNat) u)
def DWb (c : Nat) (F : Nat → Nat → Int) (b y x : Int) : Prop := ∃ k u, 0 ≤ k ∧ k < b ∧ 0 ≤ u ∧ u < F c 0 ∧ DC c F k u ∧ y = 13 * u ∧ x = 13 * k + (if F (c + 2) k.toNat = 1 then 8 else 0)
def WWb (c : Nat) (F : Nat → Nat → Int) (b y x : Int) : Prop := y < F c 0 ∧ x < b ∧ DC c F x y
/-- a state whose row of what is certain is right -/
theorem CT3.gu {c : Nat} {s0 s : ST} {w u : Int} (f : CFC c s0.1) (h : FCP c s0 s) {p : Int} (hw : UO c s0.1 w p) (p0 : 0 ≤ p) (p1 : p < s0.1 c 1) (u0 : 0 ≤ u) : CT3 s w u ↔ GU c s0.1 w u := by
  have n40 := f.1
  have p5 := f.2.1
  have r := hw.r f p0 p1
  unfold GU
  rcases hw with g | g
  · rw [h.2.2 w u g.1 g.2.1 u0]
    exact ⟨fun y => ⟨by omega, y⟩, fun y => y.2⟩
  · exact ⟨fun y => absurd y (h.2.1 w u (by omega) (by omega) u0), fun y => by omega⟩
theorem tw_n {c : Nat} {s0 s1 : ST} (hc : c = 2 ∨ c = 18) (f : CFC c s0.1) (h57 : s0.2.2 57 6 = c) (fc : FCP c s0 s1) : ∀ (n : Nat) (l : Int) (sx : ST), 0 ≤ l → l ≤ s0.1 c 0 → HD s1 sx (DWb c s0.1 l) NO (WWb c s0.1 l) → 60 - l < (n : Int) → ∃ (m : Nat) (s2 : ST), f_X1_tieByWay2_ n 6 l sx = f_X1_tieByWay2_ m 70 0 s2 ∧ (n : Int) ≤ m + 60 - l ∧ HD s1 s2 (DWb c s0.1 (s0.1 c 0)) NO (WWb c s0.1 (s0.1 c 0)) := by
  intro n
  have n40 := f.1
  have p5 := f.2.1
  have E1 : s1.1 = s0.1 := fc.1.1
  have R1 : s1.2.2 57 6 = c := by rw [fc.1.2.1]; exact h57
  induction n with
  | zero => intros; omega
  | succ n ih =>
    intro l sx h0 h1 h hm
    have e1 : sx.1 = s0.1 := h.1.1.trans E1
    have r : sx.2.2 57 6 = c := by rw [h.1.2.1]; exact R1
    rw [f_X1_tieByWay2_, if_pos rfl]
    simp only [bd_r, r, e1]
    by_cases z : s0.1 c 0 ≤ l
    · rw [if_pos z]
      rw [show l = s0.1 c 0 by omega] at h
      exact ⟨n, sx, rfl, by omega, h⟩
    · rw [if_neg z]
      have de := de_r (X := sx) (k := l) (by rw [e1]; exact f) h0 (by rw [e1]; omega)
      rw [e1] at de
      by_cases y : f_X0_decides sx c l = 0
      · rw [if_pos y]
        have nd := de.mp y
        obtain ⟨m, s2, q1, q2, q3⟩ := ih (l + 1) sx (by omega) (by omega) (h.iff (fun y' x _ _ _ => ⟨fun ⟨k, u, k0, k1, w⟩ => ⟨k, u, k0, by omega, w⟩, fun ⟨k, u, k0, k1, w⟩ => ⟨k, u, k0, by
          have : k ≠ l := fun q => nd (by rw [← q]; exact w.2.2.1.1)
          omega, w⟩⟩) (fun _ _ _ _ _ => Iff.rfl) (fun y' x _ _ _ => ⟨fun ⟨w1, w2, w⟩ => ⟨w1, by omega, w⟩, fun ⟨w1, w2, w⟩ => ⟨w1, by
          have : x ≠ l := fun q => nd (by rw [← q]; exact w.1)
          omega, w⟩⟩)) (by omega)
        exact ⟨m, s2, q1, by omega, q3⟩
      · rw [if_neg y]
        have d : cDE c s0.1 l := Classical.byContradiction (fun w => y (de.mpr w))
        have e := f.2.2.2.2.1 l h0 (by omega)
        have c3 : sx.2.1 63 = s1.2.1 63 := h.1.2.2 63 (by decide) (by decide) (by decide)
        obtain ⟨v, hv⟩ : ∃ v, v = o_lxor (sx.2.1 63 (s0.1 (c + 12) l.toNat).toNat) (sx.2.1 63 (s0.1 (c + 13) l.toNat).toNat) := ⟨_, rfl⟩
        have bv : ∀ u, 0 ≤ u → (bt v u ↔ ¬ (GU c s0.1 (s0.1 (c + 12) l.toNat) u ↔ GU c s0.1 (s0.1 (c + 13) l.toNat) u)) := fun u u0 => by
          rw [hv, lxor_r, c3]
          have a1 := CT3.gu f fc e.2.2.2.1 e.2.2.1.1 e.2.2.1.2 u0
          have a2 := CT3.gu f fc e.2.2.2.2 e.2.2.1.1 e.2.2.1.2 u0
          unfold CT3 at a1 a2
          rw [a1, a2]
        rw [← hv]
        have a := td_ok (m := v) (k := l) (s0 := sx) (c := c) (by rw [e1]; exact f) r h0 (by rw [e1]; omega)
        rw [e1] at a
        have hn : HD s1 (f_X1_tieDecided2 sx l v) (DWb c s0.1 (l + 1)) NO (WWb c s0.1 (l + 1)) := by
          refine (h.tr a).iff (fun y' x _ _ _ => ?_) (fun y x _ _ _ => ⟨fun w => by rcases w with w | w <;> exact w, Or.inl⟩) (fun y' x y0 _ _ => ?_)
          · constructor
            · rintro (⟨k, u, k0, k1, w⟩ | ⟨k, k0, k1, w1, w2, w3⟩)
              · exact ⟨k, u, k0, by omega, w⟩
              · exact ⟨l, k, h0, by omega, k0, k1, ⟨d, (bv k k0).mp w1⟩, w2, w3⟩
            · rintro ⟨k, u, k0, k1, u0, u1, w1, w2, w3⟩
              by_cases q : k = l
              · rw [q] at w1 w3
                exact Or.inr ⟨u, u0, u1, (bv u u0).mpr w1.2, w2, w3⟩
              · exact Or.inl ⟨k, u, k0, by omega, u0, u1, w1, w2, w3⟩
          · constructor
            · rintro (⟨w1, w2, w⟩ | ⟨w1, w2, w3⟩)
              · exact ⟨w1, by omega, w⟩
              · exact ⟨w1, by omega, by rw [w3]; exact ⟨d, (bv y' y0).mp w2⟩⟩
            · rintro ⟨w1, w2, w⟩
              by_cases q : x = l
              · rw [q] at w
                exact Or.inr ⟨w1, (bv y' y0).mpr w.2, q⟩
              · exact Or.inl ⟨w1, by omega, w⟩
        obtain ⟨m, s2, q1, q2, q3⟩ := ih (l + 1) _ (by omega) (by omega) hn (by omega)
        exact ⟨m, s2, q1, by omega, q3⟩

