/-! by value, in the reference: which uses hang -/
def UNX (c : Nat) (F : Nat → Nat → Int) (u j nm p : Int) : Prop := (j = 0 ∧ F (c + 9) u.toNat = nm ∧ p = (if F (c + 2) u.toNat = 1 then 1 else 0)) ∨ (j = 1 ∧ F (c + 10) u.toNat = nm ∧ p = (if F (c + 2) u.toNat = 1 then 2 else 0)) ∨ (2 ≤ j ∧ j < 6 ∧ F (c + 2) u.toNat = 1 ∧ nm = j + 4 ∧ p = j + 1)
def UX (c : Nat) (F : Nat → Nat → Int) (u j y x : Int) : Prop := ∃ nm p t, 0 ≤ nm ∧ nm ≤ 9 ∧ UNX c F u j nm p ∧ y = 13 * u + p ∧ 0 ≤ t ∧ LT c F nm t u ∧ x = pT c F nm t
def UA (c : Nat) (F : Nat → Nat → Int) (k i y x : Int) : Prop := ∃ u j, 0 ≤ u ∧ u < F c 0 ∧ (u < k ∨ (u = k ∧ j < i)) ∧ UX c F u j y x
theorem UNX.j {c : Nat} {F : Nat → Nat → Int} {u j nm p : Int} (h : UNX c F u j nm p) : 0 ≤ j ∧ j < 6 ∧ 0 ≤ p ∧ p < 13 ∧ (2 ≤ j → F (c + 2) u.toNat = 1) := by
  unfold UNX at h
  rcases h with ⟨h1, _, h3⟩ | ⟨h1, _, h3⟩ | ⟨h1, h2, h3, h4, h5⟩
  · split at h3 <;> exact ⟨by omega, by omega, by omega, by omega, fun w => by omega⟩
  · split at h3 <;> exact ⟨by omega, by omega, by omega, by omega, fun w => by omega⟩
  · exact ⟨by omega, by omega, by omega, by omega, fun _ => h3⟩
theorem UA.step {c : Nat} {F : Nat → Nat → Int} {k i y x : Int} (k0 : 0 ≤ k) (k1 : k < F c 0) : UA c F k (i + 1) y x ↔ UA c F k i y x ∨ UX c F k i y x := by
  constructor
  · rintro ⟨u, j, u0, u1, w, h⟩
    by_cases e : u = k ∧ j = i
    · rw [e.1, e.2] at h
      exact Or.inr h
    · exact Or.inl ⟨u, j, u0, u1, by omega, h⟩
  · rintro (⟨u, j, u0, u1, w, h⟩ | h)
    · exact ⟨u, j, u0, u1, by omega, h⟩
    · exact ⟨k, i, k0, k1, by omega, h⟩
theorem UA.next {c : Nat} {F : Nat → Nat → Int} {k i y x : Int} (hi : i = 6 ∨ (i = 2 ∧ ¬ F (c + 2) k.toNat = 1)) : UA c F k i y x ↔ UA c F (k + 1) 0 y x := by
  constructor
  · rintro ⟨u, j, u0, u1, w, h⟩
    exact ⟨u, j, u0, u1, by omega, h⟩
  · rintro ⟨u, j, u0, u1, w, h⟩
    obtain ⟨nm, p, t, n0, n1, hn, r⟩ := h
    have hj := hn.j
    refine ⟨u, j, u0, u1, ?_, nm, p, t, n0, n1, hn, r⟩
    by_cases e : u = k
    · rcases hi with z | ⟨z, z1⟩
      · omega
      · by_cases q : 2 ≤ j
        · have := hj.2.2.2.2 q
          rw [e] at this
          exact absurd this z1
        · omega
    · omega
theorem UA.nil {c : Nat} {F : Nat → Nat → Int} {y x : Int} : ¬ UA c F 0 0 y x := by
  rintro ⟨u, j, u0, u1, w, nm, p, t, n0, n1, hn, r⟩
  have := hn.j
  omega
theorem UX.op {c : Nat} {F : Nat → Nat → Int} {k i a o P y x : Int} (k0 : 0 ≤ k) (hi : (i = 0 ∧ a = F (c + 9) k.toNat) ∨ (i = 1 ∧ a = F (c + 10) k.toNat)) (hP : P = 13 * k + (if F (c + 2) k.toNat = 1 then 1 + i else 0)) : (0 ≤ a ∧ a ≤ 9 ∧ uA c F o k P a y x) ↔ UX c F k i y x := by
  unfold uA UX
  rw [en_n (show ¬ k = -1 by omega)]
  constructor
  · rintro ⟨a0, a1, hy, t, t0, l, hx⟩
    refine ⟨a, if F (c + 2) k.toNat = 1 then 1 + i else 0, t, a0, a1, ?_, by omega, t0, l, hx⟩
    unfold UNX
    rcases hi with ⟨h1, h2⟩ | ⟨h1, h2⟩
    · exact Or.inl ⟨h1, h2.symm, by rw [h1]; rfl⟩
    · exact Or.inr (Or.inl ⟨h1, h2.symm, by rw [h1]; rfl⟩)
  · rintro ⟨nm, p, t, n0, n1, hn, hy, t0, l, hx⟩
    have e : a = nm ∧ p = (if F (c + 2) k.toNat = 1 then 1 + i else 0) := by
      unfold UNX at hn
      rcases hi with ⟨h1, h2⟩ | ⟨h1, h2⟩
      · rcases hn with ⟨g1, g2, g3⟩ | ⟨g1, g2, g3⟩ | ⟨g1, g2, g3, g4, g5⟩
        · exact ⟨by omega, by rw [g3, h1]; rfl⟩
        · omega
        · omega
      · rcases hn with ⟨g1, g2, g3⟩ | ⟨g1, g2, g3⟩ | ⟨g1, g2, g3, g4, g5⟩
        · omega
        · exact ⟨by omega, by rw [g3, h1]; rfl⟩
        · omega
    rw [e.1]
    exact ⟨n0, n1, by rw [hy, e.2, hP], t, t0, l, hx⟩
theorem UX.port {c : Nat} {F : Nat → Nat → Int} {k i o y x : Int} (k0 : 0 ≤ k) (i0 : 0 ≤ i) (i1 : i < 4) (z : F (c + 2) k.toNat = 1) : uA c F o k (13 * k + (3 + i)) (6 + i) y x ↔ UX c F k (2 + i) y x := by
  unfold uA UX
  rw [en_n (show ¬ k = -1 by omega)]
  constructor
  · rintro ⟨hy, t, t0, l, hx⟩
    exact ⟨6 + i, 3 + i, t, by omega, by omega, Or.inr (Or.inr ⟨by omega, by omega, z, by omega, by omega⟩), hy, t0, l, hx⟩
  · rintro ⟨nm, p, t, n0, n1, hn, hy, t0, l, hx⟩
    have e : nm = 6 + i ∧ p = 3 + i := by
      unfold UNX at hn
      omega
    rw [e.1] at l hx
    exact ⟨by rw [hy, e.2], t, t0, l, hx⟩
/-- what is handed on by a procedure -/
def UPX (c : Nat) (F : Nat → Nat → Int) (p i y x : Int) : Prop := ∃ q j, 0 ≤ q ∧ q < F c 1 ∧ (q < p ∨ (q = p ∧ j < i)) ∧ 0 ≤ j ∧ j < 4 ∧ uA c F q (-1) (520 + 13 * q + (9 + j)) (6 + j) y x
theorem UPX.step {c : Nat} {F : Nat → Nat → Int} {p i y x : Int} (p0 : 0 ≤ p) (p1 : p < F c 1) (i0 : 0 ≤ i) (i1 : i < 4) : UPX c F p (i + 1) y x ↔ UPX c F p i y x ∨ uA c F p (-1) (520 + 13 * p + (9 + i)) (6 + i) y x := by
  constructor
  · rintro ⟨q, j, q0, q1, w, j0, j1, h⟩
    by_cases e : q = p ∧ j = i
    · rw [e.1, e.2] at h
      exact Or.inr h
    · exact Or.inl ⟨q, j, q0, q1, by omega, j0, j1, h⟩
  · rintro (⟨q, j, q0, q1, w, j0, j1, h⟩ | h)
    · exact ⟨q, j, q0, q1, by omega, j0, j1, h⟩
    · exact ⟨p, i, p0, p1, by omega, i0, i1, h⟩
theorem UPX.next {c : Nat} {F : Nat → Nat → Int} {p y x : Int} : UPX c F p 4 y x ↔ UPX c F (p + 1) 0 y x := by
  constructor
  · rintro ⟨q, j, q0, q1, w, j0, j1, h⟩
    exact ⟨q, j, q0, q1, by omega, j0, j1, h⟩
  · rintro ⟨q, j, q0, q1, w, j0, j1, h⟩
    exact ⟨q, j, q0, q1, by omega, j0, j1, h⟩
theorem UPX.nil {c : Nat} {F : Nat → Nat → Int} {y x : Int} : ¬ UPX c F 0 0 y x := by
  rintro ⟨q, j, q0, q1, w, j0, j1, h⟩
  omega
/-- all of them are the class's -/
theorem hv_all {c : Nat} {F : Nat → Nat → Int} (f : CFC c F) {y x : Int} : (UA c F (F c 0) 0 y x ∨ UPX c F (F c 1) 0 y x) ↔ HVV c F 10 y x := by
  have n40 := f.1
  have p5 := f.2.1
  unfold HVV HVb
  constructor
  · rintro (⟨u, j, u0, u1, w, nm, p, t, n0, n1, hn, hy, t0, l, hx⟩ | ⟨q, j, q0, q1, w, j0, j1, hy, t, t0, l, hx⟩)
    · refine ⟨nm, n0, by omega, u, p, t, Or.inl ⟨u0, u1, ?_⟩, by omega, hy, t0, l, hx⟩
      unfold UNX at hn
      rcases hn with ⟨g1, g2, g3⟩ | ⟨g1, g2, g3⟩ | ⟨g1, g2, g3, g4, g5⟩
      · exact Or.inl ⟨g2, g3⟩
      · exact Or.inr (Or.inl ⟨g2, g3⟩)
      · exact Or.inr (Or.inr ⟨g3, by omega, by omega⟩)
    · rw [en_1] at l
      exact ⟨6 + j, by omega, by omega, 40 + q, 9 + j, t, Or.inr ⟨by omega, by omega, by omega, by omega⟩, by omega, by omega, t0, l, hx⟩
  · rintro ⟨nm, n0, n1, u, p, t, hU, u1, hy, t0, l, hx⟩
    unfold USE at hU
    rcases hU with ⟨u0, u2, g⟩ | ⟨g1, g2, g3, g4⟩
    · rcases g with ⟨g1, g2⟩ | ⟨g1, g2⟩ | ⟨g1, g2, g3⟩
      · exact Or.inl ⟨u, 0, u0, u2, by omega, nm, p, t, n0, by omega, Or.inl ⟨rfl, g1, g2⟩, hy, t0, l, hx⟩
      · exact Or.inl ⟨u, 1, u0, u2, by omega, nm, p, t, n0, by omega, Or.inr (Or.inl ⟨rfl, g1, g2⟩), hy, t0, l, hx⟩
      · exact Or.inl ⟨u, nm - 4, u0, u2, by omega, nm, p, t, n0, by omega, Or.inr (Or.inr ⟨by omega, by omega, g1, by omega, by omega⟩), hy, t0, l, hx⟩
    · refine Or.inr ⟨u - 40, nm - 6, by omega, by omega, by omega, by omega, by omega, by omega, t, t0, ?_, ?_⟩
      · rw [en_1, show 6 + (nm - 6) = nm by omega, show 40 + (u - 40) = u by omega]; exact l
      · rw [show 6 + (nm - 6) = nm by omega]; exact hx
section E
variable {c : Nat} {S : Int} {F : Nat → Nat → Int}
theorem lv_k {s0 : ST} (hr0 : RS F s0) (hS : F 70 6 = S) (b : BRI c S F) (h01 : H01 F) : ∀ n : Nat,
    (∀ (k l2 l3 : Int) (s : ST), 0 ≤ k → k ≤ F c 0 → RDH s0 s (UA c F k 0) → 2150 + 20 * (40 - k) + 19 < (n : Int) → ∃ (n' : Nat) (s1 : ST), 2119 < (n' : Int) ∧ RDH s0 s1 (UA c F (F c 0) 0) ∧ f_X8_laysValues2_ n 2 k l2 l3 s = f_X8_laysValues2_ n' 110 0 0 0 s1) ∧
    (∀ (k l2 i : Int) (s : ST), 0 ≤ k → k < F c 0 → l2 = (if F (c + 2) k.toNat = 1 then 1 else 0) → 0 ≤ i → i ≤ 2 → RDH s0 s (UA c F k i) → 2150 + 20 * (40 - k) + 18 - i < (n : Int) → ∃ (n' : Nat) (s1 : ST), 2119 < (n' : Int) ∧ RDH s0 s1 (UA c F (F c 0) 0) ∧ f_X8_laysValues2_ n 32 k l2 i s = f_X8_laysValues2_ n' 110 0 0 0 s1) ∧
    (∀ (k l2 i : Int) (s : ST), 0 ≤ k → k < F c 0 → l2 = (if F (c + 2) k.toNat = 1 then 1 else 0) → 0 ≤ i → i ≤ 4 → (i = 0 ∨ F (c + 2) k.toNat = 1) → RDH s0 s (UA c F k (2 + i)) → 2150 + 20 * (40 - k) + 10 - i < (n : Int) → ∃ (n' : Nat) (s1 : ST), 2119 < (n' : Int) ∧ RDH s0 s1 (UA c F (F c 0) 0) ∧ f_X8_laysValues2_ n 66 k l2 i s = f_X8_laysValues2_ n' 110 0 0 0 s1) := by
  have f := b.2.2.2.2.1
  have n40 := f.1
  intro n
  induction n with
  | zero => exact ⟨by intros; omega, by intros; omega, by intros; omega⟩
  | succ n ih =>
    refine ⟨fun k l2 l3 s k0 k1 h hm => ?_, fun k l2 i s k0 k1 hl i0 i1 h hm => ?_, fun k l2 i s k0 k1 hl i0 i1 hc h hm => ?_⟩
    · have r := hr0.e h.1
      rw [f_X8_laysValues2_, if_pos rfl, bd_r, bd_r, r.g (q := 70) (j := 6) (by omega), hS, r.g (q := 75) (by omega), b.2.2.1]
      by_cases z : F c 0 ≤ k
      · rw [if_pos z]
        have e : k = F c 0 := by omega
        rw [e] at h
        exact ⟨n, s, by omega, h, rfl⟩
      · rw [if_neg z, bd_r, kind_r8 r hS b k0 (by omega)]
        by_cases y : F (c + 2) k.toNat = 1
        · rw [if_neg (fun w => w y)]
          exact ih.2.1 k 1 0 s k0 (by omega) (by rw [if_pos y]) (by omega) (by omega) h (by omega)
        · rw [if_pos y]
          exact ih.2.1 k 0 0 s k0 (by omega) (by rw [if_neg y]) (by omega) (by omega) h (by omega)
    · have r := hr0.e h.1
      have br := b.2.2.2.2.2.1 k k0 k1
      rw [f_X8_laysValues2_, if_neg (by decide), if_pos rfl]
      by_cases z : 2 ≤ i
      · rw [if_pos z]
        have e : i = 2 := by omega
        rw [e] at h
        exact ih.2.2 k l2 0 s k0 k1 hl (by omega) (by omega) (Or.inl rfl) h (by omega)
      · rw [if_neg z]
        obtain ⟨a, ha⟩ : ∃ a, (i = 0 ∧ a = F (c + 9) k.toNat) ∨ (i = 1 ∧ a = F (c + 10) k.toNat) := by
          by_cases q : i = 0
          · exact ⟨_, Or.inl ⟨q, rfl⟩⟩
          · exact ⟨_, Or.inr ⟨by omega, rfl⟩⟩
        have ov : OV a (F 89 (2 * F 93 (40 * S + k).toNat + i).toNat) := by
          rcases ha with ⟨q, w⟩ | ⟨q, w⟩
          · rw [q, w, Int.add_zero]; exact br.2.2.2.2.2.1
          · rw [q, w]; exact br.2.2.2.2.2.2.1
        have go : ∀ P, P = 13 * k + (if F (c + 2) k.toNat = 1 then 1 + i else 0) → RDH s0 (f_X8_usesOperand2 s P k i) (UA c F k (i + 1)) := fun P hP => by
          have P0 : 0 ≤ P := by
            rw [hP]
            split <;> omega
          exact (h.tr (useop_ok r hS b h01 P0 k0 k1 ov)).iff (fun y x _ _ _ => by rw [UA.step k0 k1, UX.op k0 ha hP])
        by_cases y : F (c + 2) k.toNat = 1
        · rw [if_pos y] at hl
          rw [if_neg (by omega), bd_r, bd_r]
          exact ih.2.1 k l2 (i + 1) _ k0 k1 (by rw [if_pos y]; exact hl) (by omega) (by omega) (go _ (by rw [if_pos y]; unfold f_X8_statementPlace2; omega)) (by omega)
        · rw [if_neg y] at hl
          rw [if_pos hl, bd_r, bd_r]
          exact ih.2.1 k l2 (i + 1) _ k0 k1 (by rw [if_neg y]; exact hl) (by omega) (by omega) (go _ (by rw [if_neg y]; unfold f_X8_statementPlace2; omega)) (by omega)
    · have r := hr0.e h.1
      rw [f_X8_laysValues2_, if_neg (by decide), if_neg (by decide), if_pos rfl]
      have nx : i = 4 ∨ ¬ F (c + 2) k.toNat = 1 → RDH s0 s (UA c F (k + 1) 0) := fun w => h.iff (fun y x _ _ _ => by
        refine UA.next ?_
        rcases w with w | w
        · exact Or.inl (by omega)
        · exact Or.inr ⟨by rcases hc with q | q; (omega); (exact absurd q w), w⟩)
      by_cases z : 4 ≤ i
      · rw [if_pos z]
        exact ih.1 (k + 1) 0 0 s (by omega) (by omega) (nx (Or.inl (by omega))) (by omega)
      · rw [if_neg z]
        by_cases y : F (c + 2) k.toNat = 1
        · rw [if_pos y] at hl
          have e := f.2.2.2.2.1 k k0 k1
          rw [if_neg (by omega), bd_r, bd_r, bd_r, own_r8 r hS b k0 k1]
          refine ih.2.2 k l2 (i + 1) _ k0 k1 (by rw [if_pos y]; exact hl) (by omega) (by omega) (Or.inr y) ?_ (by omega)
          unfold f_X8_statementPlace2
          refine (h.tr (uses_ok b h01 hS r (by omega) (by omega) (by omega) e.2.2.1.1 e.2.2.1.2 (Or.inr ⟨k0, k1, rfl⟩))).iff (fun y' x _ _ _ => ?_)
          rw [show 2 + (i + 1) = 2 + i + 1 by omega, UA.step k0 k1, UX.port k0 i0 (by omega) y]
        · rw [if_neg y] at hl
          rw [if_pos hl]
          exact ih.1 (k + 1) 0 0 s (by omega) (by omega) (nx (Or.inr y)) (by omega)
theorem lv_p {s0 : ST} (hr0 : RS F s0) (hS : F 70 6 = S) (b : BRI c S F) (h01 : H01 F) {A : Int → Int → Prop} : ∀ n : Nat,
    (∀ (p l2 l3 : Int) (s : ST), 0 ≤ p → p ≤ F c 1 → RDH s0 s (fun y x => A y x ∨ UPX c F p 0 y x) → 2060 + 10 * (5 - p) + 9 < (n : Int) → ∃ (n' : Nat) (s1 : ST), 2050 < (n' : Int) ∧ RDH s0 s1 (fun y x => A y x ∨ UPX c F (F c 1) 0 y x) ∧ f_X8_laysValues2_ n 110 p l2 l3 s = f_X8_laysValues2_ n' 162 0 0 0 s1) ∧
    (∀ (p i l3 : Int) (s : ST), 0 ≤ p → p < F c 1 → 0 ≤ i → i ≤ 4 → RDH s0 s (fun y x => A y x ∨ UPX c F p i y x) → 2060 + 10 * (5 - p) + 8 - i < (n : Int) → ∃ (n' : Nat) (s1 : ST), 2050 < (n' : Int) ∧ RDH s0 s1 (fun y x => A y x ∨ UPX c F (F c 1) 0 y x) ∧ f_X8_laysValues2_ n 125 p i l3 s = f_X8_laysValues2_ n' 162 0 0 0 s1) := by
  have f := b.2.2.2.2.1
  have p5 := f.2.1
  intro n
  induction n with
  | zero => exact ⟨by intros; omega, by intros; omega⟩
  | succ n ih =>
    refine ⟨fun p l2 l3 s p0 p1 h hm => ?_, fun p i l3 s p0 p1 i0 i1 h hm => ?_⟩
    · have r := hr0.e h.1
      rw [f_X8_laysValues2_, if_neg (by decide), if_neg (by decide), if_neg (by decide), if_pos rfl, bd_r, bd_r, r.g (q := 70) (j := 6) (by omega), hS, r.g (q := 76) (by omega), b.2.2.2.1]
      by_cases z : F c 1 ≤ p
      · rw [if_pos z]
        have e : p = F c 1 := by omega
        rw [e] at h
        exact ⟨n, s, by omega, h, rfl⟩
      · rw [if_neg z]
        exact ih.2 p 0 0 s p0 (by omega) (by omega) (by omega) h (by omega)
    · have r := hr0.e h.1
      rw [f_X8_laysValues2_, if_neg (by decide), if_neg (by decide), if_neg (by decide), if_neg (by decide), if_pos rfl]
      by_cases z : 4 ≤ i
      · rw [if_pos z]
        have e : i = 4 := by omega
        rw [e] at h
        exact ih.1 (p + 1) 0 0 s (by omega) (by omega) (h.iff (fun y x _ _ _ => or_congr Iff.rfl UPX.next)) (by omega)
      · rw [if_neg z, bd_r, bd_r]
        refine ih.2 p (i + 1) 0 _ p0 p1 (by omega) (by omega) ?_ (by omega)
        unfold f_X8_procedurePlace2
        refine (h.tr (uses_ok b h01 hS r (by omega) (by omega) (by omega) p0 p1 (Or.inl rfl))).iff (fun y x _ _ _ => ?_)
        rw [UPX.step p0 p1 i0 (by omega)]
        exact or_assoc
end E
