/-! by value, in the reference: the rows of statements; then the ends -/
def AH (s : ST) (k j : Int) : Prop := ∃ a b, 0 ≤ a ∧ a < 13 ∧ 0 ≤ b ∧ b < 13 ∧ RH s (13 * k + a) (13 * j + b)
theorem anyh_n {s : ST} {k j : Int} (j0 : 0 ≤ j) : ∀ n : Nat,
    (∀ (a l4 : Int), 0 ≤ a → a ≤ 13 → (∀ a' b', 0 ≤ a' → a' < a → 0 ≤ b' → b' < 13 → ¬ RH s (13 * k + a') (13 * j + b')) → 20 * (13 - a) + 19 < (n : Int) → (f_X8_isAnyHung2_ n 2 k j a l4 s = 0 ↔ ¬ AH s k j)) ∧
    (∀ (a b : Int), 0 ≤ a → a < 13 → 0 ≤ b → b ≤ 13 → (∀ a' b', 0 ≤ a' → (a' < a ∨ (a' = a ∧ b' < b)) → 0 ≤ b' → b' < 13 → ¬ RH s (13 * k + a') (13 * j + b')) → 20 * (13 - a) + 18 - b < (n : Int) → (f_X8_isAnyHung2_ n 11 k j a b s = 0 ↔ ¬ AH s k j)) := by
  intro n
  induction n with
  | zero => exact ⟨by intros; omega, by intros; omega⟩
  | succ n ih =>
    refine ⟨fun a l4 a0 a1 h hm => ?_, fun a b a0 a1 b0 b1 h hm => ?_⟩
    · rw [f_X8_isAnyHung2_, if_pos rfl]
      by_cases z : 13 ≤ a
      · rw [if_pos z]
        refine ⟨fun _ => ?_, fun _ => rfl⟩
        rintro ⟨a', b', w1, w2, w3, w4, w⟩
        exact h a' b' w1 (by omega) w3 w4 w
      · rw [if_neg z]
        exact ih.2 a 0 a0 (by omega) (by omega) (by omega) (fun a' b' w1 w2 w3 w4 => h a' b' w1 (by omega) w3 w4) (by omega)
    · rw [f_X8_isAnyHung2_, if_neg (by decide)]
      by_cases z : 13 ≤ b
      · rw [if_pos z]
        exact ih.1 (a + 1) 0 (by omega) (by omega) (fun a' b' w1 w2 w3 w4 => h a' b' w1 (by omega) w3 w4) (by omega)
      · rw [if_neg z]
        simp only [bd_r]
        unfold f_X8_statementPlace2
        have hu := hung_r (s := s) (y := 13 * k + a) (x := 13 * j + b) (by omega)
        by_cases q : f_X8_isHung2 s (13 * k + a) (13 * j + b) = 0
        · rw [if_pos q]
          refine ih.2 a (b + 1) a0 a1 (by omega) (by omega) (fun a' b' w1 w2 w3 w4 => ?_) (by omega)
          by_cases e : a' = a ∧ b' = b
          · rw [e.1, e.2]; exact hu.mp q
          · exact h a' b' w1 (by omega) w3 w4
        · rw [if_neg q]
          refine ⟨fun w => absurd w (by decide), fun w => absurd ?_ w⟩
          exact ⟨a, b, a0, a1, b0, by omega, Classical.byContradiction (fun v => q (hu.mpr v))⟩
theorem anyh_r {s : ST} {k j : Int} (j0 : 0 ≤ j) : f_X8_isAnyHung2 s k j = 0 ↔ ¬ AH s k j :=
  (anyh_n j0 733).1 0 0 (by decide) (by decide) (fun a' b' _ w2 _ _ => by omega) (by decide)
theorem USE.p {c : Nat} {F : Nat → Nat → Int} {nm u p : Int} (h : USE c F nm u p) (n1 : nm ≤ 9) : 0 ≤ p ∧ p < 13 := by
  unfold USE at h
  rcases h with ⟨_, _, g⟩ | ⟨g1, g2, g3, g4⟩
  · rcases g with ⟨_, g⟩ | ⟨_, g⟩ | ⟨_, g1, g2⟩
    · split at g <;> omega
    · split at g <;> omega
    · omega
  · omega
theorem pT_r {c : Nat} {F : Nat → Nat → Int} {nm t : Int} (n0 : 0 ≤ nm) (n1 : nm ≤ 9) : 13 * t ≤ pT c F nm t ∧ pT c F nm t < 13 * t + 13 := by
  unfold pT
  split
  · split
    · split <;> omega
    · omega
  · split <;> omega
theorem ah_v {c : Nat} {F : Nat → Nat → Int} {s : ST} (f : CFC c F) (h : ∀ y x, 0 ≤ y → y < 585 → 0 ≤ x → x < 608 → (RH s y x ↔ HVV c F 10 y x)) {k j : Int} (k0 : 0 ≤ k) (k1 : k < F c 0) (j0 : 0 ≤ j) : (j < F c 0 ∧ AH s k j) ↔ VVV c F 10 k j := by
  have n40 := f.1
  constructor
  · rintro ⟨j1, a, b, a0, a1, b0, b1, w⟩
    obtain ⟨nm, n0, n1, u, p, t, hU, u1, hy, t0, l, hx⟩ := (h _ _ (by omega) (by omega) (by omega) (by omega)).mp w
    have pr := hU.p (by omega)
    have tr := pT_r (c := c) (F := F) (t := t) n0 (show nm ≤ 9 by omega)
    have eu : u = k := by omega
    have et : t = j := by omega
    rw [eu] at hU l
    rw [et] at l
    exact ⟨nm, n0, n1, ⟨p, hU⟩, by omega, by omega, l, by omega⟩
  · rintro ⟨nm, n0, n1, ⟨p, hU⟩, _, _, l, j1⟩
    have pr := hU.p (by omega)
    have tr := pT_r (c := c) (F := F) (t := j) n0 (show nm ≤ 9 by omega)
    have lr := LT.r f l
    refine ⟨by omega, p, pT c F nm j - 13 * j, pr.1, pr.2, by omega, by omega, (h _ _ (by omega) (by omega) (by omega) (by omega)).mpr ⟨nm, n0, n1, k, p, j, hU, by omega, rfl, j0, l, by omega⟩⟩
section E
variable {c : Nat} {S : Int} {F : Nat → Nat → Int}
theorem AH.e {s s' : ST} {k j : Int} (h : s'.1 = s.1) : AH s' k j ↔ AH s k j := by
  unfold AH RH
  rw [h]
theorem RS.q {s s' : ST} (r : RS F s) (h : s'.1 = s.1) : RS F s' := fun q j a b d e f => by rw [h]; exact r q j a b d e f
theorem lv_v {s1 : ST} (hr : RS F s1) (hS : F 70 6 = S) (b : BRI c S F) : ∀ n : Nat,
    (∀ (k l2 l3 : Int) (s : ST), 0 ≤ k → k ≤ F c 0 → EQL 104 s1 s → (∀ k' j, 0 ≤ k' → k' < k → 0 ≤ j → (bt (s.2.1 104 k'.toNat) j ↔ j < F c 0 ∧ AH s1 k' j)) → 50 * (40 - k) + 50 < (n : Int) → ∃ (n' : Nat) (s2 : ST), 45 < (n' : Int) ∧ EQL 104 s1 s2 ∧ (∀ k' j, 0 ≤ k' → k' < F c 0 → 0 ≤ j → (bt (s2.2.1 104 k'.toNat) j ↔ j < F c 0 ∧ AH s1 k' j)) ∧ f_X8_laysValues2_ n 162 k l2 l3 s = f_X8_laysValues2_ n' 236 0 0 0 s2) ∧
    (∀ (k i l3 : Int) (s : ST), 0 ≤ k → k < F c 0 → 0 ≤ i → i ≤ F c 0 → EQL 104 s1 s → (∀ k' j, 0 ≤ k' → k' < k → 0 ≤ j → (bt (s.2.1 104 k'.toNat) j ↔ j < F c 0 ∧ AH s1 k' j)) → (∀ j, 0 ≤ j → (bt (s.2.1 104 k.toNat) j ↔ j < i ∧ AH s1 k j)) → 50 * (40 - k) + 48 - i < (n : Int) → ∃ (n' : Nat) (s2 : ST), 45 < (n' : Int) ∧ EQL 104 s1 s2 ∧ (∀ k' j, 0 ≤ k' → k' < F c 0 → 0 ≤ j → (bt (s2.2.1 104 k'.toNat) j ↔ j < F c 0 ∧ AH s1 k' j)) ∧ f_X8_laysValues2_ n 184 k i l3 s = f_X8_laysValues2_ n' 236 0 0 0 s2) := by
  have f := b.2.2.2.2.1
  have n40 := f.1
  intro n
  induction n with
  | zero => exact ⟨by intros; omega, by intros; omega⟩
  | succ n ih =>
    refine ⟨fun k l2 l3 s k0 k1 h hk hm => ?_, fun k i l3 s k0 k1 i0 i1 h hk hi hm => ?_⟩
    · have r := hr.q h.1
      rw [f_X8_laysValues2_, if_neg (by decide), if_neg (by decide), if_neg (by decide), if_neg (by decide), if_neg (by decide), if_pos rfl, bd_r, bd_r, r.g (q := 70) (j := 6) (by omega), hS, r.g (q := 75) (by omega), b.2.2.1]
      by_cases z : F c 0 ≤ k
      · rw [if_pos z]
        have e : k = F c 0 := by omega
        rw [e] at hk
        exact ⟨n, s, by omega, h, hk, rfl⟩
      · rw [if_neg z, bd_r]
        refine ih.2 k 0 0 _ k0 (by omega) (by omega) n40.1 (h.tr EQL.L) (fun k' j w1 w2 w3 => ?_) (fun j w1 => ?_) (by omega)
        · rw [sL_ne (by omega)]; exact hk k' j w1 w2 w3
        · rw [sL_eq]
          exact ⟨fun w => absurd w bt_0, fun w => by omega⟩
    · have r := hr.q h.1
      rw [f_X8_laysValues2_, if_neg (by decide), if_neg (by decide), if_neg (by decide), if_neg (by decide), if_neg (by decide), if_neg (by decide), if_pos rfl, bd_r, bd_r, r.g (q := 70) (j := 6) (by omega), hS, r.g (q := 75) (by omega), b.2.2.1]
      by_cases z : F c 0 ≤ i
      · rw [if_pos z]
        have e : i = F c 0 := by omega
        rw [e] at hi
        refine ih.1 (k + 1) 0 0 s (by omega) (by omega) h (fun k' j w1 w2 w3 => ?_) (by omega)
        by_cases q : k' = k
        · rw [q]; exact hi j w3
        · exact hk k' j w1 (by omega) w3
      · rw [if_neg z, bd_r, bd_r]
        have an := anyh_r (s := s) (k := k) (j := i) i0
        rw [AH.e h.1] at an
        have row : ∀ m : Int64, (∀ j, 0 ≤ j → (bt m j ↔ j = i ∧ AH s1 k i)) → ∃ (n' : Nat) (s2 : ST), 45 < (n' : Int) ∧ EQL 104 s1 s2 ∧ (∀ k' j, 0 ≤ k' → k' < F c 0 → 0 ≤ j → (bt (s2.2.1 104 k'.toNat) j ↔ j < F c 0 ∧ AH s1 k' j)) ∧ f_X8_laysValues2_ n 184 k (i + 1) 0 (sL s 104 k.toNat (o_lor (s.2.1 104 k.toNat) m)) = f_X8_laysValues2_ n' 236 0 0 0 s2 := fun m hM => by
          refine ih.2 k (i + 1) 0 _ k0 k1 (by omega) (by omega) (h.tr EQL.L) (fun k' j w1 w2 w3 => ?_) (fun j w1 => ?_) (by omega)
          · rw [sL_ne (by omega)]; exact hk k' j w1 w2 w3
          · rw [sL_eq, lor_r, hi j w1, hM j w1]
            constructor
            · rintro (⟨w2, w3⟩ | ⟨w2, w3⟩)
              · exact ⟨by omega, w3⟩
              · rw [w2]; exact ⟨by omega, w3⟩
            · rintro ⟨w2, w3⟩
              by_cases q : j = i
              · rw [q] at w3; exact Or.inr ⟨q, w3⟩
              · exact Or.inl ⟨by omega, w3⟩
        by_cases q : f_X8_isAnyHung2 s k i = 0
        · rw [if_pos q, bd_r, bd_r]
          exact row 0 (fun j _ => ⟨fun w => absurd w bt_0, fun w => absurd w.2 (an.mp q)⟩)
        · rw [if_neg q, bd_r, bd_r, bd_r]
          refine row _ (fun j j0 => ?_)
          rw [shl_r i0 (by omega) j0]
          exact ⟨fun w => ⟨w, Classical.byContradiction (fun v => q (an.mpr v))⟩, fun w => w.1⟩
theorem lv_e {s2 : ST} (hr : RS F s2) (hS : F 70 6 = S) (b : BRI c S F) (h01 : H01 F) : ∀ (n : Nat) (k l2 l3 : Int) (s : ST), 0 ≤ k → k ≤ F c 0 → RDH s2 s (EAb c F k) → 45 - k < (n : Int) → RDH s2 (f_X8_laysValues2_ n 236 k l2 l3 s) (EAb c F (F c 0)) := by
  have f := b.2.2.2.2.1
  have n40 := f.1
  intro n
  induction n with
  | zero => intros; omega
  | succ n ih =>
    intro k l2 l3 s k0 k1 h hm
    have r := hr.e h.1
    rw [f_X8_laysValues2_, if_neg (by decide), if_neg (by decide), if_neg (by decide), if_neg (by decide), if_neg (by decide), if_neg (by decide), if_neg (by decide), bd_r, bd_r, r.g (q := 70) (j := 6) (by omega), hS, r.g (q := 75) (by omega), b.2.2.1]
    by_cases z : F c 0 ≤ k
    · rw [if_pos z]
      have e : k = F c 0 := by omega
      rw [e] at h
      exact h
    · rw [if_neg z, bd_r]
      refine ih (k + 1) 0 0 _ (by omega) (by omega) ((h.tr (ends_ok r hS b h01 k0 (by omega))).iff (fun y x _ _ _ => ?_)) (by omega)
      constructor
      · rintro (⟨k', w1, w2, w⟩ | w)
        · exact ⟨k', w1, by omega, w⟩
        · exact ⟨k, k0, by omega, w⟩
      · rintro ⟨k', w1, w2, w⟩
        by_cases q : k' = k
        · rw [q] at w; exact Or.inr w
        · exact Or.inl ⟨k', w1, by omega, w⟩
/-- what laysValues leaves -/
def LVP (c : Nat) (F : Nat → Nat → Int) (s0 s : ST) : Prop := (∀ q, q ≠ 103 → s.1 q = s0.1 q) ∧ s.2.2 = s0.2.2 ∧ (∀ q, q ≠ 104 → s.2.1 q = s0.2.1 q) ∧ (∀ y x, 0 ≤ y → y < 585 → 0 ≤ x → x < 608 → (RH s y x ↔ HVV c F 10 y x ∨ EAb c F (F c 0) y x)) ∧ (∀ k j, 0 ≤ k → k < F c 0 → 0 ≤ j → (bt (s.2.1 104 k.toNat) j ↔ VVV c F 10 k j))
theorem values_ok {s0 : ST} (hr : RS F s0) (hS : F 70 6 = S) (b : BRI c S F) (h01 : H01 F) (hz : ∀ y x, 0 ≤ y → y < 585 → 0 ≤ x → x < 608 → ¬ RH s0 y x) : LVP c F s0 (f_X8_laysValues2 s0) := by
  have f := b.2.2.2.2.1
  have n40 := f.1
  have bg := BG_le 7090
  unfold f_X8_laysValues2
  obtain ⟨n1, s1, m1, r1, e1⟩ := (lv_k hr hS b h01 (BG 7090)).1 0 0 0 s0 (by omega) (by omega) (RDH.no (fun _ _ => UA.nil)) (by omega)
  rw [e1]
  have p5 := f.2.1
  obtain ⟨n2, s2, m2, r2, e2⟩ := (lv_p hr hS b h01 (A := UA c F (F c 0) 0) n1).1 0 0 0 s1 (by omega) (by omega) (r1.iff (fun y x _ _ _ => ⟨Or.inl, fun w => by rcases w with w | w; (exact w); (exact absurd w UPX.nil)⟩)) (by omega)
  rw [e2]
  have rs2 := hr.e r2.1
  obtain ⟨n3, s3, m3, q3, v3, e3⟩ := (lv_v rs2 hS b n2).1 0 0 0 s2 (by omega) (by omega) ⟨rfl, rfl, fun _ _ => rfl⟩ (fun k' j w1 w2 w3 => by omega) (by omega)
  rw [e3]
  have h2 : ∀ y x, 0 ≤ y → y < 585 → 0 ≤ x → x < 608 → (RH s2 y x ↔ HVV c F 10 y x) := fun y x y0 y1 x0 x1 => by
    rw [r2.2 y x y0 x0 x1]
    show RH s0 y x ∨ (UA c F (F c 0) 0 y x ∨ UPX c F (F c 1) 0 y x) ↔ HVV c F 10 y x
    rw [hv_all f]
    exact ⟨fun w => by rcases w with w | w; (exact absurd w (hz y x y0 y1 x0 x1)); (exact w), Or.inr⟩
  have r4 := lv_e (rs2.q q3.1) hS b h01 n3 0 0 0 s3 (by omega) (by omega) (RDH.no (fun y x => by rintro ⟨k', w1, w2, w⟩; omega)) (by omega)
  refine ⟨fun q hq => ?_, ?_, fun q hq => ?_, fun y x y0 y1 x0 x1 => ?_, fun k j k0 k1 j0 => ?_⟩
  · rw [r4.1.2 q hq, q3.1, r2.1.2 q hq]
  · rw [show (f_X8_laysValues2_ n3 236 0 0 0 s3).2 = s3.2 from r4.1.1, q3.2.1, show s2.2 = s0.2 from r2.1.1]
  · rw [show (f_X8_laysValues2_ n3 236 0 0 0 s3).2 = s3.2 from r4.1.1, q3.2.2 q hq, show s2.2 = s0.2 from r2.1.1]
  · rw [r4.2 y x y0 x0 x1]
    refine or_congr ?_ Iff.rfl
    rw [← h2 y x y0 y1 x0 x1]
    unfold RH
    rw [q3.1]
  · rw [show (f_X8_laysValues2_ n3 236 0 0 0 s3).2 = s3.2 from r4.1.1, v3 k j k0 k1 j0]
    exact ah_v f h2 k0 k1 j0
end E
