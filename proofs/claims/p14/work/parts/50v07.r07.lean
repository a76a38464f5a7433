/-! the reference: places that are reached, and those that wait -/
def RX (s : ST) (x : Int) : Prop := ib (s.1 109 (x / 32).toNat) (x % 32)
def EQR (s s' : ST) : Prop := s'.2 = s.2 ∧ ∀ p j, p ≠ 109 → p ≠ 110 → ¬ (p = 70 ∧ j = 47) → s'.1 p j = s.1 p j
theorem EQR.rfl {s : ST} : EQR s s := ⟨_root_.rfl, fun _ _ _ _ _ => _root_.rfl⟩
theorem EQR.tr {s u w : ST} (a : EQR s u) (b : EQR u w) : EQR s w := ⟨b.1.trans a.1, fun p j h1 h2 h3 => (b.2 p j h1 h2 h3).trans (a.2 p j h1 h2 h3)⟩
noncomputable def CN9 (s : ST) : Nat := cc (fun k : Nat => RX s (k : Int)) 585
theorem CN9.le (s : ST) : CN9 s ≤ 585 := cc_le _ _
theorem isx_r {s : ST} {x : Int} (x0 : 0 ≤ x) : f_X8_isInSet_x2 s x = 0 ↔ ¬ RX s x := by
  unfold f_X8_isInSet_x2 RX
  rw [bd_r, bd_r, bd_r]
  have h := ib_us (v := s.1 109 (x / 32).toNat) (k := x % 32) (by omega) (by omega)
  by_cases z : o_iand (o_iushr (s.1 109 (x / 32).toNat) (x % 32)) 1 = 1
  · rw [if_neg (fun w => w z)]
    exact ⟨fun w => absurd w (by decide), fun w => absurd (h.mp z) w⟩
  · rw [if_pos z]
    exact ⟨fun _ w => z (h.mpr w), fun _ => rfl⟩
theorem isx_r2 {s : ST} {x : Int} (x0 : 0 ≤ x) : f_X8_isInSet2 s x = 0 ↔ ¬ RX s x := isx_r (s := s) x0
/-- after a place was reached: what is new waits -/
def RCH (s s' : ST) (x : Int) : Prop := EQR s s' ∧ (∀ z, 0 ≤ z → z < 585 → (RX s' z ↔ RX s z ∨ z = x)) ∧ (s.1 70 47 ≤ s'.1 70 47) ∧ (∀ j, 0 ≤ j → j < s.1 70 47 → s'.1 110 j.toNat = s.1 110 j.toNat) ∧ (∀ j, s.1 70 47 ≤ j → j < s'.1 70 47 → s'.1 110 j.toNat = x) ∧ (¬ RX s x → s'.1 70 47 = s.1 70 47 + 1) ∧ (RX s x → s'.1 70 47 = s.1 70 47) ∧ ((CN9 s' : Int) - s'.1 70 47 = (CN9 s : Int) - s.1 70 47)
theorem reach_ok {s : ST} {x : Int} (x0 : 0 ≤ x) (x1 : x < 585) (w0 : 0 ≤ s.1 70 47) : RCH s (f_X8_reach2 s x) x := by
  unfold f_X8_reach2
  rw [bd_r, bd_r]
  have h := isx_r (s := s) x0
  by_cases z : f_X8_isInSet_x2 s x = 0
  · have nx := h.mp z
    rw [if_pos z, bd_r, bd_r, bd_r, bd_r, bd_r, bd_r]
    obtain ⟨t, ht⟩ : ∃ t, t = sI (sI (sI s 109 (x / 32).toNat (o_ior (s.1 109 (x / 32).toNat) (o_ishl 1 (x % 32)))) 110 (s.1 70 47).toNat x) 70 47 (s.1 70 47 + 1) := ⟨_, rfl⟩
    rw [← ht]
    have e47 : t.1 70 47 = s.1 70 47 + 1 := by rw [ht]; exact sI_eq _ _ _ _
    have e110 : ∀ j : Nat, t.1 110 j = if j = (s.1 70 47).toNat then x else s.1 110 j := fun j => by
      rw [ht, sI_nc (show (110 : Nat) ≠ 70 by decide)]
      by_cases q : j = (s.1 70 47).toNat
      · rw [if_pos q, q, sI_eq]
      · rw [if_neg q, sI_ne (fun w => q w.2), sI_nc (show (110 : Nat) ≠ 109 by decide)]
    have e109 : ∀ j : Nat, t.1 109 j = if j = (x / 32).toNat then o_ior (s.1 109 (x / 32).toNat) (o_ishl 1 (x % 32)) else s.1 109 j := fun j => by
      rw [ht, sI_nc (show (109 : Nat) ≠ 70 by decide), sI_nc (show (109 : Nat) ≠ 110 by decide)]
      by_cases q : j = (x / 32).toNat
      · rw [if_pos q, q, sI_eq]
      · rw [if_neg q, sI_ne (fun w => q w.2)]
    have rx : ∀ y, 0 ≤ y → y < 585 → (RX t y ↔ RX s y ∨ y = x) := fun y y0 y1 => by
      unfold RX
      rw [e109]
      by_cases q : (y / 32).toNat = (x / 32).toNat
      · rw [if_pos q, ib_or (by omega) (by omega) (by omega) (by omega), ← q]
        constructor
        · rintro (w | w)
          · exact Or.inl w
          · exact Or.inr (by omega)
        · rintro (w | w)
          · exact Or.inl w
          · exact Or.inr (by omega)
      · rw [if_neg q]
        refine ⟨Or.inl, fun w => ?_⟩
        rcases w with w | w
        · exact w
        · exact absurd (by rw [w]) q
    have cn : CN9 t = CN9 s + 1 := by
      unfold CN9
      refine cc_add (x := x.toNat) (by omega) (by show ¬ RX s ((x.toNat : Nat) : Int); rw [show ((x.toNat : Nat) : Int) = x by omega]; exact nx) (fun k hk => ?_)
      rw [rx (k : Int) (by omega) (by omega)]
      constructor
      · rintro (w | w)
        · exact Or.inl w
        · exact Or.inr (by omega)
      · rintro (w | w)
        · exact Or.inl w
        · exact Or.inr (by omega)
    refine ⟨⟨?_, fun p j h1 h2 h3 => ?_⟩, rx, by omega, fun j j0 j1 => ?_, fun j j0 j1 => ?_, fun _ => e47, fun w => absurd w nx, by omega⟩
    · rw [ht]; rfl
    · rw [ht, sI_ne h3, sI_ne (fun w => h2 w.1), sI_ne (fun w => h1 w.1)]
    · rw [e110, if_neg (by omega)]
    · rw [e110, if_pos (by omega)]
  · have yx : RX s x := Classical.byContradiction (fun w => z (h.mpr w))
    rw [if_neg z]
    exact ⟨EQR.rfl, fun y _ _ => ⟨Or.inl, fun w => by rcases w with w | w; (exact w); (rw [w]; exact yx)⟩, Int.le_refl _, fun _ _ _ => rfl, fun j j0 j1 => by omega, fun w => absurd yx w, fun _ => rfl, rfl⟩
theorem em_n : ∀ (n lab : Nat) (l : Int) (s : ST), 0 ≤ l → l ≤ 19 → 30 - l < (n : Int) → EQR s (f_X8_empties_x2_ n lab l s) ∧ (f_X8_empties_x2_ n lab l s).1 70 47 = 0 ∧ (∀ j : Nat, (j : Int) < l → (f_X8_empties_x2_ n lab l s).1 109 j = s.1 109 j) ∧ ∀ j : Nat, l ≤ (j : Int) → j < 19 → (f_X8_empties_x2_ n lab l s).1 109 j = 0 := by
  intro n
  induction n with
  | zero => intros; omega
  | succ n ih =>
    intro lab l s l0 l1 hm
    rw [f_X8_empties_x2_]
    by_cases z : 19 ≤ l
    · rw [if_pos z, bd_r]
      exact ⟨⟨rfl, fun p j _ _ h3 => sI_ne h3⟩, sI_eq _ _ _ _, fun j _ => by rw [sI_nc (show (109 : Nat) ≠ 70 by decide)], fun j j0 j1 => by omega⟩
    · rw [if_neg z, bd_r]
      obtain ⟨a1, a2, a3, a4⟩ := ih 2 (l + 1) (sI s 109 l.toNat 0) (by omega) (by omega) (by omega)
      have es : EQR s (sI s 109 l.toNat 0) := ⟨rfl, fun p j h1 _ _ => sI_ne (fun w => h1 w.1)⟩
      refine ⟨es.tr a1, a2, fun j j0 => ?_, fun j j0 j1 => ?_⟩
      · rw [a3 j (by omega), sI_ne (by omega)]
      · by_cases k : (j : Int) = l
        · rw [a3 j (by omega), show l.toNat = j by omega, sI_eq]
        · exact a4 j (by omega) j1
theorem em_ok (s : ST) : EQR s (f_X8_empties_x2 s) ∧ (f_X8_empties_x2 s).1 70 47 = 0 ∧ (∀ x, 0 ≤ x → x < 585 → ¬ RX (f_X8_empties_x2 s) x) ∧ CN9 (f_X8_empties_x2 s) = 0 := by
  unfold f_X8_empties_x2
  obtain ⟨a1, a2, a3, a4⟩ := em_n 76 2 0 s (by omega) (by omega) (by omega)
  have no : ∀ x, 0 ≤ x → x < 585 → ¬ RX (f_X8_empties_x2_ 76 2 0 s) x := fun x x0 x1 h => by
    unfold RX at h
    rw [a4 (x / 32).toNat (by omega) (by omega)] at h
    exact ib_0 h
  exact ⟨a1, a2, no, cc_none (fun k hk => no (k : Int) (by omega) (by omega))⟩

