/-! on what places hang in the reference: operands, calls, ports, ends -/
theorem RDH.tr {s u w : ST} {A B : Int → Int → Prop} (a : RDH s u A) (b : RDH u w B) : RDH s w (fun y x => A y x ∨ B y x) := ⟨a.1.tr b.1, fun y x y0 x0 x1 => by
  rw [b.2 y x y0 x0 x1, a.2 y x y0 x0 x1]
  exact or_assoc⟩
theorem RDH.iff {s u : ST} {A B : Int → Int → Prop} (a : RDH s u A) (h : ∀ y x, 0 ≤ y → 0 ≤ x → x < 608 → (A y x ↔ B y x)) : RDH s u B := ⟨a.1, fun y x y0 x0 x1 => by
  rw [a.2 y x y0 x0 x1, h y x y0 x0 x1]⟩
theorem RDH.no {s : ST} {A : Int → Int → Prop} (h : ∀ y x, ¬ A y x) : RDH s s A := ⟨EQI.rfl, fun y x _ _ _ => ⟨Or.inl, fun z => by rcases z with z | z; (exact z); (exact absurd z (h y x))⟩⟩
theorem hang_d {s : ST} {y x : Int} (y0 : 0 ≤ y) (x0 : 0 ≤ x) (x1 : x < 608) : RDH s (f_X8_hang2 s y x) (fun y' x' => y' = y ∧ x' = x) := ⟨hang_e, fun _ _ y0' x0' x1' => hang_r y0 x0 x1 y0' x0' x1'⟩
section E
variable {c : Nat} {S : Int} {F : Nat → Nat → Int} {s : ST}
theorem RS.h {y x : Int} (r : RS F s) : RS F (f_X8_hang2 s y x) := r.e hang_e
theorem ends_ok (hr : RS F s) (hS : F 70 6 = S) (b : BRI c S F) (h01 : H01 F) {k : Int} (k0 : 0 ≤ k) (k1 : k < F c 0) : RDH s (f_X8_ends_x2 s k) (EA1 c F k) := by
  have f := b.2.2.2.2.1
  have n40 := f.1
  have p5 := f.2.1
  have br := b.2.2.2.2.2.1 k k0 k1
  have e := f.2.2.2.2.1 k k0 k1
  obtain ⟨o, ho⟩ : ∃ o, o = F (c + 3) k.toNat := ⟨_, rfl⟩
  rw [← ho] at e
  have o01 := e.2.2.1
  have g70 : ∀ s' : ST, RS F s' → s'.1 70 6 = S := fun s' h => by rw [h.g (q := 70) (j := 6) (by omega), hS]
  have gM : ∀ s' : ST, RS F s' → s'.1 102 (5 * S + o).toNat = F 102 (5 * S + o).toNat := fun s' h => h.g (by omega)
  have fl := (b.2.2.2.2.2.2.1 o o01.1 o01.2).2.2.2.2
  have v01 := h01 102 (5 * S + o).toNat (by omega)
  have eo : f_X8_procedureOf2 s k = o := by rw [own_r8 hr hS b k0 k1, ho]
  have ek := kind_r8 hr hS b k0 k1
  have e98 : s.1 98 (40 * S + k).toNat = F 98 (40 * S + k).toNat := hr.g (by omega)
  have e99 : s.1 99 (40 * S + k).toNat = F (c + 14) k.toNat := by rw [hr.g (by omega)]; exact br.2.2.2.2.2.2.2.2.1
  have th := thr_r8 hr hS b h01 k0 k1
  rw [← thx_e] at th
  have b14 := br.2.2.2.2.2.2.2.2.2.2
  -- two places hang, or one
  have one : ∀ d : Int, 0 ≤ d → d < 12 → F 102 (5 * S + o).toNat = 0 → (∀ y x, EA1 c F k y x ↔ (y = 13 * (40 + o) + 7 ∧ x = 13 * k + d) ∨ (FB (F c 4) o ∧ y = 13 * (40 + o) + 8 ∧ x = 13 * k + (if F (c + 2) k.toNat = 1 then 8 else 0))) → RDH s (f_X8_hang2 s (520 + 13 * o + 7) (13 * k + d)) (EA1 c F k) := by
    intro d d0 d1 m hE
    refine (hang_d (s := s) (y := 520 + 13 * o + 7) (x := 13 * k + d) (by omega) (by omega) (by omega)).iff (fun y x _ _ _ => ?_)
    rw [hE]
    constructor
    · rintro ⟨w1, w2⟩; exact Or.inl ⟨by omega, w2⟩
    · rintro (⟨w1, w2⟩ | ⟨w1, w2⟩)
      · exact ⟨by omega, w2⟩
      · have := fl.mp w1; omega
  have two : ∀ d e2 : Int, 0 ≤ d → d < 12 → 0 ≤ e2 → e2 < 13 → ¬ F 102 (5 * S + o).toNat = 0 → (∀ y x, EA1 c F k y x ↔ (y = 13 * (40 + o) + 7 ∧ x = 13 * k + d) ∨ (FB (F c 4) o ∧ y = 13 * (40 + o) + 8 ∧ x = 13 * k + e2)) → RDH s (f_X8_hang2 (f_X8_hang2 s (520 + 13 * o + 7) (13 * k + d)) (520 + 13 * o + 8) (13 * k + e2)) (EA1 c F k) := by
    intro d e2 d0 d1 e20 e21 m hE
    have a1 := hang_d (s := s) (y := 520 + 13 * o + 7) (x := 13 * k + d) (by omega) (by omega) (by omega)
    have a2 := hang_d (s := f_X8_hang2 s (520 + 13 * o + 7) (13 * k + d)) (y := 520 + 13 * o + 8) (x := 13 * k + e2) (by omega) (by omega) (by omega)
    have fb : FB (F c 4) o := fl.mpr (by omega)
    refine (a1.tr a2).iff (fun y x _ _ _ => ?_)
    rw [hE]
    constructor
    · rintro (⟨w1, w2⟩ | ⟨w1, w2⟩)
      · exact Or.inl ⟨by omega, w2⟩
      · exact Or.inr ⟨fb, by omega, w2⟩
    · rintro (⟨w1, w2⟩ | ⟨w1, w2, w3⟩)
      · exact Or.inl ⟨by omega, w2⟩
      · exact Or.inr ⟨by omega, w3⟩
  have none : ¬ (F (c + 2) k.toNat = 5 ∨ cES c F k) → RDH s s (EA1 c F k) := fun h => RDH.no (fun _ _ w => h w.1)
  have pl : ∀ (s' : ST) (q : Int), f_X8_procedurePlace2 s' o q = 520 + 13 * o + q := fun s' q => by unfold f_X8_procedurePlace2; rfl
  have sp : ∀ (s' : ST) (q : Int), f_X8_statementPlace2 s' k q = 13 * k + q := fun s' q => by unfold f_X8_statementPlace2; rfl
  have nn : ¬ F (c + 14) k.toNat = -1 → ¬ F (c + 2) k.toNat = 5 → RDH s s (EA1 c F k) := fun y9 z5 => none (fun w => by
    rcases w with w | w
    · exact z5 w
    · have := w.1
      have := b14.1
      omega)
  have hz : ¬ F (c + 2) k.toNat = 1 → (F (c + 2) k.toNat = 5 ∨ cES c F k) → ∀ y x, EA1 c F k y x ↔ (y = 13 * (40 + o) + 7 ∧ x = 13 * k + 0) ∨ (FB (F c 4) o ∧ y = 13 * (40 + o) + 8 ∧ x = 13 * k + (if F (c + 2) k.toNat = 1 then 8 else 0)) := fun n1 hh y x => by
    unfold EA1
    rw [← ho, if_neg n1]
    exact ⟨fun w => w.2, fun w => ⟨hh, w⟩⟩
  unfold f_X8_ends_x2
  rw [bd_r, eo, bd_r, g70 s hr, bd_r, e98]
  by_cases z5 : F (c + 2) k.toNat = 5
  · have t0 : f_X8_isThrowing2 s k = 0 := th.mpr (fun w => by omega)
    have n1 : ¬ F (c + 2) k.toNat = 1 := by omega
    have h5 := hz n1 (Or.inl z5)
    by_cases m : F 102 (5 * S + o).toNat = 0
    · have r1 := one 0 (by omega) (by omega) m h5
      by_cases y8 : F 98 (40 * S + k).toNat = -1
      · rw [if_neg (fun w => w y8), bd_r, e99]
        by_cases y9 : F (c + 14) k.toNat = -1
        · rw [if_neg (fun w => w y9), bd_r, ek, if_pos z5, bd_r, if_pos t0, bd_r, bd_r, bd_r, bd_r, g70 _ (RS.h hr), bd_r, gM _ (RS.h hr), if_neg (fun w => w m), pl, sp]
          exact r1
        · rw [if_pos y9, bd_r, ek, if_pos z5, bd_r, if_pos t0, bd_r, bd_r, bd_r, bd_r, g70 _ (RS.h hr), bd_r, gM _ (RS.h hr), if_neg (fun w => w m), pl, sp]
          exact r1
      · rw [if_pos y8, bd_r, ek, if_pos z5, bd_r, if_pos t0, bd_r, bd_r, bd_r, bd_r, g70 _ (RS.h hr), bd_r, gM _ (RS.h hr), if_neg (fun w => w m), pl, sp]
        exact r1
    · rw [if_neg n1] at h5
      have r1 := two 0 0 (by omega) (by omega) (by omega) (by omega) m h5
      by_cases y8 : F 98 (40 * S + k).toNat = -1
      · rw [if_neg (fun w => w y8), bd_r, e99]
        by_cases y9 : F (c + 14) k.toNat = -1
        · rw [if_neg (fun w => w y9), bd_r, ek, if_pos z5, bd_r, if_pos t0, bd_r, bd_r, bd_r, bd_r, g70 _ (RS.h hr), bd_r, gM _ (RS.h hr), if_pos m, bd_r, bd_r, bd_r, pl, sp, pl, sp]
          exact r1
        · rw [if_pos y9, bd_r, ek, if_pos z5, bd_r, if_pos t0, bd_r, bd_r, bd_r, bd_r, g70 _ (RS.h hr), bd_r, gM _ (RS.h hr), if_pos m, bd_r, bd_r, bd_r, pl, sp, pl, sp]
          exact r1
      · rw [if_pos y8, bd_r, ek, if_pos z5, bd_r, if_pos t0, bd_r, bd_r, bd_r, bd_r, g70 _ (RS.h hr), bd_r, gM _ (RS.h hr), if_pos m, bd_r, bd_r, bd_r, pl, sp, pl, sp]
        exact r1
  · have same : ∀ v : Int, (if ¬ v = 0 then s else s) = s := fun v => by split <;> rfl
    by_cases z4 : F (c + 2) k.toNat = 4
    · have t0 : f_X8_isThrowing2 s k = 0 := th.mpr (fun w => by omega)
      have n1 : ¬ F (c + 2) k.toNat = 1 := by omega
      by_cases y8 : F 98 (40 * S + k).toNat = -1
      · rw [if_neg (fun w => w y8), bd_r, e99]
        by_cases y9 : F (c + 14) k.toNat = -1
        · have h4 := hz n1 (Or.inr ⟨by omega, Or.inl z4⟩)
          rw [if_neg (fun w => w y9), bd_r, ek, if_neg z5, bd_r, if_neg (fun w => w z4), bd_r, if_pos t0, bd_r, bd_r, bd_r, bd_r, g70 _ (RS.h hr), bd_r, gM _ (RS.h hr)]
          by_cases m : F 102 (5 * S + o).toNat = 0
          · rw [if_neg (fun w => w m), pl, sp]
            exact one 0 (by omega) (by omega) m h4
          · rw [if_neg n1] at h4
            rw [if_pos m, bd_r, bd_r, bd_r, pl, sp, pl, sp]
            exact two 0 0 (by omega) (by omega) (by omega) (by omega) m h4
        · rw [if_pos y9, bd_r, ek, if_neg z5, bd_r, if_neg (fun w => w z4), bd_r, if_pos t0, bd_r, same]
          exact nn y9 z5
      · have y9 : ¬ F (c + 14) k.toNat = -1 := fun w => y8 (b14.2.1 w)
        rw [if_pos y8, bd_r, ek, if_neg z5, bd_r, if_neg (fun w => w z4), bd_r, if_pos t0, bd_r, same]
        exact nn y9 z5
    · by_cases y8 : F 98 (40 * S + k).toNat = -1
      · rw [if_neg (fun w => w y8), bd_r, e99]
        by_cases y9 : F (c + 14) k.toNat = -1
        · rw [if_neg (fun w => w y9), bd_r, ek, if_neg z5, bd_r, if_pos z4, bd_r]
          by_cases t : f_X8_isThrowing2 s k = 0
          · rw [if_pos t, bd_r, same]
            refine none (fun w => ?_)
            rcases w with w | w
            · exact z5 w
            · rcases w.2 with v | v
              · exact z4 v
              · exact th.mp t v
          · have tt : F (c + 2) k.toNat = 1 ∧ FB (F c 4) (F (c + 7) k.toNat) := Classical.byContradiction (fun w => t (th.mpr w))
            have h1 : ∀ y x, EA1 c F k y x ↔ (y = 13 * (40 + o) + 7 ∧ x = 13 * k + 7) ∨ (FB (F c 4) o ∧ y = 13 * (40 + o) + 8 ∧ x = 13 * k + (if F (c + 2) k.toNat = 1 then 8 else 0)) := fun y x => by
              unfold EA1
              rw [← ho, if_pos tt.1]
              exact ⟨fun w => w.2, fun w => ⟨Or.inr ⟨by omega, Or.inr tt⟩, w⟩⟩
            rw [if_neg t, bd_r, bd_r, bd_r, bd_r, g70 _ (RS.h hr), bd_r, gM _ (RS.h hr)]
            by_cases m : F 102 (5 * S + o).toNat = 0
            · rw [if_neg (fun w => w m), pl, sp]
              exact one 7 (by omega) (by omega) m h1
            · rw [if_pos tt.1] at h1
              rw [if_pos m, bd_r, bd_r, bd_r, pl, sp, pl, sp]
              exact two 7 8 (by omega) (by omega) (by omega) (by omega) m h1
        · rw [if_pos y9, bd_r, ek, if_neg z5, bd_r, if_pos z4, bd_r]
          by_cases t : f_X8_isThrowing2 s k = 0
          · rw [if_pos t, bd_r, same]; exact nn y9 z5
          · rw [if_neg t, bd_r, same]; exact nn y9 z5
      · have y9 : ¬ F (c + 14) k.toNat = -1 := fun w => y8 (b14.2.1 w)
        rw [if_pos y8, bd_r, ek, if_neg z5, bd_r, if_pos z4, bd_r]
        by_cases t : f_X8_isThrowing2 s k = 0
        · rw [if_pos t, bd_r, same]; exact nn y9 z5
        · rw [if_neg t, bd_r, same]; exact nn y9 z5
theorem useop_ok (hr : RS F s) (hS : F 70 6 = S) (b : BRI c S F) (h01 : H01 F) {k y pos a : Int} (y0 : 0 ≤ y) (k0 : 0 ≤ k) (k1 : k < F c 0) (ha : OV a (F 89 (2 * F 93 (40 * S + k).toNat + pos).toNat)) : RDH s (f_X8_usesOperand2 s y k pos) (fun y' x => 0 ≤ a ∧ a ≤ 9 ∧ uA c F (F (c + 3) k.toNat) k y a y' x) := by
  have e := b.2.2.2.2.1.2.2.2.2.1 k k0 k1
  unfold f_X8_usesOperand2
  rw [bd_r, bd_r, item_r hr hS, hr.g (q := 89) (by omega)]
  by_cases z : F 89 (2 * F 93 (40 * S + k).toNat + pos).toNat < 1000
  · rw [if_pos z]
    refine RDH.no (fun y x w => ?_)
    unfold OV at ha
    omega
  · rw [if_neg z, bd_r, bd_r, own_r8 hr hS b k0 k1]
    have ea : F 89 (2 * F 93 (40 * S + k).toNat + pos).toNat - 1000 = a ∧ 0 ≤ a ∧ a ≤ 9 := by
      unfold OV at ha
      omega
    rw [ea.1]
    refine (uses_ok b h01 hS hr y0 ea.2.1 ea.2.2 e.2.2.1.1 e.2.2.1.2 (Or.inr ⟨k0, k1, rfl⟩)).iff (fun _ _ _ _ _ => ⟨fun w => ⟨ea.2.1, ea.2.2, w⟩, fun w => w.2.2⟩)
end E
