/-! the reference's questions -/
section Q8
variable {c : Nat} {s : ST}
theorem st8_r (t : TXU c s) {a : Int} : f_X8_isStatement2 s a = 0 ↔ ¬ (0 ≤ a ∧ a < s.1 c 0) := by
  rw [isst_8]
  rcases t with t | t
  · exact ⟨fun _ w => by omega, fun _ => Or.inl t.1⟩
  · rw [t.2.1.2.2.1]
    exact ⟨fun w => by rcases w with w | w; (exact absurd w t.1); (exact w), Or.inr⟩
/-- the reference turns to the text that is shown -/
theorem side_u (t : ¬ s.1 70 30 = 0 ∧ BRI c (s.1 70 29) s.1 ∧ CLB c s ∧ NCL c s.1 ∧ RTB c s.1 s ∧ RT2 c s.1 s) : ∃ F, F = (sI s 70 6 (s.1 70 29)).1 ∧ F 70 6 = s.1 70 29 ∧ BRI c (s.1 70 29) F ∧ RLC c F (TSM c F) (sI s 70 6 (s.1 70 29)) ∧ EQF c s.1 F := by
  obtain ⟨s3, h3⟩ : ∃ x, x = sI s 70 6 (s.1 70 29) := ⟨_, rfl⟩
  rw [← h3]
  have n : ∀ p, p ≠ 70 → s3.1 p = s.1 p := fun p hp => by rw [h3]; exact sI_nc hp
  have b := t.2.1
  have hc := b.1
  have E : EQF c s.1 s3.1 := fun p p1 p2 => n p (by omega)
  have b3 : BRI c (s.1 70 29) s3.1 := b.cg (fun p hp => n p (by omega))
  refine ⟨s3.1, rfl, by rw [h3]; exact sI_eq _ _ _ _, b3, ⟨fun _ _ _ _ _ _ _ => rfl, fun y x y0 y1 x0 x1 => ?_, fun q p i r => ?_⟩, E⟩
  · rw [dhc_c E]
    unfold RH
    rw [n 103 (by decide)]
    exact t.2.2.2.2.1.1 y x y0 y1 x0 x1
  · rw [tsm_c E, n 108 (by decide)]
    rw [rng_c E] at r
    exact t.2.2.2.2.2.1 q p i r
theorem q8_summary (t : TXU c s) {a i k : Int} : ((f_X8_summary2 s a i k).2 = 0 ∨ (f_X8_summary2 s a i k).2 = 1) ∧ ((f_X8_summary2 s a i k).2 = 0 ↔ ¬ SUM c s.1 a i k) := by
  unfold f_X8_summary2
  rw [bd_r, bd_r, bd_r]
  have ip : f_X8_isStatement2 (sI s 70 6 (s.1 70 29)) a = f_X8_isStatement2 s a := by
    unfold f_X8_isStatement2
    rw [sI_ne (show ¬ ((70 : Nat) = 70 ∧ (30 : Nat) = 6) by omega), sI_ne (show ¬ ((70 : Nat) = 70 ∧ (29 : Nat) = 6) by omega), sI_nc (show (75 : Nat) ≠ 70 by decide)]
    rfl
  have i8 := st8_r t (a := a)
  rw [ip]
  have no : ∀ x : ST, ¬ SUM c s.1 a i k → (((x, 0) : ST × Int).2 = 0 ∨ ((x, 0) : ST × Int).2 = 1) ∧ (((x, 0) : ST × Int).2 = 0 ↔ ¬ SUM c s.1 a i k) := fun x n => ⟨Or.inl rfl, fun _ => n, fun _ => rfl⟩
  by_cases z : f_X8_isStatement2 s a = 0
  · rw [if_pos z]
    exact no _ (fun w => i8.mp z w.1)
  · rw [if_neg z]
    have ra : 0 ≤ a ∧ a < s.1 c 0 := Classical.byContradiction (fun w => z (i8.mpr w))
    rcases t with t | t
    · omega
    · obtain ⟨F, hF, hS, b, rl, E⟩ := side_u t
      generalize sI s 70 6 (s.1 70 29) = s3 at rl ⊢
      have f := b.2.2.2.2.1
      have e0 : F c = s.1 c := E c (by omega) (by omega)
      have e2 : F (c + 2) = s.1 (c + 2) := E (c + 2) (by omega) (by omega)
      have e7 : F (c + 7) = s.1 (c + 7) := E (c + 7) (by omega) (by omega)
      have a1 : a < F c 0 := by rw [e0]; exact ra.2
      rw [bd_r, kind_r8 rl.1 hS b ra.1 a1, e2]
      by_cases y : s.1 (c + 2) a.toNat = 1
      · rw [if_neg (fun w => w y), bd_r]
        by_cases x : 0 ≤ i ∧ i ≤ 5
        · rw [isIn_1 x, if_neg (by decide), bd_r]
          by_cases v : 0 ≤ k ∧ k ≤ 5
          · rw [isIn_1 v, if_pos (by decide), bd_r, bd_r, clee_r b hS rl.1 ra.1 a1, bd_r, bd_r, bd_r]
            have cq := (f.2.2.2.2.1 a ra.1 a1).2.1 (by rw [e2]; exact y)
            have th := rl.2.2 (F (c + 7) a.toNat) k i ⟨cq.1, cq.2, by omega, by omega, by omega, by omega⟩
            have bi := ib_sr (v := s3.1 108 (6 * F (c + 7) a.toNat + k).toNat) (k := i) (by omega) (by omega)
            have sm : SUM c s.1 a i k ↔ TSM c F (F (c + 7) a.toNat) k i := by
              unfold SUM
              rw [tsm_c E, e7]
              exact ⟨fun w => w.2.2.2.2, fun w => ⟨ra, y, ⟨by omega, by omega⟩, ⟨by omega, by omega⟩, w⟩⟩
            rw [sm, ← th, ← bi]
            by_cases g : o_iand (o_ishr (s3.1 108 (6 * F (c + 7) a.toNat + k).toNat) i) 1 = 1
            · rw [if_neg (fun w => w g)]
              exact ⟨Or.inr rfl, fun w => absurd (show (1 : Int) = 0 from w) (by decide), fun w => absurd g w⟩
            · rw [if_pos g]
              exact ⟨Or.inl rfl, fun _ => g, fun _ => rfl⟩
          · rw [isIn_0 v, if_neg (fun w => w rfl)]
            exact no _ (fun w => v ⟨w.2.2.2.1.1, by have := w.2.2.2.1.2; omega⟩)
        · rw [isIn_0 x, if_pos rfl]
          exact no _ (fun w => x ⟨w.2.2.1.1, by have := w.2.2.1.2; omega⟩)
      · rw [if_pos y]
        exact no _ (fun w => y w.2.1)
end Q8
