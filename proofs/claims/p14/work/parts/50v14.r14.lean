/-! the reference's questions -/
section Q8
variable {c : Nat} {s : ST}
theorem pr8_r (t : TXU c s) {a : Int} : f_X8_isProcedure2 s a = 0 ↔ ¬ (0 ≤ a ∧ a < s.1 c 1) := by
  rw [ispr_8]
  rcases t with t | t
  · exact ⟨fun _ w => by omega, fun _ => Or.inl t.1⟩
  · rw [t.2.1.2.2.2.1]
    exact ⟨fun w => by rcases w with w | w; (exact absurd w t.1); (exact w), Or.inr⟩
/-- the reference turns to the text that is shown -/
theorem side_u (t : ¬ s.1 70 30 = 0 ∧ BRI c (s.1 70 29) s.1 ∧ CLB c s ∧ NCL c s.1 ∧ RTB c s.1 s ∧ RT2 c s.1 s) : ∃ F, F = (sI s 70 6 (s.1 70 29)).1 ∧ F 70 6 = s.1 70 29 ∧ BRI c (s.1 70 29) F ∧ RLC c F (TSM c F) (sI s 70 6 (s.1 70 29)) ∧ EQF c s.1 F := by
  obtain ⟨s3, h3⟩ : ∃ x, x = sI s 70 6 (s.1 70 29) := ⟨_, rfl⟩
  rw [← h3]
  have n : ∀ p, p ≠ 70 → s3.1 p = s.1 p := fun p hp => by rw [h3]; exact sI_nc hp
  have b := t.2.1
  have hc := b.1
  have E : EQF c s.1 s3.1 := fun p p1 p2 => n p (by omega)
  have b3 : BRI c (s.1 70 29) s3.1 := b.cg (fun p hp => n p (by omega))
  refine ⟨s3.1, rfl, by rw [h3]; exact sI_eq _ _ _ _, b3, ⟨fun _ _ _ _ _ _ _ => rfl, fun y x y0 y1 x0 x1 => ?_, fun q p i r => ?_⟩, E⟩
  · rw [dhc_c E]
    unfold RH
    rw [n 103 (by decide)]
    exact t.2.2.2.2.1.1 y x y0 y1 x0 x1
  · rw [tsm_c E, n 108 (by decide)]
    rw [rng_c E] at r
    exact t.2.2.2.2.2.1 q p i r
theorem q8_backOf (t : TXU c s) {p k : Int} : ROW ((0 ≤ p ∧ p < s.1 c 1) ∧ (0 ≤ k ∧ k < 6)) (BO c s.1 p k) (f_X8_backOf2 s p k).2 := by
  unfold f_X8_backOf2
  rw [bd_r, bd_r, bd_r]
  have ip : f_X8_isProcedure2 (sI s 70 6 (s.1 70 29)) p = f_X8_isProcedure2 s p := by
    unfold f_X8_isProcedure2
    rw [sI_ne (show ¬ ((70 : Nat) = 70 ∧ (30 : Nat) = 6) by omega), sI_ne (show ¬ ((70 : Nat) = 70 ∧ (29 : Nat) = 6) by omega), sI_nc (show (76 : Nat) ≠ 70 by decide)]
    rfl
  have i8 := pr8_r t (a := p)
  rw [ip]
  by_cases z : f_X8_isProcedure2 s p = 0
  · rw [if_pos z]
    exact ⟨fun w => absurd w.1 (i8.mp z), fun _ => rfl⟩
  · rw [if_neg z, bd_r]
    by_cases y : 0 ≤ k ∧ k ≤ 5
    · rw [isIn_1 y, if_pos (by decide), bd_r, bd_r, bd_r, bd_r, bd_r]
      have ra : 0 ≤ p ∧ p < s.1 c 1 := Classical.byContradiction (fun w => z (i8.mpr w))
      rcases t with t | t
      · omega
      · obtain ⟨F, hF, hS, b, rl, E⟩ := side_u t
        generalize sI s 70 6 (s.1 70 29) = s3 at rl ⊢
        have f := b.2.2.2.2.1
        have p5 := f.2.1
        have e1 : F c 1 = s.1 c 1 := by rw [E c (by omega) (by omega)]
        have nl := nil_sr (a := 1) rl
        generalize f_X8_empties_x2 s3 = s4 at nl ⊢
        rw [show f_X8_procedurePlace2 s4 p (7 + k) = 13 * (40 + p) + 7 + k by unfold f_X8_procedurePlace2; omega]
        have ad := RIV.add (fun y z r => (STP.v f r).r f) nl.2.2.1 (show 0 ≤ 13 * (40 + p) + 7 + k by omega) (show 13 * (40 + p) + 7 + k < 585 by omega)
        generalize f_X8_reach2 s4 (13 * (40 + p) + 7 + k) = s5 at ad ⊢
        have X : (fun z => False ∨ z = 13 * (40 + p) + 7 + k) = (fun z => z = 13 * (40 + p) + 7 + k) := funext fun z => propext ⟨fun k => by rcases k with k | k; (exact absurd k id); (exact k), Or.inr⟩
        have r1 := ad.1
        rw [X] at r1
        have rl5 := nl.2.1.e ad.2.1
        have va : ∀ x, x = 13 * (40 + p) + 7 + k → VP c F x := fun x h => ⟨40 + p, 7 + k, by omega, by omega, by omega, Or.inr ⟨by omega, by omega⟩⟩
        have gk := gk_ok b hS va (s := s5) ⟨EQR.rfl, rl5, r1, ad.2.2.2.2.trans nl.2.2.2⟩
        refine ⟨fun _ j j0 => ?_, fun w => absurd ⟨ra, by omega, by omega⟩ w⟩
        show bt (f_X8_inSet2 (f_X8_goesBack2 s5)) j ↔ _
        rw [in_ok b hS (rl5.e gk.1).1 va gk.2.2 j0, ← bo_c E]
        exact Iff.rfl
    · rw [isIn_0 y, if_neg (fun w => w rfl)]
      exact ⟨fun w => absurd ⟨w.2.1, by omega⟩ y, fun _ => rfl⟩
end Q8
