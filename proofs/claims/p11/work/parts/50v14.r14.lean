/-! the reference's questions -/
section Q8
variable {c : Nat} {s : ST}
theorem st8_r (t : TXU c s) {a : Int} : f_X8_isStatement2 s a = 0 ↔ ¬ (0 ≤ a ∧ a < s.1 c 0) := by
  rw [isst_8]
  rcases t with t | t
  · exact ⟨fun _ w => by omega, fun _ => Or.inl t.1⟩
  · rw [t.2.1.2.2.1]
    exact ⟨fun w => by rcases w with w | w; (exact absurd w t.1); (exact w), Or.inr⟩
theorem q8_back (t : TXU c s) {a : Int} : ROW (0 ≤ a ∧ a < s.1 c 0) (BK c s.1 a) (f_X8_back2 s a) := by
  have i8 := st8_r t (a := a)
  unfold f_X8_back2
  by_cases z : f_X8_isStatement2 s a = 0
  · rw [bd_r, if_pos z]
    exact ⟨fun w => absurd w (i8.mp z), fun _ => rfl⟩
  · rw [bd_r, if_neg z, bd_r]
    have ra : 0 ≤ a ∧ a < s.1 c 0 := Classical.byContradiction (fun w => z (i8.mpr w))
    rcases t with t | t
    · omega
    · exact ⟨fun _ j j0 => t.2.2.2.2.2.2 a j ra.1 ra.2 j0, fun w => absurd ra w⟩
end Q8
