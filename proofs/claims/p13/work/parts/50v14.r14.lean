/-! the reference's questions -/
section Q8
variable {c : Nat} {s : ST}
theorem st8_r (t : TXU c s) {a : Int} : f_X8_isStatement2 s a = 0 ↔ ¬ (0 ≤ a ∧ a < s.1 c 0) := by
  rw [isst_8]
  rcases t with t | t
  · exact ⟨fun _ w => by omega, fun _ => Or.inl t.1⟩
  · rw [t.2.1.2.2.1]
    exact ⟨fun w => by rcases w with w | w; (exact absurd w t.1); (exact w), Or.inr⟩
theorem fo8_n (t : ¬ s.1 70 30 = 0 ∧ BRI c (s.1 70 29) s.1 ∧ CLB c s ∧ NCL c s.1 ∧ RTB c s.1 s ∧ RT2 c s.1 s) {a : Int} (a0 : 0 ≤ a) (a1 : a ≤ 63) : ∀ (n lab : Nat) (v : Int64) (l : Int), 0 ≤ l → l ≤ s.1 c 0 → 50 - l < (n : Int) → (∀ y, 0 ≤ y → (bt v y ↔ y < l ∧ BK c s.1 y a)) → ∀ y, 0 ≤ y → (bt (f_X8_forthOf2_ n lab a v l s) y ↔ y < s.1 c 0 ∧ BK c s.1 y a) := by
  intro n
  have n40 := t.2.1.2.2.2.2.1.1
  induction n with
  | zero => intros; omega
  | succ n ih =>
    intro lab v l l0 l1 hm hv
    rw [f_X8_forthOf2_, bd_r, bd_r, t.2.1.2.2.1]
    by_cases z : s.1 c 0 ≤ l
    · rw [if_pos z]
      intro y y0
      rw [show s.1 c 0 = l by omega]
      exact hv y y0
    · rw [if_neg z, bd_r, bd_r]
      have hh := has2_r (s := s) (x := s.2.1 111 l.toNat) a0 a1
      rw [t.2.2.2.2.2.2 l a l0 (by omega) a0] at hh
      by_cases w : f_X8_has2 s (s.2.1 111 l.toNat) a = 0
      · rw [if_pos w, bd_r]
        have nb := hh.mp w
        refine ih 5 _ (l + 1) (by omega) (by omega) (by omega) (fun y y0 => ?_)
        rw [lor_r, hv y y0]
        constructor
        · rintro (h | h)
          · exact ⟨by omega, h.2⟩
          · exact absurd h bt_0
        · intro h
          by_cases k : y = l
          · rw [k] at h; exact absurd h.2 nb
          · exact Or.inl ⟨by omega, h.2⟩
      · rw [if_neg w, bd_r, bd_r]
        have yb := Classical.byContradiction (fun k => w (hh.mpr k))
        refine ih 5 _ (l + 1) (by omega) (by omega) (by omega) (fun y y0 => ?_)
        rw [lor_r, hv y y0, shl_r l0 (by omega) y0]
        constructor
        · rintro (h | h)
          · exact ⟨by omega, h.2⟩
          · rw [h]; exact ⟨by omega, yb⟩
        · intro h
          by_cases k : y = l
          · exact Or.inr k
          · exact Or.inl ⟨by omega, h.2⟩
theorem fo8_ok (t : ¬ s.1 70 30 = 0 ∧ BRI c (s.1 70 29) s.1 ∧ CLB c s ∧ NCL c s.1 ∧ RTB c s.1 s ∧ RT2 c s.1 s) {a : Int} (a0 : 0 ≤ a) (a1 : a ≤ 63) {y : Int} (y0 : 0 ≤ y) : bt (f_X8_forthOf2 s a) y ↔ y < s.1 c 0 ∧ BK c s.1 y a := by
  have n40 := t.2.1.2.2.2.2.1.1
  unfold f_X8_forthOf2
  exact fo8_n t a0 a1 139 5 0 0 (by omega) n40.1 (by omega) (fun y y0 => ⟨fun h => absurd h bt_0, fun h => by omega⟩) y y0
theorem q8_between (t : TXU c s) {a d : Int} : ROW ((0 ≤ a ∧ a < s.1 c 0) ∧ (0 ≤ d ∧ d < s.1 c 0)) (fun y => (y < s.1 c 0 ∧ BK c s.1 y a) ∧ BK c s.1 d y) (f_X8_between2 s a d) := by
  have i8 := fun x => st8_r t (a := x)
  unfold f_X8_between2
  by_cases z : f_X8_isStatement2 s a = 0
  · rw [bd_r, if_pos z]
    exact ⟨fun w => absurd w.1 ((i8 a).mp z), fun _ => rfl⟩
  · rw [bd_r, if_neg z, bd_r]
    by_cases y : f_X8_isStatement2 s d = 0
    · rw [if_pos y]
      exact ⟨fun w => absurd w.2 ((i8 d).mp y), fun _ => rfl⟩
    · rw [if_neg y, bd_r, bd_r, bd_r]
      have ra : 0 ≤ a ∧ a < s.1 c 0 := Classical.byContradiction (fun w => z ((i8 a).mpr w))
      have rd : 0 ≤ d ∧ d < s.1 c 0 := Classical.byContradiction (fun w => y ((i8 d).mpr w))
      rcases t with t | t
      · omega
      · have n40 := t.2.1.2.2.2.2.1.1
        refine ⟨fun _ j j0 => ?_, fun w => absurd ⟨ra, rd⟩ w⟩
        rw [land_r, fo8_ok t ra.1 (by omega) j0, t.2.2.2.2.2.2 d j rd.1 rd.2 j0]
end Q8
