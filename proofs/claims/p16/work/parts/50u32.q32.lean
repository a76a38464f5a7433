/-! when a text was laid: the reference's tables are those of the text shown -/
theorem BRI.cg {c : Nat} {S : Int} {F F' : Nat → Nat → Int} (h : ∀ p, p < 70 ∨ (70 < p ∧ p < 103) → F' p = F p) (b : BRI c S F) : BRI c S F' := by
  have hc := b.1
  have e0 := h c (by omega)
  have e1 := h (c + 1) (by omega)
  have e2 := h (c + 2) (by omega)
  have e3 := h (c + 3) (by omega)
  have e6 := h (c + 6) (by omega)
  have e7 := h (c + 7) (by omega)
  have e8 := h (c + 8) (by omega)
  have e9 := h (c + 9) (by omega)
  have e10 := h (c + 10) (by omega)
  have e12 := h (c + 12) (by omega)
  have e13 := h (c + 13) (by omega)
  have e14 := h (c + 14) (by omega)
  have e75 := h 75 (by omega)
  have e76 := h 76 (by omega)
  have e77 := h 77 (by omega)
  have e78 := h 78 (by omega)
  have e79 := h 79 (by omega)
  have e82 := h 82 (by omega)
  have e83 := h 83 (by omega)
  have e84 := h 84 (by omega)
  have e89 := h 89 (by omega)
  have e93 := h 93 (by omega)
  have e95 := h 95 (by omega)
  have e96 := h 96 (by omega)
  have e97 := h 97 (by omega)
  have e98 := h 98 (by omega)
  have e99 := h 99 (by omega)
  have e100 := h 100 (by omega)
  have e101 := h 101 (by omega)
  have e102 := h 102 (by omega)
  have f := cfc_c (F := F) (F' := F') (fun p p1 p2 => h p (by omega)) b.2.2.2.2.1
  unfold BRI at b ⊢
  refine ⟨hc, b.2.1, ?_, ?_, f, ?_⟩
  · rw [e75, e0]; exact b.2.2.1
  · rw [e76, show F' c 1 = F c 1 by rw [e0]]; exact b.2.2.2.1
  · have q := b.2.2.2.2.2
    unfold BRk ENDS at q ⊢
    rw [e0, e1, e2, e3, e6, e7, e8, e9, e10, e12, e13, e14, e77, e78, e79, e82, e83, e84, e89, e93, e95, e96, e97, e98, e99, e100, e101, e102]
    exact q
theorem RTB.laid {c : Nat} {S : Int} {s1 k : ST} (hS : s1.1 70 6 = S) (hk : k = f_X8_laysAll2 s1) (b : BRI c S k.1) (h01 : H01 k.1) : RTB c k.1 k := by
  have fr : GLf s1 k := by
    rw [hk]
    exact glf_X8_laysAll2
  have e : ∀ p, p < 70 ∨ (70 < p ∧ p < 103) → s1.1 p = k.1 p := fun p hp => funext fun j => (fr.2.1 p j (by omega)).symm
  have b1 : BRI c S s1.1 := b.cg e
  have h1 : H01 s1.1 := fun q j hq => by
    rw [e q (by omega)]
    exact h01 q j hq
  have l := (laysAll_ok hS b1 h1).1
  rw [← hk] at l
  exact RTB.cg (F := s1.1) (fun p p1 p2 => (e p (by have := b.1; omega)).symm) l

