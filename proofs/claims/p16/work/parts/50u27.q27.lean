/-! the class makes its tables at the first question; both sides answer the same -/
def EQF (c : Nat) (F F' : Nat → Nat → Int) : Prop := ∀ p, c ≤ p → p ≤ c + 15 → F' p = F p
section C
variable {c : Nat} {F F' : Nat → Nat → Int}
theorem cfc_c (h : EQF c F F') (f : CFC c F) : CFC c F' := by
  have e0 := h c (by omega) (by omega)
  have e1 := h (c + 1) (by omega) (by omega)
  have e2 := h (c + 2) (by omega) (by omega)
  have e3 := h (c + 3) (by omega) (by omega)
  have e7 := h (c + 7) (by omega) (by omega)
  have e12 := h (c + 12) (by omega) (by omega)
  have e13 := h (c + 13) (by omega) (by omega)
  unfold CFC UO at f ⊢
  rw [e0, e1, e2, e3, e7, e12, e13]
  exact f
theorem gu_c (h : EQF c F F') : GU c F' = GU c F := by
  have e0 := h c (by omega) (by omega)
  have e2 := h (c + 2) (by omega) (by omega)
  have e7 := h (c + 7) (by omega) (by omega)
  have e12 := h (c + 12) (by omega) (by omega)
  have e13 := h (c + 13) (by omega) (by omega)
  funext w u
  simp only [GU, GW, pfW, XS, cDE, e0, e2, e7, e12, e13]
theorem dc_c (h : EQF c F F') : DC c F' = DC c F := by
  have e0 := h c (by omega) (by omega)
  have e2 := h (c + 2) (by omega) (by omega)
  have e7 := h (c + 7) (by omega) (by omega)
  have e12 := h (c + 12) (by omega) (by omega)
  have e13 := h (c + 13) (by omega) (by omega)
  funext k u
  simp only [DC, gu_c h, cDE, e0, e2, e7, e12, e13]
theorem lt_c (h : EQF c F F') : LT c F' = LT c F := by
  have e0 := h c (by omega) (by omega)
  have e1 := h (c + 1) (by omega) (by omega)
  have e2 := h (c + 2) (by omega) (by omega)
  have e6 := h (c + 6) (by omega) (by omega)
  have e7 := h (c + 7) (by omega) (by omega)
  have e12 := h (c + 12) (by omega) (by omega)
  have e13 := h (c + 13) (by omega) (by omega)
  have e14 := h (c + 14) (by omega) (by omega)
  funext nm t u
  simp only [LT, clT, cAt, cUp, cGS, cDE, cTS, cTA, e0, e1, e2, e6, e7, e12, e13, e14]
theorem pt_c (h : EQF c F F') : pT c F' = pT c F := by
  have e2 := h (c + 2) (by omega) (by omega)
  funext nm t
  simp only [pT, e2]
theorem use_c (h : EQF c F F') : USE c F' = USE c F := by
  have e0 := h c (by omega) (by omega)
  have e2 := h (c + 2) (by omega) (by omega)
  have e9 := h (c + 9) (by omega) (by omega)
  have e10 := h (c + 10) (by omega) (by omega)
  funext nm u p
  simp only [USE, e0, e2, e9, e10]
theorem vvv_c (h : EQF c F F') : VVV c F' = VVV c F := by
  funext b y x
  simp only [VVV, VVb, use_c h, lt_c h]
theorem wwb_c (h : EQF c F F') : WWb c F' = WWb c F := by
  have e0 := h c (by omega) (by omega)
  funext b y x
  simp only [WWb, dc_c h, e0]
theorem dhc_c (h : EQF c F F') : DHc c F' = DHc c F := by
  have e0 := h c (by omega) (by omega)
  have e1 := h (c + 1) (by omega) (by omega)
  have e2 := h (c + 2) (by omega) (by omega)
  have e3 := h (c + 3) (by omega) (by omega)
  have e7 := h (c + 7) (by omega) (by omega)
  have e14 := h (c + 14) (by omega) (by omega)
  funext y x
  simp only [DHc, DWb, BGb, HVV, HVb, EAb, EA1, CAb, cES, dc_c h, gu_c h, use_c h, lt_c h, pt_c h, e0, e1, e2, e3, e7, e14]
theorem TBL.cg {s : ST} (h : EQF c F F') (t : TBL c F s) : TBL c F' s := by
  have e0 := h c (by omega) (by omega)
  have e1 := h (c + 1) (by omega) (by omega)
  unfold TBL at t ⊢
  rw [dhc_c h, vvv_c h, wwb_c h, gu_c h, e0, e1]
  exact t
theorem TBL.s {s s' : ST} (h : ∀ p j, 58 ≤ p → p ≤ 61 → s'.2.1 p j = s.2.1 p j) (t : TBL c F s) : TBL c F s' := by
  unfold TBL CH BV BW at t ⊢
  have e58 : s'.2.1 58 = s.2.1 58 := funext fun j => h 58 j (by omega) (by omega)
  have e59 : s'.2.1 59 = s.2.1 59 := funext fun j => h 59 j (by omega) (by omega)
  have e60 : s'.2.1 60 = s.2.1 60 := funext fun j => h 60 j (by omega) (by omega)
  have e61 : s'.2.1 61 = s.2.1 61 := funext fun j => h 61 j (by omega) (by omega)
  rw [e58, e59, e60, e61]
  exact t
theorem RTB.cg {s : ST} (h : EQF c F F') (t : RTB c F s) : RTB c F' s := by
  have e0 := h c (by omega) (by omega)
  have e1 := h (c + 1) (by omega) (by omega)
  unfold RTB BEG at t ⊢
  rw [dhc_c h, vvv_c h, wwb_c h, gu_c h, e0, e1]
  exact t
theorem RTB.s {s s' : ST} (h1 : ∀ j, s'.1 103 j = s.1 103 j) (h2 : ∀ p j, p = 104 ∨ p = 105 ∨ p = 107 → s'.2.1 p j = s.2.1 p j) (t : RTB c F s) : RTB c F s' := by
  unfold RTB BEG RH at t ⊢
  have e3 : s'.1 103 = s.1 103 := funext h1
  have e4 : s'.2.1 104 = s.2.1 104 := funext fun j => h2 104 j (by omega)
  have e5 : s'.2.1 105 = s.2.1 105 := funext fun j => h2 105 j (by omega)
  have e7 : s'.2.1 107 = s.2.1 107 := funext fun j => h2 107 j (by omega)
  rw [e3, e4, e5, e7]
  exact t
end C
/-- what the class's making of tables writes -/
def PRf (s s' : ST) : Prop := (∀ p j, ¬ (p = 51 ∨ p = 54 ∨ (p = 49 ∧ (j = 8 ∨ j = 2))) → s'.1 p j = s.1 p j) ∧ (∀ p j : Nat, ¬ (p = 49 ∨ p = 50 ∨ p = 52 ∨ p = 53 ∨ (58 ≤ p ∧ p ≤ 63)) → s'.2.1 p j = s.2.1 p j) ∧ (∀ p j : Nat, ¬ ((p = 49 ∧ j = 1) ∨ (p = 57 ∧ j = 6)) → s'.2.2 p j = s.2.2 p j)
theorem prepare_ok {c : Nat} {s : ST} (hc : c = 2 ∨ c = 18) (f : CFC c s.1) (cl : CLB c s) (pr : s.1 49 2 = 0 ∨ TBL c s.1 s) : TBL c s.1 (f_X4_prepare2 s c) ∧ PRf s (f_X4_prepare2 s c) := by
  unfold f_X4_prepare2
  rw [bd_r]
  by_cases z : s.1 49 2 = 0
  · rw [if_pos z, bd_r, bd_r, bd_r, bd_r, bd_r, bd_r]
    obtain ⟨s45, h45⟩ : ∃ x, x = sR (sI s 49 2 1) 49 1 c := ⟨_, rfl⟩
    rw [← h45]
    have i45 : ∀ p j, ¬ (p = 49 ∧ j = 2) → s45.1 p j = s.1 p j := fun p j hp => by
      rw [h45]
      show (sI s 49 2 1).1 p j = _
      exact sI_ne hp
    have l45 : s45.2.1 = s.2.1 := by rw [h45]; rfl
    have c47 : s45.2.2 49 1 = c := by
      rw [h45]
      show (if 49 = 49 ∧ 1 = 1 then c else s.2.2 49 1) = c
      rw [if_pos ⟨rfl, rfl⟩]
    have r45 : ∀ p j : Nat, ¬ (p = 49 ∧ j = 1) → s45.2.2 p j = s.2.2 p j := fun p j hp => by
      rw [h45]
      show (if p = 49 ∧ j = 1 then c else s.2.2 p j) = _
      rw [if_neg hp]
    rw [c47]
    have e45 : EQF c s.1 s45.1 := fun p h1 h2 => funext fun j => i45 p j (by omega)
    have cl45 : CLB c s45 := fun k k0 k1 => by
      rw [l45, e45 c (by omega) (by omega), e45 (c + 2) (by omega) (by omega)]
      exact cl k k0 k1
    have b := build_ok hc (cfc_c e45 f) cl45
    have t1 : TBL c s.1 (f_X1_build2 s45 c) := TBL.cg (fun p h1 h2 => (e45 p h1 h2).symm) b.2
    generalize f_X1_build2 s45 c = s49 at b t1 ⊢
    have g := gcf_X4_prepare2_ 760 41 0 0 (sL (sL s49 49 10 0) 49 12 0)
    generalize f_X4_prepare2_ 760 41 0 0 (sL (sL s49 49 10 0) 49 12 0) = s' at g ⊢
    have e1 : ∀ p j, s49.1 p j = s45.1 p j := fun p j => by rw [b.1.1]; rfl
    have e2 : ∀ p j, p < 58 ∨ 63 < p → s49.2.1 p j = s45.2.1 p j := fun p j hp => by rw [b.1.2.2 p hp]; rfl
    have e3 : ∀ p j : Nat, ¬ (p = 57 ∧ j = 6) → s49.2.2 p j = s45.2.2 p j := fun p j hp => by
      rw [b.1.2.1]
      show (if p = 57 ∧ j = 6 then c else s45.2.2 p j) = _
      rw [if_neg hp]
    have g3 : ∀ p j : Nat, p ≠ 49 → ¬ (p = 50 ∨ p = 52 ∨ p = 53) → s'.2.1 p j = s49.2.1 p j := fun p j hp hq => by
      rw [g.2.2 p j hq, sL_nc hp, sL_nc hp]
    refine ⟨t1.s (fun p j h1 h2 => g3 p j (by omega) (by omega)), fun p j hp => ?_, fun p j hp => ?_, fun p j hp => ?_⟩
    · rw [g.2.1 p j (by omega)]
      show s49.1 p j = s.1 p j
      rw [e1, i45 p j (by omega)]
    · rw [g3 p j (by omega) (by omega), e2 p j (by omega), l45]
    · rw [g.1]
      show s49.2.2 p j = s.2.2 p j
      rw [e3 p j (by omega), r45 p j (by omega)]
  · rw [if_neg z]
    rcases pr with w | w
    · exact absurd w z
    · exact ⟨w, fun _ _ _ => rfl, fun _ _ _ => rfl, fun _ _ _ => rfl⟩
/-- what both sides have, where a text is shown -/
def BOTH (c : Nat) (S : Int) (s : ST) : Prop := BRI c S s.1 ∧ CLB c s ∧ RTB c s.1 s
/-- where both sides stand: no text, or one with its tables -/
def TXT (c : Nat) (s : ST) : Prop := (s.1 70 30 = 0 ∧ s.1 c 0 = 0 ∧ s.1 c 1 = 0) ∨ (¬ s.1 70 30 = 0 ∧ BOTH c (s.1 70 29) s)
