/-! frames of the class's questions -/
def GQf (s s' : ST) : Prop := s'.2.2 = s.2.2 ∧ (∀ p j, ¬ (p = 51 ∨ p = 54 ∨ (p = 49 ∧ j = 8)) → s'.1 p j = s.1 p j) ∧ (∀ p j : Nat, ¬ (p = 49 ∨ p = 50 ∨ p = 52 ∨ p = 53 ∨ p = 55 ∨ p = 56) → s'.2.1 p j = s.2.1 p j)
def GQfp {α : Type} (s : ST) (z : ST × α) : Prop := GQf s z.1
theorem GQf.rfl {s : ST} : GQf s s := ⟨_root_.rfl, fun _ _ _ => _root_.rfl, fun _ _ _ => _root_.rfl⟩
theorem GQf.tr {s u w : ST} (a : GQf s u) (b : GQf u w) : GQf s w := ⟨b.1.trans a.1, fun p j h => (b.2.1 p j h).trans (a.2.1 p j h), fun p j h => (b.2.2 p j h).trans (a.2.2 p j h)⟩
theorem GQf.trp {α : Type} {s u : ST} {w : ST × α} (a : GQf s u) (b : GQfp u w) : GQfp s w := GQf.tr a b
theorem GQf.I {p j : Nat} {s u : ST} {x : Int} (a : GQf s u) (h : p = 51 ∨ p = 54 ∨ (p = 49 ∧ j = 8)) : GQf s (sI u p j x) := ⟨a.1, fun q i hq => (sI_ne (by rintro ⟨rfl, rfl⟩; exact hq h)).trans (a.2.1 q i hq), a.2.2⟩
theorem GQf.L {p j : Nat} {s u : ST} {x : Int64} (a : GQf s u) (h : p = 49 ∨ p = 50 ∨ p = 52 ∨ p = 53 ∨ p = 55 ∨ p = 56) : GQf s (sL u p j x) := ⟨a.1, a.2.1, fun q i hq => (sL_ne (by rintro ⟨rfl, rfl⟩; exact hq h)).trans (a.2.2 q i hq)⟩

theorem gqf_J7_fill_d0a16_at522_ : ∀ (n : Nat) (lab_ : Nat) (l1 : Int64) (l3 : Int) (l4 : Int) (sx : ST), GQf sx (f_J7_fill_d0a16_at522_ n lab_ l1 l3 l4 sx) := by
  intro n
  induction n with
  | zero =>
    intro lab_ l1 l3 l4 sx
    rw [f_J7_fill_d0a16_at522_]
    exact GQf.rfl
  | succ n ih =>
    intro lab_ l1 l3 l4 sx
    rw [f_J7_fill_d0a16_at522_]
    have ksx : GQf sx sx := GQf.rfl
    refine p_if (Q := GQf sx) (fun _ => ?_) (fun _ => ?_)
    ·
      exact ksx
    ·
      refine p_bd (Q := GQf sx) (fun s4 hs4 => ?_)
      have ks4 : GQf sx s4 := by rw [hs4]; exact (GQf.L ksx (by omega))
      exact GQf.tr ks4 (ih 6 l1 ((l3 + 1)) l4 s4)
theorem gqf_J7_fill_d0a16_at522 {s : ST} {a2 : Int64} : GQf s (f_J7_fill_d0a16_at522 s a2) := by
  unfold f_J7_fill_d0a16_at522
  have ks : GQf s s := GQf.rfl
  exact GQf.tr ks (gqf_J7_fill_d0a16_at522_ 58 6 a2 0 13 s)
theorem gqf_J7_fill_d0a16_at532_ : ∀ (n : Nat) (lab_ : Nat) (l1 : Int64) (l3 : Int) (l4 : Int) (sx : ST), GQf sx (f_J7_fill_d0a16_at532_ n lab_ l1 l3 l4 sx) := by
  intro n
  induction n with
  | zero =>
    intro lab_ l1 l3 l4 sx
    rw [f_J7_fill_d0a16_at532_]
    exact GQf.rfl
  | succ n ih =>
    intro lab_ l1 l3 l4 sx
    rw [f_J7_fill_d0a16_at532_]
    have ksx : GQf sx sx := GQf.rfl
    refine p_if (Q := GQf sx) (fun _ => ?_) (fun _ => ?_)
    ·
      exact ksx
    ·
      refine p_bd (Q := GQf sx) (fun s4 hs4 => ?_)
      have ks4 : GQf sx s4 := by rw [hs4]; exact (GQf.L ksx (by omega))
      exact GQf.tr ks4 (ih 6 l1 ((l3 + 1)) l4 s4)
theorem gqf_J7_fill_d0a16_at532 {s : ST} {a2 : Int64} : GQf s (f_J7_fill_d0a16_at532 s a2) := by
  unfold f_J7_fill_d0a16_at532
  have ks : GQf s s := GQf.rfl
  exact GQf.tr ks (gqf_J7_fill_d0a16_at532_ 58 6 a2 0 13 s)
theorem gqf_X4_clearFound2 {s : ST} : GQf s (f_X4_clearFound2 s) := by
  unfold f_X4_clearFound2
  have ks : GQf s s := GQf.rfl
  refine p_bd (Q := GQf s) (fun s1 hs1 => ?_)
  have ks1 : GQf s s1 := GQf.tr ks (by rw [hs1]; exact gqf_J7_fill_d0a16_at522)
  refine p_bd (Q := GQf s) (fun s5 hs5 => ?_)
  have ks5 : GQf s s5 := GQf.tr ks1 (by rw [hs5]; exact gqf_J7_fill_d0a16_at532)
  refine p_bd (Q := GQf s) (fun s9 hs9 => ?_)
  have ks9 : GQf s s9 := by rw [hs9]; exact (GQf.I ks5 (by omega))
  exact ks9
theorem gqf_X4_add2_ : ∀ (n : Nat) (lab_ : Nat) (l2 : Int) (l5 : Int64) (l7 : Int) (sx : ST), GQf sx (f_X4_add2_ n lab_ l2 l5 l7 sx) := by
  intro n
  induction n with
  | zero =>
    intro lab_ l2 l5 l7 sx
    rw [f_X4_add2_]
    exact GQf.rfl
  | succ n ih =>
    intro lab_ l2 l5 l7 sx
    rw [f_X4_add2_]
    have ksx : GQf sx sx := GQf.rfl
    refine p_if (Q := GQf sx) (fun _ => ?_) (fun _ => ?_)
    ·
      exact ksx
    ·
      refine p_bd (Q := GQf sx) (fun v4 hv4 => ?_)
      refine p_bd (Q := GQf sx) (fun v6 hv6 => ?_)
      refine p_if (Q := GQf sx) (fun _ => ?_) (fun _ => ?_)
      ·
        exact ksx
      ·
        refine p_bd (Q := GQf sx) (fun v11 hv11 => ?_)
        refine p_bd (Q := GQf sx) (fun v13 hv13 => ?_)
        refine p_bd (Q := GQf sx) (fun v15 hv15 => ?_)
        refine p_if (Q := GQf sx) (fun _ => ?_) (fun _ => ?_)
        ·
          exact GQf.tr ksx (ih 30 l2 l5 ((l7 + 1)) sx)
        ·
          refine p_bd (Q := GQf sx) (fun v23 hv23 => ?_)
          refine p_if (Q := GQf sx) (fun _ => ?_) (fun _ => ?_)
          ·
            exact GQf.tr ksx (ih 30 l2 l5 ((l7 + 1)) sx)
          ·
            refine p_bd (Q := GQf sx) (fun s36 hs36 => ?_)
            have ks36 : GQf sx s36 := by rw [hs36]; exact (GQf.I ksx (by omega))
            refine p_bd (Q := GQf sx) (fun s41 hs41 => ?_)
            have ks41 : GQf sx s41 := by rw [hs41]; exact (GQf.I ks36 (by omega))
            exact GQf.tr ks41 (ih 30 l2 l5 ((l7 + 1)) s41)
theorem gqf_X4_add2 {s : ST} {c2 : Nat} {a3 : Int} {a4 : Int64} (hc2 : c2 = 52 ∨ c2 = 53) : GQf s (f_X4_add2 s c2 a3 a4) := by
  unfold f_X4_add2
  have ks : GQf s s := GQf.rfl
  refine p_bd (Q := GQf s) (fun v46 hv46 => ?_)
  refine p_bd (Q := GQf s) (fun v48 hv48 => ?_)
  refine p_bd (Q := GQf s) (fun v50 hv50 => ?_)
  refine p_bd (Q := GQf s) (fun v52 hv52 => ?_)
  refine p_if (Q := GQf s) (fun _ => ?_) (fun _ => ?_)
  ·
    refine p_bd (Q := GQf s) (fun v56 hv56 => ?_)
    refine p_bd (Q := GQf s) (fun v58 hv58 => ?_)
    refine p_bd (Q := GQf s) (fun s60 hs60 => ?_)
    have ks60 : GQf s s60 := by rw [hs60]; exact (GQf.L ks (by omega))
    exact GQf.tr ks60 (gqf_X4_add2_ 154 30 a3 v50 0 s60)
  ·
    exact ks
theorem gqf_X4_followRow2_ : ∀ (n : Nat) (lab_ : Nat) (l1 : Nat) (l3 : Int) (l4 : Int) (sx : ST), (l1 = 52 ∨ l1 = 53) → GQf sx (f_X4_followRow2_ n lab_ l1 l3 l4 sx) := by
  intro n
  induction n with
  | zero =>
    intro lab_ l1 l3 l4 sx hl1
    rw [f_X4_followRow2_]
    exact GQf.rfl
  | succ n ih =>
    intro lab_ l1 l3 l4 sx hl1
    rw [f_X4_followRow2_]
    have ksx : GQf sx sx := GQf.rfl
    refine p_if (Q := GQf sx) (fun _ => ?_) (fun _ => ?_)
    ·
      exact ksx
    ·
      refine p_bd (Q := GQf sx) (fun v6 hv6 => ?_)
      refine p_bd (Q := GQf sx) (fun v8 hv8 => ?_)
      refine p_if (Q := GQf sx) (fun _ => ?_) (fun _ => ?_)
      ·
        exact GQf.tr ksx (ih 8 l1 l3 ((l4 + 1)) sx hl1)
      ·
        refine p_bd (Q := GQf sx) (fun s16 hs16 => ?_)
        have ks16 : GQf sx s16 := GQf.tr ksx (by rw [hs16]; exact gqf_X4_add2 hl1)
        exact GQf.tr ks16 (ih 8 l1 l3 ((l4 + 1)) s16 hl1)
theorem gqf_X4_followRow2 {s : ST} {c2 : Nat} {a3 : Int} (hc2 : c2 = 52 ∨ c2 = 53) : GQf s (f_X4_followRow2 s c2 a3) := by
  unfold f_X4_followRow2
  have ks : GQf s s := GQf.rfl
  exact GQf.tr ks (gqf_X4_followRow2_ 58 8 c2 ((a3 * 13)) 0 s hc2)
theorem gqf_X4_followCall2_ : ∀ (n : Nat) (lab_ : Nat) (l1 : Nat) (l2 : Int) (l3 : Int) (l4 : Int) (l5 : Int) (l6 : Int) (l7 : Int) (sx : ST), (l1 = 52 ∨ l1 = 53) → GQf sx (f_X4_followCall2_ n lab_ l1 l2 l3 l4 l5 l6 l7 sx) := by
  intro n
  induction n with
  | zero =>
    intro lab_ l1 l2 l3 l4 l5 l6 l7 sx hl1
    rw [f_X4_followCall2_]
    exact GQf.rfl
  | succ n ih =>
    intro lab_ l1 l2 l3 l4 l5 l6 l7 sx hl1
    rw [f_X4_followCall2_]
    have ksx : GQf sx sx := GQf.rfl
    refine p_if (Q := GQf sx) (fun _ => ?_) (fun _ => ?_)
    ·
      refine p_if (Q := GQf sx) (fun _ => ?_) (fun _ => ?_)
      ·
        exact ksx
      ·
        refine p_bd (Q := GQf sx) (fun v8 hv8 => ?_)
        refine p_bd (Q := GQf sx) (fun s10 hs10 => ?_)
        have ks10 : GQf sx s10 := GQf.tr ksx (by rw [hs10]; exact gqf_X4_add2 hl1)
        exact ks10
    ·
      refine p_bd (Q := GQf sx) (fun v15 hv15 => ?_)
      refine p_bd (Q := GQf sx) (fun v17 hv17 => ?_)
      refine p_if (Q := GQf sx) (fun _ => ?_) (fun _ => ?_)
      ·
        exact GQf.tr ksx (ih 37 l1 l2 l3 l4 l5 l6 ((l7 + 1)) sx hl1)
      ·
        refine p_bd (Q := GQf sx) (fun v27 hv27 => ?_)
        refine p_bd (Q := GQf sx) (fun s29 hs29 => ?_)
        have ks29 : GQf sx s29 := GQf.tr ksx (by rw [hs29]; exact gqf_X4_add2 hl1)
        exact GQf.tr ks29 (ih 37 l1 l2 l3 l4 l5 l6 ((l7 + 1)) s29 hl1)
theorem gqf_X4_followCall2 {s : ST} {c2 : Nat} {a3 : Int} {a4 : Int} {a5 : Int} (hc2 : c2 = 52 ∨ c2 = 53) : GQf s (f_X4_followCall2 s c2 a3 a4 a5) := by
  unfold f_X4_followCall2
  have ks : GQf s s := GQf.rfl
  refine p_bd (Q := GQf s) (fun c36 hc36 => ?_)
  refine p_bd (Q := GQf s) (fun v38 hv38 => ?_)
  refine p_if (Q := GQf s) (fun _ => ?_) (fun _ => ?_)
  ·
    refine p_bd (Q := GQf s) (fun v48 hv48 => ?_)
    exact GQf.tr ks (gqf_X4_followCall2_ 37 37 c2 a3 a4 a5 v38 v48 0 s hc2)
  ·
    exact ks
theorem gqf_X4_spread2_ : ∀ (n : Nat) (lab_ : Nat) (l1 : Nat) (l2 : Int) (l3 : Int) (sx : ST), (l1 = 52 ∨ l1 = 53) → GQf sx (f_X4_spread2_ n lab_ l1 l2 l3 sx) := by
  intro n
  induction n with
  | zero =>
    intro lab_ l1 l2 l3 sx hl1
    rw [f_X4_spread2_]
    exact GQf.rfl
  | succ n ih =>
    intro lab_ l1 l2 l3 sx hl1
    rw [f_X4_spread2_]
    have ksx : GQf sx sx := GQf.rfl
    refine p_if (Q := GQf sx) (fun _ => ?_) (fun _ => ?_)
    ·
      refine p_bd (Q := GQf sx) (fun s3 hs3 => ?_)
      have ks3 : GQf sx s3 := by rw [hs3]; exact (GQf.I ksx (by omega))
      exact ks3
    ·
      refine p_bd (Q := GQf sx) (fun v6 hv6 => ?_)
      refine p_if (Q := GQf sx) (fun _ => ?_) (fun _ => ?_)
      ·
        refine p_bd (Q := GQf sx) (fun s10 hs10 => ?_)
        have ks10 : GQf sx s10 := by rw [hs10]; exact (GQf.I ksx (by omega))
        exact ks10
      ·
        refine p_bd (Q := GQf sx) (fun v13 hv13 => ?_)
        refine p_bd (Q := GQf sx) (fun v17 hv17 => ?_)
        refine p_bd (Q := GQf sx) (fun v21 hv21 => ?_)
        refine p_bd (Q := GQf sx) (fun s23 hs23 => ?_)
        have ks23 : GQf sx s23 := GQf.tr ksx (by rw [hs23]; exact gqf_X4_followRow2 hl1)
        refine p_if (Q := GQf sx) (fun _ => ?_) (fun _ => ?_)
        ·
          refine p_if (Q := GQf sx) (fun _ => ?_) (fun _ => ?_)
          ·
            exact GQf.tr ks23 (ih 2 l1 l2 ((l3 + 1)) s23 hl1)
          ·
            refine p_if (Q := GQf sx) (fun _ => ?_) (fun _ => ?_)
            ·
              exact GQf.tr ks23 (ih 2 l1 l2 ((l3 + 1)) s23 hl1)
            ·
              refine p_bd (Q := GQf sx) (fun v44 hv44 => ?_)
              refine p_bd (Q := GQf sx) (fun s46 hs46 => ?_)
              have ks46 : GQf sx s46 := GQf.tr ks23 (by rw [hs46]; exact gqf_X4_add2 hl1)
              exact GQf.tr ks46 (ih 2 l1 l2 ((l3 + 1)) s46 hl1)
        ·
          refine p_if (Q := GQf sx) (fun _ => ?_) (fun _ => ?_)
          ·
            exact GQf.tr ks23 (ih 2 l1 l2 ((l3 + 1)) s23 hl1)
          ·
            refine p_bd (Q := GQf sx) (fun s61 hs61 => ?_)
            have ks61 : GQf sx s61 := GQf.tr ks23 (by rw [hs61]; exact gqf_X4_followCall2 hl1)
            exact GQf.tr ks61 (ih 2 l1 l2 ((l3 + 1)) s61 hl1)
theorem gqf_X4_spread2 {s : ST} {c2 : Nat} {a3 : Int} (hc2 : c2 = 52 ∨ c2 = 53) : GQf s (f_X4_spread2 s c2 a3) := by
  unfold f_X4_spread2
  have ks : GQf s s := GQf.rfl
  exact GQf.tr ks (gqf_X4_spread2_ 1774 2 c2 a3 0 s hc2)
theorem gqf_X4_findOn2_ : ∀ (n : Nat) (lab_ : Nat) (l1 : Int) (sx : ST), GQf sx (f_X4_findOn2_ n lab_ l1 sx) := by
  intro n
  induction n with
  | zero =>
    intro lab_ l1 sx
    rw [f_X4_findOn2_]
    exact GQf.rfl
  | succ n ih =>
    intro lab_ l1 sx
    rw [f_X4_findOn2_]
    have ksx : GQf sx sx := GQf.rfl
    refine p_if (Q := GQf sx) (fun _ => ?_) (fun _ => ?_)
    ·
      refine p_bd (Q := GQf sx) (fun s3 hs3 => ?_)
      have ks3 : GQf sx s3 := GQf.tr ksx (by rw [hs3]; exact gqf_X4_spread2 (by decide))
      exact ks3
    ·
      refine p_bd (Q := GQf sx) (fun v8 hv8 => ?_)
      refine p_bd (Q := GQf sx) (fun s10 hs10 => ?_)
      have ks10 : GQf sx s10 := GQf.tr ksx (by rw [hs10]; exact gqf_X4_add2 (by decide))
      exact GQf.tr ks10 (ih 11 ((l1 + 1)) s10)
theorem gqf_X4_findOn2 {s : ST} : GQf s (f_X4_findOn2 s) := by
  unfold f_X4_findOn2
  have ks : GQf s s := GQf.rfl
  refine p_bd (Q := GQf s) (fun s17 hs17 => ?_)
  have ks17 : GQf s s17 := GQf.tr ks (by rw [hs17]; exact gqf_X4_spread2 (by decide))
  exact GQf.tr ks17 (gqf_X4_findOn2_ 58 11 0 s17)
theorem gqf_X4_beginFrom2_ : ∀ (n : Nat) (lab_ : Nat) (l1 : Int) (l2 : Int) (l3 : Int) (sx : ST), GQf sx (f_X4_beginFrom2_ n lab_ l1 l2 l3 sx) := by
  intro n
  induction n with
  | zero =>
    intro lab_ l1 l2 l3 sx
    rw [f_X4_beginFrom2_]
    exact GQf.rfl
  | succ n ih =>
    intro lab_ l1 l2 l3 sx
    rw [f_X4_beginFrom2_]
    have ksx : GQf sx sx := GQf.rfl
    refine p_if (Q := GQf sx) (fun _ => ?_) (fun _ => ?_)
    ·
      exact ksx
    ·
      refine p_bd (Q := GQf sx) (fun v6 hv6 => ?_)
      refine p_bd (Q := GQf sx) (fun s8 hs8 => ?_)
      have ks8 : GQf sx s8 := GQf.tr ksx (by rw [hs8]; exact gqf_X4_add2 (by decide))
      exact GQf.tr ks8 (ih 26 l1 l2 ((l3 + 1)) s8)
theorem gqf_X4_beginFrom2 {s : ST} {a2 : Int} : GQf s (f_X4_beginFrom2 s a2) := by
  unfold f_X4_beginFrom2
  have ks : GQf s s := GQf.rfl
  refine p_bd (Q := GQf s) (fun s15 hs15 => ?_)
  have ks15 : GQf s s15 := GQf.tr ks (by rw [hs15]; exact gqf_X4_clearFound2)
  refine p_bd (Q := GQf s) (fun c19 hc19 => ?_)
  refine p_bd (Q := GQf s) (fun v21 hv21 => ?_)
  refine p_if (Q := GQf s) (fun _ => ?_) (fun _ => ?_)
  ·
    exact GQf.tr ks15 (gqf_X4_beginFrom2_ 58 26 a2 1 0 s15)
  ·
    exact GQf.tr ks15 (gqf_X4_beginFrom2_ 58 26 a2 13 0 s15)
theorem gqf_X4_backFrom2 {s : ST} {a2 : Int} : GQfp s (f_X4_backFrom2 s a2) := by
  unfold f_X4_backFrom2
  have ks : GQf s s := GQf.rfl
  refine p_bd (Q := GQfp s) (fun v1 hv1 => ?_)
  refine p_bd (Q := GQfp s) (fun v5 hv5 => ?_)
  refine p_if (Q := GQfp s) (fun _ => ?_) (fun _ => ?_)
  ·
    refine p_bd (Q := GQfp s) (fun v9 hv9 => ?_)
    exact ks
  ·
    refine p_bd (Q := GQfp s) (fun s12 hs12 => ?_)
    have ks12 : GQf s s12 := GQf.tr ks (by rw [hs12]; exact gqf_X4_beginFrom2)
    refine p_bd (Q := GQfp s) (fun s16 hs16 => ?_)
    have ks16 : GQf s s16 := GQf.tr ks12 (by rw [hs16]; exact gqf_X4_findOn2)
    refine p_bd (Q := GQfp s) (fun v22 hv22 => ?_)
    refine p_bd (Q := GQfp s) (fun s24 hs24 => ?_)
    have ks24 : GQf s s24 := by rw [hs24]; exact (GQf.L ks16 (by omega))
    refine p_bd (Q := GQfp s) (fun v26 hv26 => ?_)
    refine p_bd (Q := GQfp s) (fun v30 hv30 => ?_)
    refine p_bd (Q := GQfp s) (fun v32 hv32 => ?_)
    refine p_bd (Q := GQfp s) (fun s34 hs34 => ?_)
    have ks34 : GQf s s34 := by rw [hs34]; exact (GQf.L ks24 (by omega))
    refine p_bd (Q := GQfp s) (fun v36 hv36 => ?_)
    exact ks34
theorem gqf_X4_forthFrom2_ : ∀ (n : Nat) (lab_ : Nat) (l1 : Int) (l2 : Int64) (l4 : Int) (sx : ST), GQfp sx (f_X4_forthFrom2_ n lab_ l1 l2 l4 sx) := by
  intro n
  induction n with
  | zero =>
    intro lab_ l1 l2 l4 sx
    rw [f_X4_forthFrom2_]
    exact GQf.rfl
  | succ n ih =>
    intro lab_ l1 l2 l4 sx
    rw [f_X4_forthFrom2_]
    have ksx : GQf sx sx := GQf.rfl
    refine p_bd (Q := GQfp sx) (fun c1 hc1 => ?_)
    refine p_bd (Q := GQfp sx) (fun v3 hv3 => ?_)
    refine p_if (Q := GQfp sx) (fun _ => ?_) (fun _ => ?_)
    ·
      exact ksx
    ·
      refine p_bd2 (Q := GQfp sx) (fun s8 v11 hs8 => ?_)
      have ks8 : GQf sx s8 := GQf.tr ksx (by have z : GQfp sx (f_X4_backFrom2 sx l4) := gqf_X4_backFrom2; rw [← hs8] at z; exact z)
      refine p_bd (Q := GQfp sx) (fun v15 hv15 => ?_)
      refine p_if (Q := GQfp sx) (fun _ => ?_) (fun _ => ?_)
      ·
        exact GQf.trp ks8 (ih 5 l1 l2 ((l4 + 1)) s8)
      ·
        refine p_bd (Q := GQfp sx) (fun v25 hv25 => ?_)
        refine p_bd (Q := GQfp sx) (fun v27 hv27 => ?_)
        exact GQf.trp ks8 (ih 5 l1 v27 ((l4 + 1)) s8)
theorem gqf_X4_forthFrom2 {s : ST} {a2 : Int} : GQfp s (f_X4_forthFrom2 s a2) := by
  unfold f_X4_forthFrom2
  have ks : GQf s s := GQf.rfl
  exact GQf.trp ks (gqf_X4_forthFrom2_ 139 5 a2 (0 : Int64) 0 s)
theorem gqf_X4_backFromOut2 {s : ST} {a2 : Int} {a3 : Int} : GQfp s (f_X4_backFromOut2 s a2 a3) := by
  unfold f_X4_backFromOut2
  have ks : GQf s s := GQf.rfl
  refine p_bd (Q := GQfp s) (fun s1 hs1 => ?_)
  have ks1 : GQf s s1 := GQf.tr ks (by rw [hs1]; exact gqf_X4_clearFound2)
  refine p_bd (Q := GQfp s) (fun v11 hv11 => ?_)
  refine p_bd (Q := GQfp s) (fun s13 hs13 => ?_)
  have ks13 : GQf s s13 := GQf.tr ks1 (by rw [hs13]; exact gqf_X4_add2 (by decide))
  refine p_bd (Q := GQfp s) (fun s17 hs17 => ?_)
  have ks17 : GQf s s17 := GQf.tr ks13 (by rw [hs17]; exact gqf_X4_findOn2)
  refine p_bd (Q := GQfp s) (fun v23 hv23 => ?_)
  exact ks17
/-- a question to the class: perhaps it makes its tables, then it searches -/
def PQf (s s' : ST) : Prop := ∃ s1, (s1 = s ∨ s1 = f_X4_prepare2 s (s.2.2 0 3)) ∧ GQf s1 s'
theorem PQf.rfl {s : ST} : PQf s s := ⟨s, Or.inl _root_.rfl, GQf.rfl⟩
theorem PQf.t {s u w : ST} (a : PQf s u) (b : GQf u w) : PQf s w := by
  obtain ⟨s1, h1, h2⟩ := a
  exact ⟨s1, h1, h2.tr b⟩

theorem pqf_X7_hangs2 {s : ST} {a2 : Int} {a3 : Int} : PQf s (f_X7_hangs2 s a2 a3).1 := by
  obtain ⟨Q, hQ⟩ : ∃ Q : ST × Int → Prop, Q = fun z => PQf s z.1 := ⟨_, rfl⟩
  have goal : Q (f_X7_hangs2 s a2 a3) := by
    unfold f_X7_hangs2
    have ks : PQf s s := PQf.rfl
    refine p_bd (Q := Q) (fun v3 hv3 => ?_)
    refine p_if (Q := Q) (fun _ => ?_) (fun _ => ?_)
    ·
      rw [hQ]; exact ks
    ·
      refine p_bd (Q := Q) (fun v11 hv11 => ?_)
      refine p_if (Q := Q) (fun _ => ?_) (fun _ => ?_)
      ·
        refine p_bd (Q := Q) (fun c16 hc16 => ?_)
        refine p_bd (Q := Q) (fun s18 hs18 => ?_)
        have ks18 : PQf s s18 := ⟨_, Or.inr (by rw [hs18, hc16]), GQf.rfl⟩
        refine p_bd (Q := Q) (fun v24 hv24 => ?_)
        rw [hQ]; exact ks18
      ·
        rw [hQ]; exact ks
  rw [hQ] at goal
  exact goal
theorem pqf_X7_begun2 {s : ST} {a2 : Int} : PQf s (f_X7_begun2 s a2).1 := by
  obtain ⟨Q, hQ⟩ : ∃ Q : ST × Int64 → Prop, Q = fun z => PQf s z.1 := ⟨_, rfl⟩
  have goal : Q (f_X7_begun2 s a2) := by
    unfold f_X7_begun2
    have ks : PQf s s := PQf.rfl
    refine p_bd (Q := Q) (fun v3 hv3 => ?_)
    refine p_if (Q := Q) (fun _ => ?_) (fun _ => ?_)
    ·
      refine p_bd (Q := Q) (fun c8 hc8 => ?_)
      refine p_bd (Q := Q) (fun s10 hs10 => ?_)
      have ks10 : PQf s s10 := ⟨_, Or.inr (by rw [hs10, hc8]), GQf.rfl⟩
      refine p_bd (Q := Q) (fun v14 hv14 => ?_)
      rw [hQ]; exact ks10
    ·
      rw [hQ]; exact ks
  rw [hQ] at goal
  exact goal
theorem pqf_X7_summary2 {s : ST} {a2 : Int} {a3 : Int} {a4 : Int} : PQf s (f_X7_summary2 s a2 a3 a4).1 := by
  obtain ⟨Q, hQ⟩ : ∃ Q : ST × Int → Prop, Q = fun z => PQf s z.1 := ⟨_, rfl⟩
  have goal : Q (f_X7_summary2 s a2 a3 a4) := by
    unfold f_X7_summary2
    have ks : PQf s s := PQf.rfl
    refine p_bd (Q := Q) (fun v3 hv3 => ?_)
    refine p_if (Q := Q) (fun _ => ?_) (fun _ => ?_)
    ·
      rw [hQ]; exact ks
    ·
      refine p_bd (Q := Q) (fun c9 hc9 => ?_)
      refine p_bd (Q := Q) (fun v11 hv11 => ?_)
      refine p_if (Q := Q) (fun _ => ?_) (fun _ => ?_)
      ·
        rw [hQ]; exact ks
      ·
        refine p_bd (Q := Q) (fun v18 hv18 => ?_)
        refine p_if (Q := Q) (fun _ => ?_) (fun _ => ?_)
        ·
          rw [hQ]; exact ks
        ·
          refine p_bd (Q := Q) (fun v26 hv26 => ?_)
          refine p_if (Q := Q) (fun _ => ?_) (fun _ => ?_)
          ·
            refine p_bd (Q := Q) (fun c31 hc31 => ?_)
            refine p_bd (Q := Q) (fun s33 hs33 => ?_)
            have ks33 : PQf s s33 := ⟨_, Or.inr (by rw [hs33, hc31]), GQf.rfl⟩
            refine p_bd (Q := Q) (fun c37 hc37 => ?_)
            refine p_bd (Q := Q) (fun v39 hv39 => ?_)
            refine p_bd (Q := Q) (fun v43 hv43 => ?_)
            rw [hQ]; exact ks33
          ·
            rw [hQ]; exact ks
  rw [hQ] at goal
  exact goal
theorem pqf_X7_back2 {s : ST} {a2 : Int} : PQf s (f_X7_back2 s a2).1 := by
  obtain ⟨Q, hQ⟩ : ∃ Q : ST × Int64 → Prop, Q = fun z => PQf s z.1 := ⟨_, rfl⟩
  have goal : Q (f_X7_back2 s a2) := by
    unfold f_X7_back2
    have ks : PQf s s := PQf.rfl
    refine p_bd (Q := Q) (fun v3 hv3 => ?_)
    refine p_if (Q := Q) (fun _ => ?_) (fun _ => ?_)
    ·
      refine p_bd (Q := Q) (fun c8 hc8 => ?_)
      refine p_bd (Q := Q) (fun s10 hs10 => ?_)
      have ks10 : PQf s s10 := ⟨_, Or.inr (by rw [hs10, hc8]), GQf.rfl⟩
      refine p_bd2 (Q := Q) (fun s14 v17 hs14 => ?_)
      have ks14 : PQf s s14 := PQf.t ks10 (by have z : GQfp s10 (f_X4_backFrom2 s10 a2) := gqf_X4_backFrom2; rw [← hs14] at z; exact z)
      rw [hQ]; exact ks14
    ·
      rw [hQ]; exact ks
  rw [hQ] at goal
  exact goal
theorem pqf_X7_forth2 {s : ST} {a2 : Int} : PQf s (f_X7_forth2 s a2).1 := by
  obtain ⟨Q, hQ⟩ : ∃ Q : ST × Int64 → Prop, Q = fun z => PQf s z.1 := ⟨_, rfl⟩
  have goal : Q (f_X7_forth2 s a2) := by
    unfold f_X7_forth2
    have ks : PQf s s := PQf.rfl
    refine p_bd (Q := Q) (fun v3 hv3 => ?_)
    refine p_if (Q := Q) (fun _ => ?_) (fun _ => ?_)
    ·
      refine p_bd (Q := Q) (fun c8 hc8 => ?_)
      refine p_bd (Q := Q) (fun s10 hs10 => ?_)
      have ks10 : PQf s s10 := ⟨_, Or.inr (by rw [hs10, hc8]), GQf.rfl⟩
      refine p_bd2 (Q := Q) (fun s14 v17 hs14 => ?_)
      have ks14 : PQf s s14 := PQf.t ks10 (by have z : GQfp s10 (f_X4_forthFrom2 s10 a2) := gqf_X4_forthFrom2; rw [← hs14] at z; exact z)
      rw [hQ]; exact ks14
    ·
      rw [hQ]; exact ks
  rw [hQ] at goal
  exact goal
theorem pqf_X7_between2 {s : ST} {a2 : Int} {a3 : Int} : PQf s (f_X7_between2 s a2 a3).1 := by
  obtain ⟨Q, hQ⟩ : ∃ Q : ST × Int64 → Prop, Q = fun z => PQf s z.1 := ⟨_, rfl⟩
  have goal : Q (f_X7_between2 s a2 a3) := by
    unfold f_X7_between2
    have ks : PQf s s := PQf.rfl
    refine p_bd (Q := Q) (fun v3 hv3 => ?_)
    refine p_if (Q := Q) (fun _ => ?_) (fun _ => ?_)
    ·
      rw [hQ]; exact ks
    ·
      refine p_bd (Q := Q) (fun v11 hv11 => ?_)
      refine p_if (Q := Q) (fun _ => ?_) (fun _ => ?_)
      ·
        refine p_bd (Q := Q) (fun c16 hc16 => ?_)
        refine p_bd (Q := Q) (fun s18 hs18 => ?_)
        have ks18 : PQf s s18 := ⟨_, Or.inr (by rw [hs18, hc16]), GQf.rfl⟩
        refine p_bd2 (Q := Q) (fun s22 v25 hs22 => ?_)
        have ks22 : PQf s s22 := PQf.t ks18 (by have z : GQfp s18 (f_X4_forthFrom2 s18 a2) := gqf_X4_forthFrom2; rw [← hs22] at z; exact z)
        refine p_bd2 (Q := Q) (fun s27 v30 hs27 => ?_)
        have ks27 : PQf s s27 := PQf.t ks22 (by have z : GQfp s22 (f_X4_backFrom2 s22 a3) := gqf_X4_backFrom2; rw [← hs27] at z; exact z)
        refine p_bd (Q := Q) (fun v32 hv32 => ?_)
        rw [hQ]; exact ks27
      ·
        rw [hQ]; exact ks
  rw [hQ] at goal
  exact goal
theorem pqf_X7_backOf2 {s : ST} {a2 : Int} {a3 : Int} : PQf s (f_X7_backOf2 s a2 a3).1 := by
  obtain ⟨Q, hQ⟩ : ∃ Q : ST × Int64 → Prop, Q = fun z => PQf s z.1 := ⟨_, rfl⟩
  have goal : Q (f_X7_backOf2 s a2 a3) := by
    unfold f_X7_backOf2
    have ks : PQf s s := PQf.rfl
    refine p_bd (Q := Q) (fun v3 hv3 => ?_)
    refine p_if (Q := Q) (fun _ => ?_) (fun _ => ?_)
    ·
      rw [hQ]; exact ks
    ·
      refine p_bd (Q := Q) (fun v11 hv11 => ?_)
      refine p_if (Q := Q) (fun _ => ?_) (fun _ => ?_)
      ·
        refine p_bd (Q := Q) (fun c16 hc16 => ?_)
        refine p_bd (Q := Q) (fun s18 hs18 => ?_)
        have ks18 : PQf s s18 := ⟨_, Or.inr (by rw [hs18, hc16]), GQf.rfl⟩
        refine p_bd2 (Q := Q) (fun s22 v25 hs22 => ?_)
        have ks22 : PQf s s22 := PQf.t ks18 (by have z : GQfp s18 (f_X4_backFromOut2 s18 a2 a3) := gqf_X4_backFromOut2; rw [← hs22] at z; exact z)
        rw [hQ]; exact ks22
      ·
        rw [hQ]; exact ks
  rw [hQ] at goal
  exact goal

