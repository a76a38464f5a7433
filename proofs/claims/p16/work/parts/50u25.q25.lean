/-! frames of what lays, goes and grows -/
def GRf (s s' : ST) : Prop := s'.2.2 = s.2.2 ∧ (∀ p j, ¬ (p = 108 ∨ p = 109 ∨ p = 110 ∨ (p = 70 ∧ j = 47)) → s'.1 p j = s.1 p j) ∧ (∀ p j : Nat, ¬ (p = 5000 ∧ j = 5000) → s'.2.1 p j = s.2.1 p j)
def GRfp {α : Type} (s : ST) (z : ST × α) : Prop := GRf s z.1
theorem GRf.rfl {s : ST} : GRf s s := ⟨_root_.rfl, fun _ _ _ => _root_.rfl, fun _ _ _ => _root_.rfl⟩
theorem GRf.tr {s u w : ST} (a : GRf s u) (b : GRf u w) : GRf s w := ⟨b.1.trans a.1, fun p j h => (b.2.1 p j h).trans (a.2.1 p j h), fun p j h => (b.2.2 p j h).trans (a.2.2 p j h)⟩
theorem GRf.trp {α : Type} {s u : ST} {w : ST × α} (a : GRf s u) (b : GRfp u w) : GRfp s w := GRf.tr a b
theorem GRf.I {p j : Nat} {s u : ST} {x : Int} (a : GRf s u) (h : p = 108 ∨ p = 109 ∨ p = 110 ∨ (p = 70 ∧ j = 47)) : GRf s (sI u p j x) := ⟨a.1, fun q i hq => (sI_ne (by rintro ⟨rfl, rfl⟩; exact hq h)).trans (a.2.1 q i hq), a.2.2⟩
theorem GRf.L {p j : Nat} {s u : ST} {x : Int64} (a : GRf s u) (h : p = 5000 ∧ j = 5000) : GRf s (sL u p j x) := ⟨a.1, a.2.1, fun q i hq => (sL_ne (by rintro ⟨rfl, rfl⟩; exact hq h)).trans (a.2.2 q i hq)⟩

theorem grf_X8_reach2 {s : ST} {a2 : Int} : GRf s (f_X8_reach2 s a2) := by
  unfold f_X8_reach2
  have ks : GRf s s := GRf.rfl
  refine p_bd (Q := GRf s) (fun u70_47 hu70_47 => ?_)
  refine p_bd (Q := GRf s) (fun v5 hv5 => ?_)
  refine p_if (Q := GRf s) (fun _ => ?_) (fun _ => ?_)
  ·
    refine p_bd (Q := GRf s) (fun v11 hv11 => ?_)
    refine p_bd (Q := GRf s) (fun v15 hv15 => ?_)
    refine p_bd (Q := GRf s) (fun v17 hv17 => ?_)
    refine p_bd (Q := GRf s) (fun s19 hs19 => ?_)
    have ks19 : GRf s s19 := by rw [hs19]; exact (GRf.I ks (by omega))
    refine p_bd (Q := GRf s) (fun s22 hs22 => ?_)
    have ks22 : GRf s s22 := by rw [hs22]; exact (GRf.I ks19 (by omega))
    refine p_bd (Q := GRf s) (fun s27 hs27 => ?_)
    have ks27 : GRf s s27 := by rw [hs27]; exact (GRf.I ks22 (by omega))
    exact ks27
  ·
    exact ks
theorem grf_X8_goesUp2_ : ∀ (n : Nat) (lab_ : Nat) (l1 : Int) (l2 : Int) (l3 : Int) (sx : ST), GRf sx (f_X8_goesUp2_ n lab_ l1 l2 l3 sx) := by
  intro n
  induction n with
  | zero =>
    intro lab_ l1 l2 l3 sx
    rw [f_X8_goesUp2_]
    exact GRf.rfl
  | succ n ih =>
    intro lab_ l1 l2 l3 sx
    rw [f_X8_goesUp2_]
    have ksx : GRf sx sx := GRf.rfl
    refine p_bd (Q := GRf sx) (fun v1 hv1 => ?_)
    refine p_bd (Q := GRf sx) (fun v3 hv3 => ?_)
    refine p_if (Q := GRf sx) (fun _ => ?_) (fun _ => ?_)
    ·
      exact ksx
    ·
      refine p_bd (Q := GRf sx) (fun v11 hv11 => ?_)
      refine p_if (Q := GRf sx) (fun _ => ?_) (fun _ => ?_)
      ·
        exact GRf.tr ksx (ih 2 l1 l2 ((l3 + 1)) sx)
      ·
        refine p_bd (Q := GRf sx) (fun v22 hv22 => ?_)
        refine p_bd (Q := GRf sx) (fun v24 hv24 => ?_)
        refine p_if (Q := GRf sx) (fun _ => ?_) (fun _ => ?_)
        ·
          exact GRf.tr ksx (ih 2 l1 l2 ((l3 + 1)) sx)
        ·
          refine p_bd (Q := GRf sx) (fun v34 hv34 => ?_)
          refine p_bd (Q := GRf sx) (fun s36 hs36 => ?_)
          have ks36 : GRf sx s36 := GRf.tr ksx (by rw [hs36]; exact grf_X8_reach2)
          exact GRf.tr ks36 (ih 2 l1 l2 ((l3 + 1)) s36)
theorem grf_X8_goesUp2 {s : ST} {a2 : Int} {a3 : Int} : GRf s (f_X8_goesUp2 s a2 a3) := by
  unfold f_X8_goesUp2
  have ks : GRf s s := GRf.rfl
  exact GRf.tr ks (grf_X8_goesUp2_ 139 2 a2 a3 0 s)
theorem grf_X8_goes2_ : ∀ (n : Nat) (lab : Nat) (l1 : Int) (l2 : Int) (l3 : Int) (l4 : Int) (l5 : Int) (l6 : Int) (s0 : Int) (sx : ST), GRf sx (f_X8_goes2_ n lab l1 l2 l3 l4 l5 l6 s0 sx) := by
  intro n
  induction n with
  | zero =>
    intro lab l1 l2 l3 l4 l5 l6 s0 sx
    rw [f_X8_goes2_]
    exact GRf.rfl
  | succ n ih =>
    intro lab l1 l2 l3 l4 l5 l6 s0 sx
    rw [f_X8_goes2_]
    have ksx : GRf sx sx := GRf.rfl
    refine p_if (Q := GRf sx) (fun _ => ?_) (fun _ => ?_)
    ·
      refine p_bd (Q := GRf sx) (fun u70_47 hu70_47 => ?_)
      refine p_if (Q := GRf sx) (fun _ => ?_) (fun _ => ?_)
      ·
        exact ksx
      ·
        refine p_bd (Q := GRf sx) (fun s9 hs9 => ?_)
        have ks9 : GRf sx s9 := by rw [hs9]; exact (GRf.I ksx (by omega))
        refine p_bd (Q := GRf sx) (fun v12 hv12 => ?_)
        exact GRf.tr ks9 (ih 30 l1 l2 v12 0 0 0 0 s9)
    ·
      refine p_if (Q := GRf sx) (fun _ => ?_) (fun _ => ?_)
      ·
        refine p_bd (Q := GRf sx) (fun u70_47 hu70_47 => ?_)
        refine p_if (Q := GRf sx) (fun _ => ?_) (fun _ => ?_)
        ·
          refine p_if (Q := GRf sx) (fun _ => ?_) (fun _ => ?_)
          ·
            refine p_bd (Q := GRf sx) (fun v29 hv29 => ?_)
            refine p_if (Q := GRf sx) (fun _ => ?_) (fun _ => ?_)
            ·
              exact GRf.tr ksx (ih 184 l1 l2 l3 (((l3 - 520) % 13)) 0 0 l1 sx)
            ·
              refine p_if (Q := GRf sx) (fun _ => ?_) (fun _ => ?_)
              ·
                exact GRf.tr ksx (ih 184 l1 l2 l3 (((l3 - 520) % 13)) 0 0 l1 sx)
              ·
                refine p_bd (Q := GRf sx) (fun v44 hv44 => ?_)
                refine p_bd (Q := GRf sx) (fun v46 hv46 => ?_)
                exact GRf.tr ksx (ih 117 l1 l2 l3 (((l3 - 520) % 13)) v46 0 0 sx)
          ·
            refine p_bd (Q := GRf sx) (fun v58 hv58 => ?_)
            refine p_if (Q := GRf sx) (fun _ => ?_) (fun _ => ?_)
            ·
              exact GRf.tr ksx (ih 184 l1 l2 l3 ((l3 % 13)) 0 0 l1 sx)
            ·
              refine p_if (Q := GRf sx) (fun _ => ?_) (fun _ => ?_)
              ·
                exact GRf.tr ksx (ih 184 l1 l2 l3 ((l3 % 13)) 0 0 l1 sx)
              ·
                refine p_bd (Q := GRf sx) (fun v73 hv73 => ?_)
                refine p_bd (Q := GRf sx) (fun v75 hv75 => ?_)
                exact GRf.tr ksx (ih 117 l1 l2 l3 ((l3 % 13)) v75 0 0 sx)
        ·
          refine p_bd (Q := GRf sx) (fun v82 hv82 => ?_)
          refine p_if (Q := GRf sx) (fun _ => ?_) (fun _ => ?_)
          ·
            exact GRf.tr ksx (ih 30 l1 l2 l3 ((l4 + 1)) 0 0 0 sx)
          ·
            refine p_bd (Q := GRf sx) (fun s90 hs90 => ?_)
            have ks90 : GRf sx s90 := GRf.tr ksx (by rw [hs90]; exact grf_X8_reach2)
            exact GRf.tr ks90 (ih 30 l1 l2 l3 ((l4 + 1)) 0 0 0 s90)
      ·
        refine p_if (Q := GRf sx) (fun _ => ?_) (fun _ => ?_)
        ·
          refine p_bd (Q := GRf sx) (fun u70_47 hu70_47 => ?_)
          refine p_if (Q := GRf sx) (fun _ => ?_) (fun _ => ?_)
          ·
            refine p_if (Q := GRf sx) (fun _ => ?_) (fun _ => ?_)
            ·
              exact GRf.tr ksx (ih 184 l1 l2 l3 l4 0 0 l1 sx)
            ·
              refine p_bd (Q := GRf sx) (fun v107 hv107 => ?_)
              refine p_bd (Q := GRf sx) (fun s109 hs109 => ?_)
              have ks109 : GRf sx s109 := GRf.tr ksx (by rw [hs109]; exact grf_X8_reach2)
              exact GRf.tr ks109 (ih 184 l1 l2 l3 l4 0 0 l1 s109)
          ·
            refine p_bd (Q := GRf sx) (fun v122 hv122 => ?_)
            refine p_bd (Q := GRf sx) (fun v124 hv124 => ?_)
            refine p_bd (Q := GRf sx) (fun v126 hv126 => ?_)
            refine p_if (Q := GRf sx) (fun _ => ?_) (fun _ => ?_)
            ·
              exact GRf.tr ksx (ih 117 l1 l2 l3 l4 l5 ((l6 + 1)) 0 sx)
            ·
              refine p_bd (Q := GRf sx) (fun s141 hs141 => ?_)
              have ks141 : GRf sx s141 := GRf.tr ksx (by rw [hs141]; exact grf_X8_reach2)
              exact GRf.tr ks141 (ih 117 l1 l2 l3 l4 l5 ((l6 + 1)) 0 s141)
        ·
          refine p_bd (Q := GRf sx) (fun u70_47 hu70_47 => ?_)
          refine p_if (Q := GRf sx) (fun _ => ?_) (fun _ => ?_)
          ·
            exact GRf.tr ksx (ih 0 l1 l2 0 0 0 0 0 sx)
          ·
            refine p_if (Q := GRf sx) (fun _ => ?_) (fun _ => ?_)
            ·
              exact GRf.tr ksx (ih 0 l1 l2 0 0 0 0 0 sx)
            ·
              refine p_if (Q := GRf sx) (fun _ => ?_) (fun _ => ?_)
              ·
                exact GRf.tr ksx (ih 0 l1 l2 0 0 0 0 0 sx)
              ·
                refine p_bd (Q := GRf sx) (fun s164 hs164 => ?_)
                have ks164 : GRf sx s164 := GRf.tr ksx (by rw [hs164]; exact grf_X8_goesUp2)
                exact GRf.tr ks164 (ih 0 l1 l2 0 0 0 0 0 s164)
theorem grf_X8_goes2 {s : ST} {a2 : Int} {a3 : Int} : GRf s (f_X8_goes2 s a2 a3) := by
  unfold f_X8_goes2
  have ks : GRf s s := GRf.rfl
  exact GRf.tr ks (grf_X8_goes2_ (BG 2200001) 0 a2 a3 0 0 0 0 0 s)
theorem grf_X8_goes_ff2_ : ∀ (n : Nat) (lab : Nat) (l1 : Int) (l2 : Int) (l3 : Int) (l4 : Int) (l5 : Int) (l6 : Int) (s0 : Int) (sx : ST), GRf sx (f_X8_goes_ff2_ n lab l1 l2 l3 l4 l5 l6 s0 sx) := by
  intro n
  induction n with
  | zero =>
    intro lab l1 l2 l3 l4 l5 l6 s0 sx
    rw [f_X8_goes_ff2_]
    exact GRf.rfl
  | succ n ih =>
    intro lab l1 l2 l3 l4 l5 l6 s0 sx
    rw [f_X8_goes_ff2_]
    have ksx : GRf sx sx := GRf.rfl
    refine p_if (Q := GRf sx) (fun _ => ?_) (fun _ => ?_)
    ·
      refine p_bd (Q := GRf sx) (fun u70_47 hu70_47 => ?_)
      refine p_if (Q := GRf sx) (fun _ => ?_) (fun _ => ?_)
      ·
        exact ksx
      ·
        refine p_bd (Q := GRf sx) (fun s9 hs9 => ?_)
        have ks9 : GRf sx s9 := by rw [hs9]; exact (GRf.I ksx (by omega))
        refine p_bd (Q := GRf sx) (fun v12 hv12 => ?_)
        exact GRf.tr ks9 (ih 30 l1 l2 v12 0 0 0 0 s9)
    ·
      refine p_if (Q := GRf sx) (fun _ => ?_) (fun _ => ?_)
      ·
        refine p_bd (Q := GRf sx) (fun u70_47 hu70_47 => ?_)
        refine p_if (Q := GRf sx) (fun _ => ?_) (fun _ => ?_)
        ·
          refine p_if (Q := GRf sx) (fun _ => ?_) (fun _ => ?_)
          ·
            refine p_bd (Q := GRf sx) (fun v29 hv29 => ?_)
            refine p_if (Q := GRf sx) (fun _ => ?_) (fun _ => ?_)
            ·
              exact GRf.tr ksx (ih 184 l1 l2 l3 (((l3 - 520) % 13)) 0 0 l1 sx)
            ·
              refine p_if (Q := GRf sx) (fun _ => ?_) (fun _ => ?_)
              ·
                exact GRf.tr ksx (ih 184 l1 l2 l3 (((l3 - 520) % 13)) 0 0 l1 sx)
              ·
                refine p_bd (Q := GRf sx) (fun v44 hv44 => ?_)
                refine p_bd (Q := GRf sx) (fun v46 hv46 => ?_)
                exact GRf.tr ksx (ih 117 l1 l2 l3 (((l3 - 520) % 13)) v46 0 0 sx)
          ·
            refine p_bd (Q := GRf sx) (fun v58 hv58 => ?_)
            refine p_if (Q := GRf sx) (fun _ => ?_) (fun _ => ?_)
            ·
              exact GRf.tr ksx (ih 184 l1 l2 l3 ((l3 % 13)) 0 0 l1 sx)
            ·
              refine p_if (Q := GRf sx) (fun _ => ?_) (fun _ => ?_)
              ·
                exact GRf.tr ksx (ih 184 l1 l2 l3 ((l3 % 13)) 0 0 l1 sx)
              ·
                refine p_bd (Q := GRf sx) (fun v73 hv73 => ?_)
                refine p_bd (Q := GRf sx) (fun v75 hv75 => ?_)
                exact GRf.tr ksx (ih 117 l1 l2 l3 ((l3 % 13)) v75 0 0 sx)
        ·
          refine p_bd (Q := GRf sx) (fun v83 hv83 => ?_)
          refine p_if (Q := GRf sx) (fun _ => ?_) (fun _ => ?_)
          ·
            exact GRf.tr ksx (ih 30 l1 l2 l3 ((l4 + 1)) 0 0 0 sx)
          ·
            refine p_bd (Q := GRf sx) (fun s91 hs91 => ?_)
            have ks91 : GRf sx s91 := GRf.tr ksx (by rw [hs91]; exact grf_X8_reach2)
            exact GRf.tr ks91 (ih 30 l1 l2 l3 ((l4 + 1)) 0 0 0 s91)
      ·
        refine p_if (Q := GRf sx) (fun _ => ?_) (fun _ => ?_)
        ·
          refine p_bd (Q := GRf sx) (fun u70_47 hu70_47 => ?_)
          refine p_if (Q := GRf sx) (fun _ => ?_) (fun _ => ?_)
          ·
            exact GRf.tr ksx (ih 184 l1 l2 l3 l4 0 0 l1 sx)
          ·
            refine p_bd (Q := GRf sx) (fun v110 hv110 => ?_)
            refine p_bd (Q := GRf sx) (fun v112 hv112 => ?_)
            refine p_bd (Q := GRf sx) (fun v114 hv114 => ?_)
            refine p_if (Q := GRf sx) (fun _ => ?_) (fun _ => ?_)
            ·
              exact GRf.tr ksx (ih 117 l1 l2 l3 l4 l5 ((l6 + 1)) 0 sx)
            ·
              refine p_bd (Q := GRf sx) (fun s129 hs129 => ?_)
              have ks129 : GRf sx s129 := GRf.tr ksx (by rw [hs129]; exact grf_X8_reach2)
              exact GRf.tr ks129 (ih 117 l1 l2 l3 l4 l5 ((l6 + 1)) 0 s129)
        ·
          refine p_bd (Q := GRf sx) (fun u70_47 hu70_47 => ?_)
          exact GRf.tr ksx (ih 0 l1 l2 0 0 0 0 0 sx)
theorem grf_X8_goes_ff2 {s : ST} {a2 : Int} {a3 : Int} : GRf s (f_X8_goes_ff2 s a2 a3) := by
  unfold f_X8_goes_ff2
  have ks : GRf s s := GRf.rfl
  exact GRf.tr ks (grf_X8_goes_ff2_ (BG 2200001) 0 a2 a3 0 0 0 0 0 s)
theorem grf_X8_empties_x2_ : ∀ (n : Nat) (lab_ : Nat) (l1 : Int) (sx : ST), GRf sx (f_X8_empties_x2_ n lab_ l1 sx) := by
  intro n
  induction n with
  | zero =>
    intro lab_ l1 sx
    rw [f_X8_empties_x2_]
    exact GRf.rfl
  | succ n ih =>
    intro lab_ l1 sx
    rw [f_X8_empties_x2_]
    have ksx : GRf sx sx := GRf.rfl
    refine p_if (Q := GRf sx) (fun _ => ?_) (fun _ => ?_)
    ·
      refine p_bd (Q := GRf sx) (fun s3 hs3 => ?_)
      have ks3 : GRf sx s3 := by rw [hs3]; exact (GRf.I ksx (by omega))
      exact ks3
    ·
      refine p_bd (Q := GRf sx) (fun s6 hs6 => ?_)
      have ks6 : GRf sx s6 := by rw [hs6]; exact (GRf.I ksx (by omega))
      exact GRf.tr ks6 (ih 2 ((l1 + 1)) s6)
theorem grf_X8_empties_x2 {s : ST} : GRf s (f_X8_empties_x2 s) := by
  unfold f_X8_empties_x2
  have ks : GRf s s := GRf.rfl
  exact GRf.tr ks (grf_X8_empties_x2_ 76 2 0 s)
theorem grf_X8_laysThrough2_ : ∀ (n : Nat) (lab : Nat) (l1 : Int) (l2 : Int) (l3 : Int) (l4 : Int) (sx : ST), GRf sx (f_X8_laysThrough2_ n lab l1 l2 l3 l4 sx) := by
  intro n
  induction n with
  | zero =>
    intro lab l1 l2 l3 l4 sx
    rw [f_X8_laysThrough2_]
    exact GRf.rfl
  | succ n ih =>
    intro lab l1 l2 l3 l4 sx
    rw [f_X8_laysThrough2_]
    have ksx : GRf sx sx := GRf.rfl
    refine p_if (Q := GRf sx) (fun _ => ?_) (fun _ => ?_)
    ·
      refine p_if (Q := GRf sx) (fun _ => ?_) (fun _ => ?_)
      ·
        exact GRf.tr ksx (ih 23 1 0 0 0 sx)
      ·
        refine p_bd (Q := GRf sx) (fun s5 hs5 => ?_)
        have ks5 : GRf sx s5 := by rw [hs5]; exact (GRf.I ksx (by omega))
        exact GRf.tr ks5 (ih 2 ((l1 + 1)) 0 0 0 s5)
    ·
      refine p_if (Q := GRf sx) (fun _ => ?_) (fun _ => ?_)
      ·
        refine p_if (Q := GRf sx) (fun _ => ?_) (fun _ => ?_)
        ·
          exact ksx
        ·
          exact GRf.tr ksx (ih 31 0 0 0 0 sx)
      ·
        refine p_if (Q := GRf sx) (fun _ => ?_) (fun _ => ?_)
        ·
          refine p_bd (Q := GRf sx) (fun v15 hv15 => ?_)
          refine p_bd (Q := GRf sx) (fun v17 hv17 => ?_)
          refine p_if (Q := GRf sx) (fun _ => ?_) (fun _ => ?_)
          ·
            exact GRf.tr ksx (ih 23 l1 0 0 0 sx)
          ·
            refine p_bd (Q := GRf sx) (fun s24 hs24 => ?_)
            have ks24 : GRf sx s24 := GRf.tr ksx (by rw [hs24]; exact grf_X8_empties_x2)
            refine p_bd (Q := GRf sx) (fun v39 hv39 => ?_)
            refine p_bd (Q := GRf sx) (fun s41 hs41 => ?_)
            have ks41 : GRf sx s41 := GRf.tr ks24 (by rw [hs41]; exact grf_X8_reach2)
            refine p_bd (Q := GRf sx) (fun s47 hs47 => ?_)
            have ks47 : GRf sx s47 := GRf.tr ks41 (by rw [hs47]; exact grf_X8_goes_ff2)
            exact GRf.tr ks47 (ih 80 l1 l2 0 0 s47)
        ·
          refine p_if (Q := GRf sx) (fun _ => ?_) (fun _ => ?_)
          ·
            refine p_if (Q := GRf sx) (fun _ => ?_) (fun _ => ?_)
            ·
              refine p_bd (Q := GRf sx) (fun s58 hs58 => ?_)
              have ks58 : GRf sx s58 := by rw [hs58]; exact (GRf.I ksx (by omega))
              exact GRf.tr ks58 (ih 31 1 ((l2 + 1)) 0 0 s58)
            ·
              refine p_bd (Q := GRf sx) (fun v65 hv65 => ?_)
              refine p_if (Q := GRf sx) (fun _ => ?_) (fun _ => ?_)
              ·
                refine p_bd (Q := GRf sx) (fun s69 hs69 => ?_)
                have ks69 : GRf sx s69 := by rw [hs69]; exact (GRf.I ksx (by omega))
                exact GRf.tr ks69 (ih 31 0 ((l2 + 1)) 0 0 s69)
              ·
                refine p_bd (Q := GRf sx) (fun s76 hs76 => ?_)
                have ks76 : GRf sx s76 := by rw [hs76]; exact (GRf.I ksx (by omega))
                exact GRf.tr ks76 (ih 31 1 ((l2 + 1)) 0 0 s76)
          ·
            refine p_bd (Q := GRf sx) (fun v90 hv90 => ?_)
            refine p_bd (Q := GRf sx) (fun v95 hv95 => ?_)
            refine p_if (Q := GRf sx) (fun _ => ?_) (fun _ => ?_)
            ·
              refine p_bd (Q := GRf sx) (fun v99 hv99 => ?_)
              exact GRf.tr ksx (ih 80 l1 l2 v99 ((l4 + 1)) sx)
            ·
              refine p_bd (Q := GRf sx) (fun v105 hv105 => ?_)
              refine p_bd (Q := GRf sx) (fun v107 hv107 => ?_)
              exact GRf.tr ksx (ih 80 l1 l2 v107 ((l4 + 1)) sx)
theorem grf_X8_laysThrough2 {s : ST} : GRf s (f_X8_laysThrough2 s) := by
  unfold f_X8_laysThrough2
  have ks : GRf s s := GRf.rfl
  exact GRf.tr ks (grf_X8_laysThrough2_ (BG 2000001) 2 0 0 0 0 s)
theorem grf_X8_goesBack2_ : ∀ (n : Nat) (lab_ : Nat) (l1 : Int) (sx : ST), GRf sx (f_X8_goesBack2_ n lab_ l1 sx) := by
  intro n
  induction n with
  | zero =>
    intro lab_ l1 sx
    rw [f_X8_goesBack2_]
    exact GRf.rfl
  | succ n ih =>
    intro lab_ l1 sx
    rw [f_X8_goesBack2_]
    have ksx : GRf sx sx := GRf.rfl
    refine p_bd (Q := GRf sx) (fun u70_47 hu70_47 => ?_)
    refine p_if (Q := GRf sx) (fun _ => ?_) (fun _ => ?_)
    ·
      refine p_bd (Q := GRf sx) (fun s4 hs4 => ?_)
      have ks4 : GRf sx s4 := GRf.tr ksx (by rw [hs4]; exact grf_X8_goes2)
      exact ks4
    ·
      refine p_bd (Q := GRf sx) (fun v14 hv14 => ?_)
      refine p_if (Q := GRf sx) (fun _ => ?_) (fun _ => ?_)
      ·
        refine p_bd (Q := GRf sx) (fun s19 hs19 => ?_)
        have ks19 : GRf sx s19 := by rw [hs19]; exact (GRf.I ksx (by omega))
        refine p_bd (Q := GRf sx) (fun s24 hs24 => ?_)
        have ks24 : GRf sx s24 := by rw [hs24]; exact (GRf.I ks19 (by omega))
        exact GRf.tr ks24 (ih 8 ((l1 + 1)) s24)
      ·
        exact GRf.tr ksx (ih 8 ((l1 + 1)) sx)
theorem grf_X8_goesBack2 {s : ST} : GRf s (f_X8_goesBack2 s) := by
  unfold f_X8_goesBack2
  have ks : GRf s s := GRf.rfl
  refine p_bd (Q := GRf s) (fun s33 hs33 => ?_)
  have ks33 : GRf s s33 := GRf.tr ks (by rw [hs33]; exact grf_X8_goes2)
  exact GRf.tr ks33 (grf_X8_goesBack2_ 1774 8 0 s33)
theorem grf_X8_reachAll2_ : ∀ (n : Nat) (lab_ : Nat) (l1 : Int) (l2 : Int) (sx : ST), GRf sx (f_X8_reachAll2_ n lab_ l1 l2 sx) := by
  intro n
  induction n with
  | zero =>
    intro lab_ l1 l2 sx
    rw [f_X8_reachAll2_]
    exact GRf.rfl
  | succ n ih =>
    intro lab_ l1 l2 sx
    rw [f_X8_reachAll2_]
    have ksx : GRf sx sx := GRf.rfl
    refine p_bd (Q := GRf sx) (fun v4 hv4 => ?_)
    refine p_if (Q := GRf sx) (fun _ => ?_) (fun _ => ?_)
    ·
      refine p_if (Q := GRf sx) (fun _ => ?_) (fun _ => ?_)
      ·
        exact ksx
      ·
        refine p_bd (Q := GRf sx) (fun v13 hv13 => ?_)
        refine p_bd (Q := GRf sx) (fun s15 hs15 => ?_)
        have ks15 : GRf sx s15 := GRf.tr ksx (by rw [hs15]; exact grf_X8_reach2)
        exact GRf.tr ks15 (ih 2 l1 ((l2 + 1)) s15)
    ·
      refine p_if (Q := GRf sx) (fun _ => ?_) (fun _ => ?_)
      ·
        exact ksx
      ·
        refine p_bd (Q := GRf sx) (fun v30 hv30 => ?_)
        refine p_bd (Q := GRf sx) (fun s32 hs32 => ?_)
        have ks32 : GRf sx s32 := GRf.tr ksx (by rw [hs32]; exact grf_X8_reach2)
        exact GRf.tr ks32 (ih 2 l1 ((l2 + 1)) s32)
theorem grf_X8_reachAll2 {s : ST} {a2 : Int} : GRf s (f_X8_reachAll2 s a2) := by
  unfold f_X8_reachAll2
  have ks : GRf s s := GRf.rfl
  exact GRf.tr ks (grf_X8_reachAll2_ 58 2 a2 0 s)
def GCf (s s' : ST) : Prop := s'.2.2 = s.2.2 ∧ (∀ p j, ¬ (p = 51 ∨ p = 54 ∨ (p = 49 ∧ j = 8)) → s'.1 p j = s.1 p j) ∧ (∀ p j : Nat, ¬ (p = 50 ∨ p = 52 ∨ p = 53) → s'.2.1 p j = s.2.1 p j)
def GCfp {α : Type} (s : ST) (z : ST × α) : Prop := GCf s z.1
theorem GCf.rfl {s : ST} : GCf s s := ⟨_root_.rfl, fun _ _ _ => _root_.rfl, fun _ _ _ => _root_.rfl⟩
theorem GCf.tr {s u w : ST} (a : GCf s u) (b : GCf u w) : GCf s w := ⟨b.1.trans a.1, fun p j h => (b.2.1 p j h).trans (a.2.1 p j h), fun p j h => (b.2.2 p j h).trans (a.2.2 p j h)⟩
theorem GCf.trp {α : Type} {s u : ST} {w : ST × α} (a : GCf s u) (b : GCfp u w) : GCfp s w := GCf.tr a b
theorem GCf.I {p j : Nat} {s u : ST} {x : Int} (a : GCf s u) (h : p = 51 ∨ p = 54 ∨ (p = 49 ∧ j = 8)) : GCf s (sI u p j x) := ⟨a.1, fun q i hq => (sI_ne (by rintro ⟨rfl, rfl⟩; exact hq h)).trans (a.2.1 q i hq), a.2.2⟩
theorem GCf.L {p j : Nat} {s u : ST} {x : Int64} (a : GCf s u) (h : p = 50 ∨ p = 52 ∨ p = 53) : GCf s (sL u p j x) := ⟨a.1, a.2.1, fun q i hq => (sL_ne (by rintro ⟨rfl, rfl⟩; exact hq h)).trans (a.2.2 q i hq)⟩

theorem gcf_J7_fill_53178_at512_ : ∀ (n : Nat) (lab_ : Nat) (l1 : Int) (l2 : Int) (l3 : Int) (sx : ST), GCf sx (f_J7_fill_53178_at512_ n lab_ l1 l2 l3 sx) := by
  intro n
  induction n with
  | zero =>
    intro lab_ l1 l2 l3 sx
    rw [f_J7_fill_53178_at512_]
    exact GCf.rfl
  | succ n ih =>
    intro lab_ l1 l2 l3 sx
    rw [f_J7_fill_53178_at512_]
    have ksx : GCf sx sx := GCf.rfl
    refine p_if (Q := GCf sx) (fun _ => ?_) (fun _ => ?_)
    ·
      exact ksx
    ·
      refine p_bd (Q := GCf sx) (fun s4 hs4 => ?_)
      have ks4 : GCf sx s4 := by rw [hs4]; exact (GCf.I ksx (by omega))
      exact GCf.tr ks4 (ih 5 l1 ((l2 + 1)) l3 s4)
theorem gcf_J7_fill_53178_at512 {s : ST} {a2 : Int} : GCf s (f_J7_fill_53178_at512 s a2) := by
  unfold f_J7_fill_53178_at512
  have ks : GCf s s := GCf.rfl
  exact GCf.tr ks (gcf_J7_fill_53178_at512_ 109 5 a2 0 30 s)
theorem gcf_J7_fill_d0a16_at522_ : ∀ (n : Nat) (lab_ : Nat) (l1 : Int64) (l3 : Int) (l4 : Int) (sx : ST), GCf sx (f_J7_fill_d0a16_at522_ n lab_ l1 l3 l4 sx) := by
  intro n
  induction n with
  | zero =>
    intro lab_ l1 l3 l4 sx
    rw [f_J7_fill_d0a16_at522_]
    exact GCf.rfl
  | succ n ih =>
    intro lab_ l1 l3 l4 sx
    rw [f_J7_fill_d0a16_at522_]
    have ksx : GCf sx sx := GCf.rfl
    refine p_if (Q := GCf sx) (fun _ => ?_) (fun _ => ?_)
    ·
      exact ksx
    ·
      refine p_bd (Q := GCf sx) (fun s4 hs4 => ?_)
      have ks4 : GCf sx s4 := by rw [hs4]; exact (GCf.L ksx (by omega))
      exact GCf.tr ks4 (ih 6 l1 ((l3 + 1)) l4 s4)
theorem gcf_J7_fill_d0a16_at522 {s : ST} {a2 : Int64} : GCf s (f_J7_fill_d0a16_at522 s a2) := by
  unfold f_J7_fill_d0a16_at522
  have ks : GCf s s := GCf.rfl
  exact GCf.tr ks (gcf_J7_fill_d0a16_at522_ 58 6 a2 0 13 s)
theorem gcf_J7_fill_d0a16_at532_ : ∀ (n : Nat) (lab_ : Nat) (l1 : Int64) (l3 : Int) (l4 : Int) (sx : ST), GCf sx (f_J7_fill_d0a16_at532_ n lab_ l1 l3 l4 sx) := by
  intro n
  induction n with
  | zero =>
    intro lab_ l1 l3 l4 sx
    rw [f_J7_fill_d0a16_at532_]
    exact GCf.rfl
  | succ n ih =>
    intro lab_ l1 l3 l4 sx
    rw [f_J7_fill_d0a16_at532_]
    have ksx : GCf sx sx := GCf.rfl
    refine p_if (Q := GCf sx) (fun _ => ?_) (fun _ => ?_)
    ·
      exact ksx
    ·
      refine p_bd (Q := GCf sx) (fun s4 hs4 => ?_)
      have ks4 : GCf sx s4 := by rw [hs4]; exact (GCf.L ksx (by omega))
      exact GCf.tr ks4 (ih 6 l1 ((l3 + 1)) l4 s4)
theorem gcf_J7_fill_d0a16_at532 {s : ST} {a2 : Int64} : GCf s (f_J7_fill_d0a16_at532 s a2) := by
  unfold f_J7_fill_d0a16_at532
  have ks : GCf s s := GCf.rfl
  exact GCf.tr ks (gcf_J7_fill_d0a16_at532_ 58 6 a2 0 13 s)
theorem gcf_X4_clearFound2 {s : ST} : GCf s (f_X4_clearFound2 s) := by
  unfold f_X4_clearFound2
  have ks : GCf s s := GCf.rfl
  refine p_bd (Q := GCf s) (fun s1 hs1 => ?_)
  have ks1 : GCf s s1 := GCf.tr ks (by rw [hs1]; exact gcf_J7_fill_d0a16_at522)
  refine p_bd (Q := GCf s) (fun s5 hs5 => ?_)
  have ks5 : GCf s s5 := GCf.tr ks1 (by rw [hs5]; exact gcf_J7_fill_d0a16_at532)
  refine p_bd (Q := GCf s) (fun s9 hs9 => ?_)
  have ks9 : GCf s s9 := by rw [hs9]; exact (GCf.I ks5 (by omega))
  exact ks9
theorem gcf_X4_add2_ : ∀ (n : Nat) (lab_ : Nat) (l2 : Int) (l5 : Int64) (l7 : Int) (sx : ST), GCf sx (f_X4_add2_ n lab_ l2 l5 l7 sx) := by
  intro n
  induction n with
  | zero =>
    intro lab_ l2 l5 l7 sx
    rw [f_X4_add2_]
    exact GCf.rfl
  | succ n ih =>
    intro lab_ l2 l5 l7 sx
    rw [f_X4_add2_]
    have ksx : GCf sx sx := GCf.rfl
    refine p_if (Q := GCf sx) (fun _ => ?_) (fun _ => ?_)
    ·
      exact ksx
    ·
      refine p_bd (Q := GCf sx) (fun v4 hv4 => ?_)
      refine p_bd (Q := GCf sx) (fun v6 hv6 => ?_)
      refine p_if (Q := GCf sx) (fun _ => ?_) (fun _ => ?_)
      ·
        exact ksx
      ·
        refine p_bd (Q := GCf sx) (fun v11 hv11 => ?_)
        refine p_bd (Q := GCf sx) (fun v13 hv13 => ?_)
        refine p_bd (Q := GCf sx) (fun v15 hv15 => ?_)
        refine p_if (Q := GCf sx) (fun _ => ?_) (fun _ => ?_)
        ·
          exact GCf.tr ksx (ih 30 l2 l5 ((l7 + 1)) sx)
        ·
          refine p_bd (Q := GCf sx) (fun v23 hv23 => ?_)
          refine p_if (Q := GCf sx) (fun _ => ?_) (fun _ => ?_)
          ·
            exact GCf.tr ksx (ih 30 l2 l5 ((l7 + 1)) sx)
          ·
            refine p_bd (Q := GCf sx) (fun s36 hs36 => ?_)
            have ks36 : GCf sx s36 := by rw [hs36]; exact (GCf.I ksx (by omega))
            refine p_bd (Q := GCf sx) (fun s41 hs41 => ?_)
            have ks41 : GCf sx s41 := by rw [hs41]; exact (GCf.I ks36 (by omega))
            exact GCf.tr ks41 (ih 30 l2 l5 ((l7 + 1)) s41)
theorem gcf_X4_add2 {s : ST} {c2 : Nat} {a3 : Int} {a4 : Int64} (hc2 : c2 = 52 ∨ c2 = 53) : GCf s (f_X4_add2 s c2 a3 a4) := by
  unfold f_X4_add2
  have ks : GCf s s := GCf.rfl
  refine p_bd (Q := GCf s) (fun v46 hv46 => ?_)
  refine p_bd (Q := GCf s) (fun v48 hv48 => ?_)
  refine p_bd (Q := GCf s) (fun v50 hv50 => ?_)
  refine p_bd (Q := GCf s) (fun v52 hv52 => ?_)
  refine p_if (Q := GCf s) (fun _ => ?_) (fun _ => ?_)
  ·
    refine p_bd (Q := GCf s) (fun v56 hv56 => ?_)
    refine p_bd (Q := GCf s) (fun v58 hv58 => ?_)
    refine p_bd (Q := GCf s) (fun s60 hs60 => ?_)
    have ks60 : GCf s s60 := by rw [hs60]; exact (GCf.L ks (by omega))
    exact GCf.tr ks60 (gcf_X4_add2_ 154 30 a3 v50 0 s60)
  ·
    exact ks
theorem gcf_X4_followRow2_ : ∀ (n : Nat) (lab_ : Nat) (l1 : Nat) (l3 : Int) (l4 : Int) (sx : ST), (l1 = 52 ∨ l1 = 53) → GCf sx (f_X4_followRow2_ n lab_ l1 l3 l4 sx) := by
  intro n
  induction n with
  | zero =>
    intro lab_ l1 l3 l4 sx hl1
    rw [f_X4_followRow2_]
    exact GCf.rfl
  | succ n ih =>
    intro lab_ l1 l3 l4 sx hl1
    rw [f_X4_followRow2_]
    have ksx : GCf sx sx := GCf.rfl
    refine p_if (Q := GCf sx) (fun _ => ?_) (fun _ => ?_)
    ·
      exact ksx
    ·
      refine p_bd (Q := GCf sx) (fun v6 hv6 => ?_)
      refine p_bd (Q := GCf sx) (fun v8 hv8 => ?_)
      refine p_if (Q := GCf sx) (fun _ => ?_) (fun _ => ?_)
      ·
        exact GCf.tr ksx (ih 8 l1 l3 ((l4 + 1)) sx hl1)
      ·
        refine p_bd (Q := GCf sx) (fun s16 hs16 => ?_)
        have ks16 : GCf sx s16 := GCf.tr ksx (by rw [hs16]; exact gcf_X4_add2 hl1)
        exact GCf.tr ks16 (ih 8 l1 l3 ((l4 + 1)) s16 hl1)
theorem gcf_X4_followRow2 {s : ST} {c2 : Nat} {a3 : Int} (hc2 : c2 = 52 ∨ c2 = 53) : GCf s (f_X4_followRow2 s c2 a3) := by
  unfold f_X4_followRow2
  have ks : GCf s s := GCf.rfl
  exact GCf.tr ks (gcf_X4_followRow2_ 58 8 c2 ((a3 * 13)) 0 s hc2)
theorem gcf_X4_followCall2_ : ∀ (n : Nat) (lab_ : Nat) (l1 : Nat) (l2 : Int) (l3 : Int) (l4 : Int) (l5 : Int) (l6 : Int) (l7 : Int) (sx : ST), (l1 = 52 ∨ l1 = 53) → GCf sx (f_X4_followCall2_ n lab_ l1 l2 l3 l4 l5 l6 l7 sx) := by
  intro n
  induction n with
  | zero =>
    intro lab_ l1 l2 l3 l4 l5 l6 l7 sx hl1
    rw [f_X4_followCall2_]
    exact GCf.rfl
  | succ n ih =>
    intro lab_ l1 l2 l3 l4 l5 l6 l7 sx hl1
    rw [f_X4_followCall2_]
    have ksx : GCf sx sx := GCf.rfl
    refine p_if (Q := GCf sx) (fun _ => ?_) (fun _ => ?_)
    ·
      refine p_if (Q := GCf sx) (fun _ => ?_) (fun _ => ?_)
      ·
        exact ksx
      ·
        refine p_bd (Q := GCf sx) (fun v8 hv8 => ?_)
        refine p_bd (Q := GCf sx) (fun s10 hs10 => ?_)
        have ks10 : GCf sx s10 := GCf.tr ksx (by rw [hs10]; exact gcf_X4_add2 hl1)
        exact ks10
    ·
      refine p_bd (Q := GCf sx) (fun v15 hv15 => ?_)
      refine p_bd (Q := GCf sx) (fun v17 hv17 => ?_)
      refine p_if (Q := GCf sx) (fun _ => ?_) (fun _ => ?_)
      ·
        exact GCf.tr ksx (ih 37 l1 l2 l3 l4 l5 l6 ((l7 + 1)) sx hl1)
      ·
        refine p_bd (Q := GCf sx) (fun v27 hv27 => ?_)
        refine p_bd (Q := GCf sx) (fun s29 hs29 => ?_)
        have ks29 : GCf sx s29 := GCf.tr ksx (by rw [hs29]; exact gcf_X4_add2 hl1)
        exact GCf.tr ks29 (ih 37 l1 l2 l3 l4 l5 l6 ((l7 + 1)) s29 hl1)
theorem gcf_X4_followCall2 {s : ST} {c2 : Nat} {a3 : Int} {a4 : Int} {a5 : Int} (hc2 : c2 = 52 ∨ c2 = 53) : GCf s (f_X4_followCall2 s c2 a3 a4 a5) := by
  unfold f_X4_followCall2
  have ks : GCf s s := GCf.rfl
  refine p_bd (Q := GCf s) (fun c36 hc36 => ?_)
  refine p_bd (Q := GCf s) (fun v38 hv38 => ?_)
  refine p_if (Q := GCf s) (fun _ => ?_) (fun _ => ?_)
  ·
    refine p_bd (Q := GCf s) (fun v48 hv48 => ?_)
    exact GCf.tr ks (gcf_X4_followCall2_ 37 37 c2 a3 a4 a5 v38 v48 0 s hc2)
  ·
    exact ks
theorem gcf_X4_spread2_ : ∀ (n : Nat) (lab_ : Nat) (l1 : Nat) (l2 : Int) (l3 : Int) (sx : ST), (l1 = 52 ∨ l1 = 53) → GCf sx (f_X4_spread2_ n lab_ l1 l2 l3 sx) := by
  intro n
  induction n with
  | zero =>
    intro lab_ l1 l2 l3 sx hl1
    rw [f_X4_spread2_]
    exact GCf.rfl
  | succ n ih =>
    intro lab_ l1 l2 l3 sx hl1
    rw [f_X4_spread2_]
    have ksx : GCf sx sx := GCf.rfl
    refine p_if (Q := GCf sx) (fun _ => ?_) (fun _ => ?_)
    ·
      refine p_bd (Q := GCf sx) (fun s3 hs3 => ?_)
      have ks3 : GCf sx s3 := by rw [hs3]; exact (GCf.I ksx (by omega))
      exact ks3
    ·
      refine p_bd (Q := GCf sx) (fun v6 hv6 => ?_)
      refine p_if (Q := GCf sx) (fun _ => ?_) (fun _ => ?_)
      ·
        refine p_bd (Q := GCf sx) (fun s10 hs10 => ?_)
        have ks10 : GCf sx s10 := by rw [hs10]; exact (GCf.I ksx (by omega))
        exact ks10
      ·
        refine p_bd (Q := GCf sx) (fun v13 hv13 => ?_)
        refine p_bd (Q := GCf sx) (fun v17 hv17 => ?_)
        refine p_bd (Q := GCf sx) (fun v21 hv21 => ?_)
        refine p_bd (Q := GCf sx) (fun s23 hs23 => ?_)
        have ks23 : GCf sx s23 := GCf.tr ksx (by rw [hs23]; exact gcf_X4_followRow2 hl1)
        refine p_if (Q := GCf sx) (fun _ => ?_) (fun _ => ?_)
        ·
          refine p_if (Q := GCf sx) (fun _ => ?_) (fun _ => ?_)
          ·
            exact GCf.tr ks23 (ih 2 l1 l2 ((l3 + 1)) s23 hl1)
          ·
            refine p_if (Q := GCf sx) (fun _ => ?_) (fun _ => ?_)
            ·
              exact GCf.tr ks23 (ih 2 l1 l2 ((l3 + 1)) s23 hl1)
            ·
              refine p_bd (Q := GCf sx) (fun v44 hv44 => ?_)
              refine p_bd (Q := GCf sx) (fun s46 hs46 => ?_)
              have ks46 : GCf sx s46 := GCf.tr ks23 (by rw [hs46]; exact gcf_X4_add2 hl1)
              exact GCf.tr ks46 (ih 2 l1 l2 ((l3 + 1)) s46 hl1)
        ·
          refine p_if (Q := GCf sx) (fun _ => ?_) (fun _ => ?_)
          ·
            exact GCf.tr ks23 (ih 2 l1 l2 ((l3 + 1)) s23 hl1)
          ·
            refine p_bd (Q := GCf sx) (fun s61 hs61 => ?_)
            have ks61 : GCf sx s61 := GCf.tr ks23 (by rw [hs61]; exact gcf_X4_followCall2 hl1)
            exact GCf.tr ks61 (ih 2 l1 l2 ((l3 + 1)) s61 hl1)
theorem gcf_X4_spread2 {s : ST} {c2 : Nat} {a3 : Int} (hc2 : c2 = 52 ∨ c2 = 53) : GCf s (f_X4_spread2 s c2 a3) := by
  unfold f_X4_spread2
  have ks : GCf s s := GCf.rfl
  exact GCf.tr ks (gcf_X4_spread2_ 1774 2 c2 a3 0 s hc2)
theorem gcf_X4_insFrom2_ : ∀ (n : Nat) (lab_ : Nat) (l1 : Int) (l3 : Int) (l4 : Int) (sx : ST), GCfp sx (f_X4_insFrom2_ n lab_ l1 l3 l4 sx) := by
  intro n
  induction n with
  | zero =>
    intro lab_ l1 l3 l4 sx
    rw [f_X4_insFrom2_]
    exact GCf.rfl
  | succ n ih =>
    intro lab_ l1 l3 l4 sx
    rw [f_X4_insFrom2_]
    have ksx : GCf sx sx := GCf.rfl
    refine p_if (Q := GCfp sx) (fun _ => ?_) (fun _ => ?_)
    ·
      exact ksx
    ·
      refine p_bd (Q := GCfp sx) (fun v6 hv6 => ?_)
      refine p_bd (Q := GCfp sx) (fun v12 hv12 => ?_)
      refine p_if (Q := GCfp sx) (fun _ => ?_) (fun _ => ?_)
      ·
        exact GCf.trp ksx (ih 37 l1 l3 ((l4 + 1)) sx)
      ·
        refine p_bd (Q := GCfp sx) (fun v20 hv20 => ?_)
        refine p_bd (Q := GCfp sx) (fun v22 hv22 => ?_)
        exact GCf.trp ksx (ih 37 l1 v22 ((l4 + 1)) sx)
theorem gcf_X4_insFrom2 {s : ST} {a2 : Int} {a3 : Int} : GCfp s (f_X4_insFrom2 s a2 a3) := by
  unfold f_X4_insFrom2
  have ks : GCf s s := GCf.rfl
  refine p_bd (Q := GCfp s) (fun s27 hs27 => ?_)
  have ks27 : GCf s s27 := GCf.tr ks (by rw [hs27]; exact gcf_X4_clearFound2)
  refine p_bd (Q := GCfp s) (fun v37 hv37 => ?_)
  refine p_bd (Q := GCfp s) (fun s39 hs39 => ?_)
  have ks39 : GCf s s39 := GCf.tr ks27 (by rw [hs39]; exact gcf_X4_add2 (by decide))
  refine p_bd (Q := GCfp s) (fun s43 hs43 => ?_)
  have ks43 : GCf s s43 := GCf.tr ks39 (by rw [hs43]; exact gcf_X4_spread2 (by decide))
  exact GCf.trp ks43 (gcf_X4_insFrom2_ 37 37 a2 0 0 s43)
theorem gcf_X4_growThrough2_ : ∀ (n : Nat) (lab : Nat) (l1 : Int) (l2 : Int) (l3 : Int) (sx : ST), GCfp sx (f_X4_growThrough2_ n lab l1 l2 l3 sx) := by
  intro n
  induction n with
  | zero =>
    intro lab l1 l2 l3 sx
    rw [f_X4_growThrough2_]
    exact GCf.rfl
  | succ n ih =>
    intro lab l1 l2 l3 sx
    rw [f_X4_growThrough2_]
    have ksx : GCf sx sx := GCf.rfl
    refine p_if (Q := GCfp sx) (fun _ => ?_) (fun _ => ?_)
    ·
      refine p_bd (Q := GCfp sx) (fun c1 hc1 => ?_)
      refine p_bd (Q := GCfp sx) (fun v3 hv3 => ?_)
      refine p_if (Q := GCfp sx) (fun _ => ?_) (fun _ => ?_)
      ·
        exact ksx
      ·
        exact GCf.trp ksx (ih 17 l1 l2 0 sx)
    ·
      refine p_if (Q := GCfp sx) (fun _ => ?_) (fun _ => ?_)
      ·
        exact GCf.trp ksx (ih 4 l1 ((l2 + 1)) 0 sx)
      ·
        refine p_bd2 (Q := GCfp sx) (fun s15 v18 hs15 => ?_)
        have ks15 : GCf sx s15 := GCf.tr ksx (by have z : GCfp sx (f_X4_insFrom2 sx l2 l3) := gcf_X4_insFrom2; rw [← hs15] at z; exact z)
        refine p_bd (Q := GCfp sx) (fun v24 hv24 => ?_)
        refine p_if (Q := GCfp sx) (fun _ => ?_) (fun _ => ?_)
        ·
          refine p_bd (Q := GCfp sx) (fun v28 hv28 => ?_)
          refine p_bd (Q := GCfp sx) (fun s34 hs34 => ?_)
          have ks34 : GCf sx s34 := by rw [hs34]; exact (GCf.I ks15 (by omega))
          exact GCf.trp ks34 (ih 17 v28 l2 ((l3 + 1)) s34)
        ·
          refine p_bd (Q := GCfp sx) (fun v40 hv40 => ?_)
          refine p_bd (Q := GCfp sx) (fun s46 hs46 => ?_)
          have ks46 : GCf sx s46 := by rw [hs46]; exact (GCf.I ks15 (by omega))
          exact GCf.trp ks46 (ih 17 v40 l2 ((l3 + 1)) s46)
theorem gcf_X4_growThrough2 {s : ST} : GCfp s (f_X4_growThrough2 s) := by
  unfold f_X4_growThrough2
  have ks : GCf s s := GCf.rfl
  exact GCf.trp ks (gcf_X4_growThrough2_ 202 4 0 0 0 s)
theorem gcf_X4_prepare2_ : ∀ (n : Nat) (lab : Nat) (l2 : Int) (l3 : Int) (sx : ST), GCf sx (f_X4_prepare2_ n lab l2 l3 sx) := by
  intro n
  induction n with
  | zero =>
    intro lab l2 l3 sx
    rw [f_X4_prepare2_]
    exact GCf.rfl
  | succ n ih =>
    intro lab l2 l3 sx
    rw [f_X4_prepare2_]
    have ksx : GCf sx sx := GCf.rfl
    refine p_if (Q := GCf sx) (fun _ => ?_) (fun _ => ?_)
    ·
      refine p_bd (Q := GCf sx) (fun c1 hc1 => ?_)
      refine p_bd (Q := GCf sx) (fun v3 hv3 => ?_)
      refine p_if (Q := GCf sx) (fun _ => ?_) (fun _ => ?_)
      ·
        refine p_bd (Q := GCf sx) (fun s7 hs7 => ?_)
        have ks7 : GCf sx s7 := GCf.tr ksx (by rw [hs7]; exact gcf_J7_fill_53178_at512)
        exact GCf.tr ks7 (ih 84 1 0 s7)
      ·
        refine p_bd (Q := GCf sx) (fun c14 hc14 => ?_)
        refine p_bd (Q := GCf sx) (fun v18 hv18 => ?_)
        refine p_bd (Q := GCf sx) (fun s20 hs20 => ?_)
        have ks20 : GCf sx s20 := by rw [hs20]; exact (GCf.L ksx (by omega))
        exact GCf.tr ks20 (ih 41 ((l2 + 1)) 0 s20)
    ·
      refine p_if (Q := GCf sx) (fun _ => ?_) (fun _ => ?_)
      ·
        exact ksx
      ·
        refine p_if (Q := GCf sx) (fun _ => ?_) (fun _ => ?_)
        ·
          exact ksx
        ·
          refine p_bd2 (Q := GCf sx) (fun s31 v34 hs31 => ?_)
          have ks31 : GCf sx s31 := GCf.tr ksx (by have z : GCfp sx (f_X4_growThrough2 sx) := gcf_X4_growThrough2; rw [← hs31] at z; exact z)
          exact GCf.tr ks31 (ih 84 v34 ((l3 + 1)) s31)

