/-! frames of all that lays -/
def GLf (s s' : ST) : Prop := s'.2.2 = s.2.2 ∧ (∀ p j, ¬ (p = 103 ∨ p = 108 ∨ p = 109 ∨ p = 110 ∨ (p = 70 ∧ j = 47)) → s'.1 p j = s.1 p j) ∧ (∀ p j : Nat, ¬ (p = 104 ∨ p = 105 ∨ p = 106 ∨ p = 107 ∨ p = 111) → s'.2.1 p j = s.2.1 p j)
def GLfp {α : Type} (s : ST) (z : ST × α) : Prop := GLf s z.1
theorem GLf.rfl {s : ST} : GLf s s := ⟨_root_.rfl, fun _ _ _ => _root_.rfl, fun _ _ _ => _root_.rfl⟩
theorem GLf.tr {s u w : ST} (a : GLf s u) (b : GLf u w) : GLf s w := ⟨b.1.trans a.1, fun p j h => (b.2.1 p j h).trans (a.2.1 p j h), fun p j h => (b.2.2 p j h).trans (a.2.2 p j h)⟩
theorem GLf.trp {α : Type} {s u : ST} {w : ST × α} (a : GLf s u) (b : GLfp u w) : GLfp s w := GLf.tr a b
theorem GLf.I {p j : Nat} {s u : ST} {x : Int} (a : GLf s u) (h : p = 103 ∨ p = 108 ∨ p = 109 ∨ p = 110 ∨ (p = 70 ∧ j = 47)) : GLf s (sI u p j x) := ⟨a.1, fun q i hq => (sI_ne (by rintro ⟨rfl, rfl⟩; exact hq h)).trans (a.2.1 q i hq), a.2.2⟩
theorem GLf.L {p j : Nat} {s u : ST} {x : Int64} (a : GLf s u) (h : p = 104 ∨ p = 105 ∨ p = 106 ∨ p = 107 ∨ p = 111) : GLf s (sL u p j x) := ⟨a.1, a.2.1, fun q i hq => (sL_ne (by rintro ⟨rfl, rfl⟩; exact hq h)).trans (a.2.2 q i hq)⟩

theorem glf_X8_hang2 {s : ST} {a2 : Int} {a3 : Int} : GLf s (f_X8_hang2 s a2 a3) := by
  unfold f_X8_hang2
  have ks : GLf s s := GLf.rfl
  refine p_bd (Q := GLf s) (fun v7 hv7 => ?_)
  refine p_bd (Q := GLf s) (fun v11 hv11 => ?_)
  refine p_bd (Q := GLf s) (fun v13 hv13 => ?_)
  refine p_bd (Q := GLf s) (fun s15 hs15 => ?_)
  have ks15 : GLf s s15 := by rw [hs15]; exact (GLf.I ks (by omega))
  exact ks15
theorem glf_X8_uses2_ : ∀ (n : Nat) (lab : Nat) (l1 : Int) (l2 : Int) (l4 : Int) (l5 : Int64) (l7 : Int64) (l9 : Int) (l10 : Int) (l11 : Int) (l12 : Int) (sx : ST), GLf sx (f_X8_uses2_ n lab l1 l2 l4 l5 l7 l9 l10 l11 l12 sx) := by
  intro n
  induction n with
  | zero =>
    intro lab l1 l2 l4 l5 l7 l9 l10 l11 l12 sx
    rw [f_X8_uses2_]
    exact GLf.rfl
  | succ n ih =>
    intro lab l1 l2 l4 l5 l7 l9 l10 l11 l12 sx
    rw [f_X8_uses2_]
    have ksx : GLf sx sx := GLf.rfl
    refine p_if (Q := GLf sx) (fun _ => ?_) (fun _ => ?_)
    ·
      refine p_if (Q := GLf sx) (fun _ => ?_) (fun _ => ?_)
      ·
        exact GLf.tr ksx (ih 83 l1 l2 l4 l5 l7 0 (-1) 0 0 sx)
      ·
        refine p_bd (Q := GLf sx) (fun v8 hv8 => ?_)
        refine p_if (Q := GLf sx) (fun _ => ?_) (fun _ => ?_)
        ·
          exact ksx
        ·
          refine p_bd (Q := GLf sx) (fun v16 hv16 => ?_)
          refine p_bd (Q := GLf sx) (fun v19 hv19 => ?_)
          refine p_bd (Q := GLf sx) (fun v21 hv21 => ?_)
          refine p_bd (Q := GLf sx) (fun v23 hv23 => ?_)
          refine p_bd (Q := GLf sx) (fun v25 hv25 => ?_)
          exact GLf.tr ksx (ih 83 l1 l2 l4 v25 v21 0 v16 0 0 sx)
    ·
      refine p_if (Q := GLf sx) (fun _ => ?_) (fun _ => ?_)
      ·
        refine p_bd (Q := GLf sx) (fun v28 hv28 => ?_)
        refine p_bd (Q := GLf sx) (fun v34 hv34 => ?_)
        refine p_if (Q := GLf sx) (fun _ => ?_) (fun _ => ?_)
        ·
          exact GLf.tr ksx (ih 140 l1 l2 l4 l5 l7 l9 l10 0 0 sx)
        ·
          refine p_if (Q := GLf sx) (fun _ => ?_) (fun _ => ?_)
          ·
            refine p_bd (Q := GLf sx) (fun v46 hv46 => ?_)
            refine p_bd (Q := GLf sx) (fun s48 hs48 => ?_)
            have ks48 : GLf sx s48 := GLf.tr ksx (by rw [hs48]; exact glf_X8_hang2)
            exact GLf.tr ks48 (ih 140 l1 l2 l4 l5 l7 l9 l10 0 0 s48)
          ·
            refine p_if (Q := GLf sx) (fun _ => ?_) (fun _ => ?_)
            ·
              exact GLf.tr ksx (ih 140 l1 l2 l4 l5 l7 l9 l10 0 0 sx)
            ·
              refine p_bd (Q := GLf sx) (fun v63 hv63 => ?_)
              refine p_bd (Q := GLf sx) (fun s65 hs65 => ?_)
              have ks65 : GLf sx s65 := GLf.tr ksx (by rw [hs65]; exact glf_X8_hang2)
              exact GLf.tr ks65 (ih 140 l1 l2 l4 l5 l7 l9 l10 0 0 s65)
      ·
        refine p_if (Q := GLf sx) (fun _ => ?_) (fun _ => ?_)
        ·
          exact GLf.tr ksx (ih 143 l1 l2 l4 l5 l7 l9 l10 0 0 sx)
        ·
          refine p_if (Q := GLf sx) (fun _ => ?_) (fun _ => ?_)
          ·
            refine p_bd (Q := GLf sx) (fun v70 hv70 => ?_)
            refine p_bd (Q := GLf sx) (fun v72 hv72 => ?_)
            refine p_if (Q := GLf sx) (fun _ => ?_) (fun _ => ?_)
            ·
              exact GLf.tr ksx (ih 29 l1 l2 l4 l5 l7 l9 0 0 0 sx)
            ·
              exact GLf.tr ksx (ih 160 l1 l2 l4 l5 l7 l9 l10 l11 0 sx)
          ·
            refine p_if (Q := GLf sx) (fun _ => ?_) (fun _ => ?_)
            ·
              exact GLf.tr ksx (ih 143 l1 l2 l4 l5 l7 l9 l10 ((l11 + 1)) 0 sx)
            ·
              refine p_bd (Q := GLf sx) (fun v86 hv86 => ?_)
              refine p_if (Q := GLf sx) (fun _ => ?_) (fun _ => ?_)
              ·
                exact GLf.tr ksx (ih 143 l1 l2 l4 l5 l7 l9 l10 ((l11 + 1)) 0 sx)
              ·
                refine p_bd (Q := GLf sx) (fun v98 hv98 => ?_)
                refine p_if (Q := GLf sx) (fun _ => ?_) (fun _ => ?_)
                ·
                  refine p_bd (Q := GLf sx) (fun v104 hv104 => ?_)
                  refine p_if (Q := GLf sx) (fun _ => ?_) (fun _ => ?_)
                  ·
                    refine p_bd (Q := GLf sx) (fun v111 hv111 => ?_)
                    refine p_if (Q := GLf sx) (fun _ => ?_) (fun _ => ?_)
                    ·
                      exact GLf.tr ksx (ih 160 l1 l2 l4 l5 l7 l9 l10 l11 ((l12 + 1)) sx)
                    ·
                      refine p_bd (Q := GLf sx) (fun v119 hv119 => ?_)
                      refine p_bd (Q := GLf sx) (fun v121 hv121 => ?_)
                      exact GLf.tr ksx (ih 160 l1 l2 l4 l5 v121 l9 l10 l11 ((l12 + 1)) sx)
                  ·
                    refine p_bd (Q := GLf sx) (fun s127 hs127 => ?_)
                    have ks127 : GLf sx s127 := GLf.tr ksx (by rw [hs127]; exact glf_X8_hang2)
                    exact GLf.tr ks127 (ih 160 l1 l2 l4 l5 l7 l9 l10 l11 ((l12 + 1)) s127)
                ·
                  exact GLf.tr ksx (ih 160 l1 l2 l4 l5 l7 l9 l10 l11 ((l12 + 1)) sx)
theorem glf_X8_uses2 {s : ST} {a2 : Int} {a3 : Int} {a4 : Int} {a5 : Int} : GLf s (f_X8_uses2 s a2 a3 a4 a5) := by
  unfold f_X8_uses2
  have ks : GLf s s := GLf.rfl
  refine p_if (Q := GLf s) (fun _ => ?_) (fun _ => ?_)
  ·
    refine p_bd (Q := GLf s) (fun v140 hv140 => ?_)
    exact GLf.tr ks (glf_X8_uses2_ (BG 184467440737095516170001) 29 a2 a3 a5 (0 : Int64) v140 0 0 0 0 s)
  ·
    exact GLf.tr ks (glf_X8_uses2_ (BG 184467440737095516170001) 29 a2 a3 a5 (0 : Int64) (0 : Int64) 1 0 0 0 s)
theorem glf_X8_usesOperand2 {s : ST} {a2 : Int} {a3 : Int} {a4 : Int} : GLf s (f_X8_usesOperand2 s a2 a3 a4) := by
  unfold f_X8_usesOperand2
  have ks : GLf s s := GLf.rfl
  refine p_bd (Q := GLf s) (fun v4 hv4 => ?_)
  refine p_bd (Q := GLf s) (fun v10 hv10 => ?_)
  refine p_if (Q := GLf s) (fun _ => ?_) (fun _ => ?_)
  ·
    exact ks
  ·
    refine p_bd (Q := GLf s) (fun v17 hv17 => ?_)
    refine p_bd (Q := GLf s) (fun s21 hs21 => ?_)
    have ks21 : GLf s s21 := GLf.tr ks (by rw [hs21]; exact glf_X8_uses2)
    exact ks21
theorem glf_X8_ends_x2 {s : ST} {a2 : Int} : GLf s (f_X8_ends_x2 s a2) := by
  unfold f_X8_ends_x2
  have ks : GLf s s := GLf.rfl
  refine p_bd (Q := GLf s) (fun v3 hv3 => ?_)
  refine p_bd (Q := GLf s) (fun v5 hv5 => ?_)
  refine p_bd (Q := GLf s) (fun v11 hv11 => ?_)
  refine p_if (Q := GLf s) (fun _ => ?_) (fun _ => ?_)
  ·
    refine p_bd (Q := GLf s) (fun v18 hv18 => ?_)
    refine p_if (Q := GLf s) (fun _ => ?_) (fun _ => ?_)
    ·
      refine p_bd (Q := GLf s) (fun v24 hv24 => ?_)
      refine p_if (Q := GLf s) (fun _ => ?_) (fun _ => ?_)
      ·
        refine p_bd (Q := GLf s) (fun v31 hv31 => ?_)
        refine p_bd (Q := GLf s) (fun v35 hv35 => ?_)
        refine p_bd (Q := GLf s) (fun s37 hs37 => ?_)
        have ks37 : GLf s s37 := GLf.tr ks (by rw [hs37]; exact glf_X8_hang2)
        refine p_bd (Q := GLf s) (fun v42 hv42 => ?_)
        refine p_bd (Q := GLf s) (fun v48 hv48 => ?_)
        refine p_if (Q := GLf s) (fun _ => ?_) (fun _ => ?_)
        ·
          refine p_bd (Q := GLf s) (fun v55 hv55 => ?_)
          refine p_bd (Q := GLf s) (fun v59 hv59 => ?_)
          refine p_bd (Q := GLf s) (fun s61 hs61 => ?_)
          have ks61 : GLf s s61 := GLf.tr ks37 (by rw [hs61]; exact glf_X8_hang2)
          exact ks61
        ·
          exact ks37
      ·
        refine p_bd (Q := GLf s) (fun v72 hv72 => ?_)
        refine p_bd (Q := GLf s) (fun v76 hv76 => ?_)
        refine p_bd (Q := GLf s) (fun s78 hs78 => ?_)
        have ks78 : GLf s s78 := GLf.tr ks (by rw [hs78]; exact glf_X8_hang2)
        refine p_bd (Q := GLf s) (fun v83 hv83 => ?_)
        refine p_bd (Q := GLf s) (fun v89 hv89 => ?_)
        refine p_if (Q := GLf s) (fun _ => ?_) (fun _ => ?_)
        ·
          refine p_bd (Q := GLf s) (fun v96 hv96 => ?_)
          refine p_bd (Q := GLf s) (fun v100 hv100 => ?_)
          refine p_bd (Q := GLf s) (fun s102 hs102 => ?_)
          have ks102 : GLf s s102 := GLf.tr ks78 (by rw [hs102]; exact glf_X8_hang2)
          exact ks102
        ·
          exact ks78
    ·
      refine p_bd (Q := GLf s) (fun v112 hv112 => ?_)
      refine p_if (Q := GLf s) (fun _ => ?_) (fun _ => ?_)
      ·
        refine p_bd (Q := GLf s) (fun v118 hv118 => ?_)
        refine p_if (Q := GLf s) (fun _ => ?_) (fun _ => ?_)
        ·
          refine p_bd (Q := GLf s) (fun v129 hv129 => ?_)
          refine p_if (Q := GLf s) (fun _ => ?_) (fun _ => ?_)
          ·
            exact ks
          ·
            exact ks
        ·
          refine p_bd (Q := GLf s) (fun v145 hv145 => ?_)
          refine p_if (Q := GLf s) (fun _ => ?_) (fun _ => ?_)
          ·
            exact ks
          ·
            exact ks
      ·
        refine p_bd (Q := GLf s) (fun v156 hv156 => ?_)
        refine p_if (Q := GLf s) (fun _ => ?_) (fun _ => ?_)
        ·
          refine p_bd (Q := GLf s) (fun v167 hv167 => ?_)
          refine p_if (Q := GLf s) (fun _ => ?_) (fun _ => ?_)
          ·
            exact ks
          ·
            exact ks
        ·
          refine p_bd (Q := GLf s) (fun v183 hv183 => ?_)
          refine p_if (Q := GLf s) (fun _ => ?_) (fun _ => ?_)
          ·
            exact ks
          ·
            exact ks
  ·
    refine p_bd (Q := GLf s) (fun v196 hv196 => ?_)
    refine p_if (Q := GLf s) (fun _ => ?_) (fun _ => ?_)
    ·
      refine p_bd (Q := GLf s) (fun v203 hv203 => ?_)
      refine p_if (Q := GLf s) (fun _ => ?_) (fun _ => ?_)
      ·
        refine p_bd (Q := GLf s) (fun v209 hv209 => ?_)
        refine p_if (Q := GLf s) (fun _ => ?_) (fun _ => ?_)
        ·
          refine p_bd (Q := GLf s) (fun v216 hv216 => ?_)
          refine p_bd (Q := GLf s) (fun v220 hv220 => ?_)
          refine p_bd (Q := GLf s) (fun s222 hs222 => ?_)
          have ks222 : GLf s s222 := GLf.tr ks (by rw [hs222]; exact glf_X8_hang2)
          refine p_bd (Q := GLf s) (fun v227 hv227 => ?_)
          refine p_bd (Q := GLf s) (fun v233 hv233 => ?_)
          refine p_if (Q := GLf s) (fun _ => ?_) (fun _ => ?_)
          ·
            refine p_bd (Q := GLf s) (fun v240 hv240 => ?_)
            refine p_bd (Q := GLf s) (fun v244 hv244 => ?_)
            refine p_bd (Q := GLf s) (fun s246 hs246 => ?_)
            have ks246 : GLf s s246 := GLf.tr ks222 (by rw [hs246]; exact glf_X8_hang2)
            exact ks246
          ·
            exact ks222
        ·
          refine p_bd (Q := GLf s) (fun v257 hv257 => ?_)
          refine p_bd (Q := GLf s) (fun v261 hv261 => ?_)
          refine p_bd (Q := GLf s) (fun s263 hs263 => ?_)
          have ks263 : GLf s s263 := GLf.tr ks (by rw [hs263]; exact glf_X8_hang2)
          refine p_bd (Q := GLf s) (fun v268 hv268 => ?_)
          refine p_bd (Q := GLf s) (fun v274 hv274 => ?_)
          refine p_if (Q := GLf s) (fun _ => ?_) (fun _ => ?_)
          ·
            refine p_bd (Q := GLf s) (fun v281 hv281 => ?_)
            refine p_bd (Q := GLf s) (fun v285 hv285 => ?_)
            refine p_bd (Q := GLf s) (fun s287 hs287 => ?_)
            have ks287 : GLf s s287 := GLf.tr ks263 (by rw [hs287]; exact glf_X8_hang2)
            exact ks287
          ·
            exact ks263
      ·
        refine p_bd (Q := GLf s) (fun v297 hv297 => ?_)
        refine p_if (Q := GLf s) (fun _ => ?_) (fun _ => ?_)
        ·
          refine p_bd (Q := GLf s) (fun v303 hv303 => ?_)
          refine p_if (Q := GLf s) (fun _ => ?_) (fun _ => ?_)
          ·
            refine p_bd (Q := GLf s) (fun v314 hv314 => ?_)
            refine p_if (Q := GLf s) (fun _ => ?_) (fun _ => ?_)
            ·
              exact ks
            ·
              exact ks
          ·
            refine p_bd (Q := GLf s) (fun v330 hv330 => ?_)
            refine p_if (Q := GLf s) (fun _ => ?_) (fun _ => ?_)
            ·
              exact ks
            ·
              exact ks
        ·
          refine p_bd (Q := GLf s) (fun v341 hv341 => ?_)
          refine p_if (Q := GLf s) (fun _ => ?_) (fun _ => ?_)
          ·
            refine p_bd (Q := GLf s) (fun v352 hv352 => ?_)
            refine p_if (Q := GLf s) (fun _ => ?_) (fun _ => ?_)
            ·
              exact ks
            ·
              exact ks
          ·
            refine p_bd (Q := GLf s) (fun v368 hv368 => ?_)
            refine p_if (Q := GLf s) (fun _ => ?_) (fun _ => ?_)
            ·
              exact ks
            ·
              exact ks
    ·
      refine p_bd (Q := GLf s) (fun v379 hv379 => ?_)
      refine p_if (Q := GLf s) (fun _ => ?_) (fun _ => ?_)
      ·
        refine p_bd (Q := GLf s) (fun v385 hv385 => ?_)
        refine p_if (Q := GLf s) (fun _ => ?_) (fun _ => ?_)
        ·
          refine p_bd (Q := GLf s) (fun v392 hv392 => ?_)
          refine p_bd (Q := GLf s) (fun v396 hv396 => ?_)
          refine p_bd (Q := GLf s) (fun s398 hs398 => ?_)
          have ks398 : GLf s s398 := GLf.tr ks (by rw [hs398]; exact glf_X8_hang2)
          refine p_bd (Q := GLf s) (fun v403 hv403 => ?_)
          refine p_bd (Q := GLf s) (fun v409 hv409 => ?_)
          refine p_if (Q := GLf s) (fun _ => ?_) (fun _ => ?_)
          ·
            refine p_bd (Q := GLf s) (fun v416 hv416 => ?_)
            refine p_bd (Q := GLf s) (fun v420 hv420 => ?_)
            refine p_bd (Q := GLf s) (fun s422 hs422 => ?_)
            have ks422 : GLf s s422 := GLf.tr ks398 (by rw [hs422]; exact glf_X8_hang2)
            exact ks422
          ·
            exact ks398
        ·
          refine p_bd (Q := GLf s) (fun v433 hv433 => ?_)
          refine p_bd (Q := GLf s) (fun v437 hv437 => ?_)
          refine p_bd (Q := GLf s) (fun s439 hs439 => ?_)
          have ks439 : GLf s s439 := GLf.tr ks (by rw [hs439]; exact glf_X8_hang2)
          refine p_bd (Q := GLf s) (fun v446 hv446 => ?_)
          refine p_bd (Q := GLf s) (fun v450 hv450 => ?_)
          refine p_bd (Q := GLf s) (fun s452 hs452 => ?_)
          have ks452 : GLf s s452 := GLf.tr ks439 (by rw [hs452]; exact glf_X8_hang2)
          refine p_bd (Q := GLf s) (fun v456 hv456 => ?_)
          refine p_bd (Q := GLf s) (fun v462 hv462 => ?_)
          refine p_if (Q := GLf s) (fun _ => ?_) (fun _ => ?_)
          ·
            refine p_bd (Q := GLf s) (fun v469 hv469 => ?_)
            refine p_bd (Q := GLf s) (fun v473 hv473 => ?_)
            refine p_bd (Q := GLf s) (fun s475 hs475 => ?_)
            have ks475 : GLf s s475 := GLf.tr ks452 (by rw [hs475]; exact glf_X8_hang2)
            refine p_bd (Q := GLf s) (fun v482 hv482 => ?_)
            refine p_bd (Q := GLf s) (fun v486 hv486 => ?_)
            refine p_bd (Q := GLf s) (fun s488 hs488 => ?_)
            have ks488 : GLf s s488 := GLf.tr ks475 (by rw [hs488]; exact glf_X8_hang2)
            exact ks488
          ·
            exact ks452
      ·
        refine p_bd (Q := GLf s) (fun v497 hv497 => ?_)
        refine p_if (Q := GLf s) (fun _ => ?_) (fun _ => ?_)
        ·
          refine p_bd (Q := GLf s) (fun v503 hv503 => ?_)
          refine p_if (Q := GLf s) (fun _ => ?_) (fun _ => ?_)
          ·
            refine p_bd (Q := GLf s) (fun v514 hv514 => ?_)
            refine p_if (Q := GLf s) (fun _ => ?_) (fun _ => ?_)
            ·
              exact ks
            ·
              exact ks
          ·
            refine p_bd (Q := GLf s) (fun v527 hv527 => ?_)
            refine p_bd (Q := GLf s) (fun v531 hv531 => ?_)
            refine p_bd (Q := GLf s) (fun s533 hs533 => ?_)
            have ks533 : GLf s s533 := GLf.tr ks (by rw [hs533]; exact glf_X8_hang2)
            refine p_bd (Q := GLf s) (fun v537 hv537 => ?_)
            refine p_bd (Q := GLf s) (fun v543 hv543 => ?_)
            refine p_if (Q := GLf s) (fun _ => ?_) (fun _ => ?_)
            ·
              refine p_bd (Q := GLf s) (fun v551 hv551 => ?_)
              refine p_bd (Q := GLf s) (fun v555 hv555 => ?_)
              refine p_bd (Q := GLf s) (fun s557 hs557 => ?_)
              have ks557 : GLf s s557 := GLf.tr ks533 (by rw [hs557]; exact glf_X8_hang2)
              exact ks557
            ·
              exact ks533
        ·
          refine p_bd (Q := GLf s) (fun v566 hv566 => ?_)
          refine p_if (Q := GLf s) (fun _ => ?_) (fun _ => ?_)
          ·
            refine p_bd (Q := GLf s) (fun v573 hv573 => ?_)
            refine p_bd (Q := GLf s) (fun v577 hv577 => ?_)
            refine p_bd (Q := GLf s) (fun s579 hs579 => ?_)
            have ks579 : GLf s s579 := GLf.tr ks (by rw [hs579]; exact glf_X8_hang2)
            refine p_bd (Q := GLf s) (fun v584 hv584 => ?_)
            refine p_bd (Q := GLf s) (fun v590 hv590 => ?_)
            refine p_if (Q := GLf s) (fun _ => ?_) (fun _ => ?_)
            ·
              refine p_bd (Q := GLf s) (fun v597 hv597 => ?_)
              refine p_bd (Q := GLf s) (fun v601 hv601 => ?_)
              refine p_bd (Q := GLf s) (fun s603 hs603 => ?_)
              have ks603 : GLf s s603 := GLf.tr ks579 (by rw [hs603]; exact glf_X8_hang2)
              exact ks603
            ·
              exact ks579
          ·
            refine p_bd (Q := GLf s) (fun v614 hv614 => ?_)
            refine p_bd (Q := GLf s) (fun v618 hv618 => ?_)
            refine p_bd (Q := GLf s) (fun s620 hs620 => ?_)
            have ks620 : GLf s s620 := GLf.tr ks (by rw [hs620]; exact glf_X8_hang2)
            refine p_bd (Q := GLf s) (fun v627 hv627 => ?_)
            refine p_bd (Q := GLf s) (fun v631 hv631 => ?_)
            refine p_bd (Q := GLf s) (fun s633 hs633 => ?_)
            have ks633 : GLf s s633 := GLf.tr ks620 (by rw [hs633]; exact glf_X8_hang2)
            refine p_bd (Q := GLf s) (fun v637 hv637 => ?_)
            refine p_bd (Q := GLf s) (fun v643 hv643 => ?_)
            refine p_if (Q := GLf s) (fun _ => ?_) (fun _ => ?_)
            ·
              refine p_bd (Q := GLf s) (fun v650 hv650 => ?_)
              refine p_bd (Q := GLf s) (fun v654 hv654 => ?_)
              refine p_bd (Q := GLf s) (fun s656 hs656 => ?_)
              have ks656 : GLf s s656 := GLf.tr ks633 (by rw [hs656]; exact glf_X8_hang2)
              refine p_bd (Q := GLf s) (fun v663 hv663 => ?_)
              refine p_bd (Q := GLf s) (fun v667 hv667 => ?_)
              refine p_bd (Q := GLf s) (fun s669 hs669 => ?_)
              have ks669 : GLf s s669 := GLf.tr ks656 (by rw [hs669]; exact glf_X8_hang2)
              exact ks669
            ·
              exact ks633
theorem glf_X8_laysValues2_ : ∀ (n : Nat) (lab : Nat) (l1 : Int) (l2 : Int) (l3 : Int) (sx : ST), GLf sx (f_X8_laysValues2_ n lab l1 l2 l3 sx) := by
  intro n
  induction n with
  | zero =>
    intro lab l1 l2 l3 sx
    rw [f_X8_laysValues2_]
    exact GLf.rfl
  | succ n ih =>
    intro lab l1 l2 l3 sx
    rw [f_X8_laysValues2_]
    have ksx : GLf sx sx := GLf.rfl
    refine p_if (Q := GLf sx) (fun _ => ?_) (fun _ => ?_)
    ·
      refine p_bd (Q := GLf sx) (fun v1 hv1 => ?_)
      refine p_bd (Q := GLf sx) (fun v3 hv3 => ?_)
      refine p_if (Q := GLf sx) (fun _ => ?_) (fun _ => ?_)
      ·
        exact GLf.tr ksx (ih 110 0 0 0 sx)
      ·
        refine p_bd (Q := GLf sx) (fun v12 hv12 => ?_)
        refine p_if (Q := GLf sx) (fun _ => ?_) (fun _ => ?_)
        ·
          exact GLf.tr ksx (ih 32 l1 0 0 sx)
        ·
          exact GLf.tr ksx (ih 32 l1 1 0 sx)
    ·
      refine p_if (Q := GLf sx) (fun _ => ?_) (fun _ => ?_)
      ·
        refine p_if (Q := GLf sx) (fun _ => ?_) (fun _ => ?_)
        ·
          exact GLf.tr ksx (ih 66 l1 l2 0 sx)
        ·
          refine p_if (Q := GLf sx) (fun _ => ?_) (fun _ => ?_)
          ·
            refine p_bd (Q := GLf sx) (fun v29 hv29 => ?_)
            refine p_bd (Q := GLf sx) (fun s32 hs32 => ?_)
            have ks32 : GLf sx s32 := GLf.tr ksx (by rw [hs32]; exact glf_X8_usesOperand2)
            exact GLf.tr ks32 (ih 32 l1 l2 ((l3 + 1)) s32)
          ·
            refine p_bd (Q := GLf sx) (fun v44 hv44 => ?_)
            refine p_bd (Q := GLf sx) (fun s47 hs47 => ?_)
            have ks47 : GLf sx s47 := GLf.tr ksx (by rw [hs47]; exact glf_X8_usesOperand2)
            exact GLf.tr ks47 (ih 32 l1 l2 ((l3 + 1)) s47)
      ·
        refine p_if (Q := GLf sx) (fun _ => ?_) (fun _ => ?_)
        ·
          refine p_if (Q := GLf sx) (fun _ => ?_) (fun _ => ?_)
          ·
            exact GLf.tr ksx (ih 2 ((l1 + 1)) 0 0 sx)
          ·
            refine p_if (Q := GLf sx) (fun _ => ?_) (fun _ => ?_)
            ·
              exact GLf.tr ksx (ih 2 ((l1 + 1)) 0 0 sx)
            ·
              refine p_bd (Q := GLf sx) (fun v70 hv70 => ?_)
              refine p_bd (Q := GLf sx) (fun v74 hv74 => ?_)
              refine p_bd (Q := GLf sx) (fun s78 hs78 => ?_)
              have ks78 : GLf sx s78 := GLf.tr ksx (by rw [hs78]; exact glf_X8_uses2)
              exact GLf.tr ks78 (ih 66 l1 l2 ((l3 + 1)) s78)
        ·
          refine p_if (Q := GLf sx) (fun _ => ?_) (fun _ => ?_)
          ·
            refine p_bd (Q := GLf sx) (fun v85 hv85 => ?_)
            refine p_bd (Q := GLf sx) (fun v87 hv87 => ?_)
            refine p_if (Q := GLf sx) (fun _ => ?_) (fun _ => ?_)
            ·
              exact GLf.tr ksx (ih 162 0 0 0 sx)
            ·
              exact GLf.tr ksx (ih 125 l1 0 0 sx)
          ·
            refine p_if (Q := GLf sx) (fun _ => ?_) (fun _ => ?_)
            ·
              refine p_if (Q := GLf sx) (fun _ => ?_) (fun _ => ?_)
              ·
                exact GLf.tr ksx (ih 110 ((l1 + 1)) 0 0 sx)
              ·
                refine p_bd (Q := GLf sx) (fun v104 hv104 => ?_)
                refine p_bd (Q := GLf sx) (fun s108 hs108 => ?_)
                have ks108 : GLf sx s108 := GLf.tr ksx (by rw [hs108]; exact glf_X8_uses2)
                exact GLf.tr ks108 (ih 125 l1 ((l2 + 1)) 0 s108)
            ·
              refine p_if (Q := GLf sx) (fun _ => ?_) (fun _ => ?_)
              ·
                refine p_bd (Q := GLf sx) (fun v115 hv115 => ?_)
                refine p_bd (Q := GLf sx) (fun v117 hv117 => ?_)
                refine p_if (Q := GLf sx) (fun _ => ?_) (fun _ => ?_)
                ·
                  exact GLf.tr ksx (ih 236 0 0 0 sx)
                ·
                  refine p_bd (Q := GLf sx) (fun s123 hs123 => ?_)
                  have ks123 : GLf sx s123 := by rw [hs123]; exact (GLf.L ksx (by omega))
                  exact GLf.tr ks123 (ih 184 l1 0 0 s123)
              ·
                refine p_if (Q := GLf sx) (fun _ => ?_) (fun _ => ?_)
                ·
                  refine p_bd (Q := GLf sx) (fun v126 hv126 => ?_)
                  refine p_bd (Q := GLf sx) (fun v128 hv128 => ?_)
                  refine p_if (Q := GLf sx) (fun _ => ?_) (fun _ => ?_)
                  ·
                    exact GLf.tr ksx (ih 162 ((l1 + 1)) 0 0 sx)
                  ·
                    refine p_bd (Q := GLf sx) (fun v136 hv136 => ?_)
                    refine p_bd (Q := GLf sx) (fun v140 hv140 => ?_)
                    refine p_if (Q := GLf sx) (fun _ => ?_) (fun _ => ?_)
                    ·
                      refine p_bd (Q := GLf sx) (fun v144 hv144 => ?_)
                      refine p_bd (Q := GLf sx) (fun s146 hs146 => ?_)
                      have ks146 : GLf sx s146 := by rw [hs146]; exact (GLf.L ksx (by omega))
                      exact GLf.tr ks146 (ih 184 l1 ((l2 + 1)) 0 s146)
                    ·
                      refine p_bd (Q := GLf sx) (fun v152 hv152 => ?_)
                      refine p_bd (Q := GLf sx) (fun v154 hv154 => ?_)
                      refine p_bd (Q := GLf sx) (fun s156 hs156 => ?_)
                      have ks156 : GLf sx s156 := by rw [hs156]; exact (GLf.L ksx (by omega))
                      exact GLf.tr ks156 (ih 184 l1 ((l2 + 1)) 0 s156)
                ·
                  refine p_bd (Q := GLf sx) (fun v161 hv161 => ?_)
                  refine p_bd (Q := GLf sx) (fun v163 hv163 => ?_)
                  refine p_if (Q := GLf sx) (fun _ => ?_) (fun _ => ?_)
                  ·
                    exact ksx
                  ·
                    refine p_bd (Q := GLf sx) (fun s168 hs168 => ?_)
                    have ks168 : GLf sx s168 := GLf.tr ksx (by rw [hs168]; exact glf_X8_ends_x2)
                    exact GLf.tr ks168 (ih 236 ((l1 + 1)) 0 0 s168)
theorem glf_X8_laysValues2 {s : ST} : GLf s (f_X8_laysValues2 s) := by
  unfold f_X8_laysValues2
  have ks : GLf s s := GLf.rfl
  exact GLf.tr ks (glf_X8_laysValues2_ (BG 7090) 2 0 0 0 s)
theorem glf_X8_laysWay2_ : ∀ (n : Nat) (lab : Nat) (l1 : Int) (l2 : Int) (l3L : Int64) (l5 : Int) (l3 : Int) (sx : ST), GLf sx (f_X8_laysWay2_ n lab l1 l2 l3L l5 l3 sx) := by
  intro n
  induction n with
  | zero =>
    intro lab l1 l2 l3L l5 l3 sx
    rw [f_X8_laysWay2_]
    exact GLf.rfl
  | succ n ih =>
    intro lab l1 l2 l3L l5 l3 sx
    rw [f_X8_laysWay2_]
    have ksx : GLf sx sx := GLf.rfl
    refine p_if (Q := GLf sx) (fun _ => ?_) (fun _ => ?_)
    ·
      refine p_if (Q := GLf sx) (fun _ => ?_) (fun _ => ?_)
      ·
        exact GLf.tr ksx (ih 25 1 0 0 0 0 sx)
      ·
        refine p_bd (Q := GLf sx) (fun s5 hs5 => ?_)
        have ks5 : GLf sx s5 := by rw [hs5]; exact (GLf.L ksx (by omega))
        exact GLf.tr ks5 (ih 2 ((l1 + 1)) 0 0 0 0 s5)
    ·
      refine p_if (Q := GLf sx) (fun _ => ?_) (fun _ => ?_)
      ·
        refine p_if (Q := GLf sx) (fun _ => ?_) (fun _ => ?_)
        ·
          exact GLf.tr ksx (ih 126 0 0 0 0 0 sx)
        ·
          exact GLf.tr ksx (ih 33 0 0 0 0 0 sx)
      ·
        refine p_if (Q := GLf sx) (fun _ => ?_) (fun _ => ?_)
        ·
          refine p_bd (Q := GLf sx) (fun v16 hv16 => ?_)
          refine p_bd (Q := GLf sx) (fun v18 hv18 => ?_)
          refine p_if (Q := GLf sx) (fun _ => ?_) (fun _ => ?_)
          ·
            exact GLf.tr ksx (ih 25 l1 0 0 0 0 sx)
          ·
            refine p_bd (Q := GLf sx) (fun v27 hv27 => ?_)
            refine p_bd (Q := GLf sx) (fun v32 hv32 => ?_)
            refine p_bd (Q := GLf sx) (fun v38 hv38 => ?_)
            refine p_if (Q := GLf sx) (fun _ => ?_) (fun _ => ?_)
            ·
              refine p_bd (Q := GLf sx) (fun v42 hv42 => ?_)
              refine p_bd (Q := GLf sx) (fun v44 hv44 => ?_)
              refine p_if (Q := GLf sx) (fun _ => ?_) (fun _ => ?_)
              ·
                refine p_bd (Q := GLf sx) (fun s48 hs48 => ?_)
                have ks48 : GLf sx s48 := by rw [hs48]; exact (GLf.L ksx (by omega))
                exact GLf.tr ks48 (ih 33 1 ((l2 + 1)) 0 0 0 s48)
              ·
                refine p_bd (Q := GLf sx) (fun v55 hv55 => ?_)
                refine p_bd (Q := GLf sx) (fun v57 hv57 => ?_)
                refine p_if (Q := GLf sx) (fun _ => ?_) (fun _ => ?_)
                ·
                  refine p_bd (Q := GLf sx) (fun s61 hs61 => ?_)
                  have ks61 : GLf sx s61 := by rw [hs61]; exact (GLf.L ksx (by omega))
                  exact GLf.tr ks61 (ih 33 0 ((l2 + 1)) 0 0 0 s61)
                ·
                  refine p_bd (Q := GLf sx) (fun s68 hs68 => ?_)
                  have ks68 : GLf sx s68 := by rw [hs68]; exact (GLf.L ksx (by omega))
                  exact GLf.tr ks68 (ih 33 1 ((l2 + 1)) 0 0 0 s68)
            ·
              refine p_bd (Q := GLf sx) (fun v79 hv79 => ?_)
              refine p_bd (Q := GLf sx) (fun v84 hv84 => ?_)
              refine p_bd (Q := GLf sx) (fun v86 hv86 => ?_)
              refine p_bd (Q := GLf sx) (fun v88 hv88 => ?_)
              refine p_bd (Q := GLf sx) (fun v90 hv90 => ?_)
              refine p_if (Q := GLf sx) (fun _ => ?_) (fun _ => ?_)
              ·
                refine p_bd (Q := GLf sx) (fun s94 hs94 => ?_)
                have ks94 : GLf sx s94 := by rw [hs94]; exact (GLf.L ksx (by omega))
                exact GLf.tr ks94 (ih 33 1 ((l2 + 1)) 0 0 0 s94)
              ·
                refine p_bd (Q := GLf sx) (fun v101 hv101 => ?_)
                refine p_bd (Q := GLf sx) (fun v103 hv103 => ?_)
                refine p_if (Q := GLf sx) (fun _ => ?_) (fun _ => ?_)
                ·
                  refine p_bd (Q := GLf sx) (fun s107 hs107 => ?_)
                  have ks107 : GLf sx s107 := by rw [hs107]; exact (GLf.L ksx (by omega))
                  exact GLf.tr ks107 (ih 33 0 ((l2 + 1)) 0 0 0 s107)
                ·
                  refine p_bd (Q := GLf sx) (fun s114 hs114 => ?_)
                  have ks114 : GLf sx s114 := by rw [hs114]; exact (GLf.L ksx (by omega))
                  exact GLf.tr ks114 (ih 33 1 ((l2 + 1)) 0 0 0 s114)
        ·
          refine p_if (Q := GLf sx) (fun _ => ?_) (fun _ => ?_)
          ·
            refine p_bd (Q := GLf sx) (fun v120 hv120 => ?_)
            refine p_bd (Q := GLf sx) (fun v122 hv122 => ?_)
            refine p_if (Q := GLf sx) (fun _ => ?_) (fun _ => ?_)
            ·
              exact GLf.tr ksx (ih 154 0 0 0 0 0 sx)
            ·
              refine p_bd (Q := GLf sx) (fun s128 hs128 => ?_)
              have ks128 : GLf sx s128 := by rw [hs128]; exact (GLf.L ksx (by omega))
              exact GLf.tr ks128 (ih 126 0 ((l2 + 1)) 0 0 0 s128)
          ·
            refine p_if (Q := GLf sx) (fun _ => ?_) (fun _ => ?_)
            ·
              refine p_bd (Q := GLf sx) (fun v133 hv133 => ?_)
              refine p_bd (Q := GLf sx) (fun v135 hv135 => ?_)
              refine p_if (Q := GLf sx) (fun _ => ?_) (fun _ => ?_)
              ·
                exact GLf.tr ksx (ih 285 0 0 0 0 0 sx)
              ·
                refine p_bd (Q := GLf sx) (fun v145 hv145 => ?_)
                refine p_if (Q := GLf sx) (fun _ => ?_) (fun _ => ?_)
                ·
                  refine p_bd (Q := GLf sx) (fun v153 hv153 => ?_)
                  refine p_bd (Q := GLf sx) (fun v158 hv158 => ?_)
                  refine p_bd (Q := GLf sx) (fun v164 hv164 => ?_)
                  refine p_bd (Q := GLf sx) (fun v169 hv169 => ?_)
                  refine p_bd (Q := GLf sx) (fun v171 hv171 => ?_)
                  exact GLf.tr ksx (ih 203 0 l2 v171 0 0 sx)
                ·
                  exact GLf.tr ksx (ih 154 0 ((l2 + 1)) 0 0 0 sx)
            ·
              refine p_if (Q := GLf sx) (fun _ => ?_) (fun _ => ?_)
              ·
                refine p_bd (Q := GLf sx) (fun v178 hv178 => ?_)
                refine p_bd (Q := GLf sx) (fun v180 hv180 => ?_)
                refine p_if (Q := GLf sx) (fun _ => ?_) (fun _ => ?_)
                ·
                  exact GLf.tr ksx (ih 154 0 ((l2 + 1)) 0 0 0 sx)
                ·
                  refine p_bd (Q := GLf sx) (fun v190 hv190 => ?_)
                  refine p_if (Q := GLf sx) (fun _ => ?_) (fun _ => ?_)
                  ·
                    refine p_bd (Q := GLf sx) (fun v194 hv194 => ?_)
                    refine p_bd (Q := GLf sx) (fun v196 hv196 => ?_)
                    refine p_bd (Q := GLf sx) (fun v198 hv198 => ?_)
                    refine p_bd (Q := GLf sx) (fun s200 hs200 => ?_)
                    have ks200 : GLf sx s200 := by rw [hs200]; exact (GLf.L ksx (by omega))
                    refine p_bd (Q := GLf sx) (fun v204 hv204 => ?_)
                    refine p_bd (Q := GLf sx) (fun v209 hv209 => ?_)
                    refine p_if (Q := GLf sx) (fun _ => ?_) (fun _ => ?_)
                    ·
                      refine p_bd (Q := GLf sx) (fun v215 hv215 => ?_)
                      refine p_bd (Q := GLf sx) (fun s217 hs217 => ?_)
                      have ks217 : GLf sx s217 := GLf.tr ks200 (by rw [hs217]; exact glf_X8_hang2)
                      exact GLf.tr ks217 (ih 203 0 l2 l3L ((l5 + 1)) 0 s217)
                    ·
                      refine p_bd (Q := GLf sx) (fun v227 hv227 => ?_)
                      refine p_bd (Q := GLf sx) (fun s229 hs229 => ?_)
                      have ks229 : GLf sx s229 := GLf.tr ks200 (by rw [hs229]; exact glf_X8_hang2)
                      exact GLf.tr ks229 (ih 203 0 l2 l3L ((l5 + 1)) 0 s229)
                  ·
                    exact GLf.tr ksx (ih 203 0 l2 l3L ((l5 + 1)) 0 sx)
              ·
                refine p_if (Q := GLf sx) (fun _ => ?_) (fun _ => ?_)
                ·
                  refine p_bd (Q := GLf sx) (fun v240 hv240 => ?_)
                  refine p_bd (Q := GLf sx) (fun v242 hv242 => ?_)
                  refine p_if (Q := GLf sx) (fun _ => ?_) (fun _ => ?_)
                  ·
                    exact GLf.tr ksx (ih 377 0 0 0 0 0 sx)
                  ·
                    refine p_bd (Q := GLf sx) (fun v253 hv253 => ?_)
                    refine p_bd (Q := GLf sx) (fun v258 hv258 => ?_)
                    refine p_bd (Q := GLf sx) (fun s260 hs260 => ?_)
                    have ks260 : GLf sx s260 := by rw [hs260]; exact (GLf.L ksx (by omega))
                    exact GLf.tr ks260 (ih 323 0 l2 0 0 0 s260)
                ·
                  refine p_if (Q := GLf sx) (fun _ => ?_) (fun _ => ?_)
                  ·
                    refine p_bd (Q := GLf sx) (fun v263 hv263 => ?_)
                    refine p_bd (Q := GLf sx) (fun v265 hv265 => ?_)
                    refine p_if (Q := GLf sx) (fun _ => ?_) (fun _ => ?_)
                    ·
                      exact GLf.tr ksx (ih 285 0 ((l2 + 1)) 0 0 0 sx)
                    ·
                      refine p_bd (Q := GLf sx) (fun v273 hv273 => ?_)
                      refine p_bd (Q := GLf sx) (fun v277 hv277 => ?_)
                      refine p_if (Q := GLf sx) (fun _ => ?_) (fun _ => ?_)
                      ·
                        exact GLf.tr ksx (ih 323 0 l2 0 0 ((l3 + 1)) sx)
                      ·
                        refine p_bd (Q := GLf sx) (fun v287 hv287 => ?_)
                        refine p_bd (Q := GLf sx) (fun v291 hv291 => ?_)
                        refine p_bd (Q := GLf sx) (fun s293 hs293 => ?_)
                        have ks293 : GLf sx s293 := GLf.tr ksx (by rw [hs293]; exact glf_X8_hang2)
                        exact GLf.tr ks293 (ih 323 0 l2 0 0 ((l3 + 1)) s293)
                  ·
                    refine p_if (Q := GLf sx) (fun _ => ?_) (fun _ => ?_)
                    ·
                      refine p_bd (Q := GLf sx) (fun v300 hv300 => ?_)
                      refine p_bd (Q := GLf sx) (fun v302 hv302 => ?_)
                      refine p_if (Q := GLf sx) (fun _ => ?_) (fun _ => ?_)
                      ·
                        exact ksx
                      ·
                        exact GLf.tr ksx (ih 392 0 l2 0 0 1 sx)
                    ·
                      refine p_if (Q := GLf sx) (fun _ => ?_) (fun _ => ?_)
                      ·
                        exact GLf.tr ksx (ih 377 0 ((l2 + 1)) 0 0 0 sx)
                      ·
                        refine p_bd (Q := GLf sx) (fun v317 hv317 => ?_)
                        refine p_if (Q := GLf sx) (fun _ => ?_) (fun _ => ?_)
                        ·
                          exact GLf.tr ksx (ih 377 0 ((l2 + 1)) 0 0 0 sx)
                        ·
                          refine p_bd (Q := GLf sx) (fun v327 hv327 => ?_)
                          refine p_bd (Q := GLf sx) (fun v331 hv331 => ?_)
                          refine p_bd (Q := GLf sx) (fun s333 hs333 => ?_)
                          have ks333 : GLf sx s333 := GLf.tr ksx (by rw [hs333]; exact glf_X8_hang2)
                          exact GLf.tr ks333 (ih 392 0 l2 0 0 ((l3 + 1)) s333)
theorem glf_X8_laysWay2 {s : ST} : GLf s (f_X8_laysWay2 s) := by
  unfold f_X8_laysWay2
  have ks : GLf s s := GLf.rfl
  exact GLf.tr ks (glf_X8_laysWay2_ (BG 2000000000000000000000001) 2 0 0 0 0 0 s)
theorem glf_X8_reach2 {s : ST} {a2 : Int} : GLf s (f_X8_reach2 s a2) := by
  unfold f_X8_reach2
  have ks : GLf s s := GLf.rfl
  refine p_bd (Q := GLf s) (fun u70_47 hu70_47 => ?_)
  refine p_bd (Q := GLf s) (fun v5 hv5 => ?_)
  refine p_if (Q := GLf s) (fun _ => ?_) (fun _ => ?_)
  ·
    refine p_bd (Q := GLf s) (fun v11 hv11 => ?_)
    refine p_bd (Q := GLf s) (fun v15 hv15 => ?_)
    refine p_bd (Q := GLf s) (fun v17 hv17 => ?_)
    refine p_bd (Q := GLf s) (fun s19 hs19 => ?_)
    have ks19 : GLf s s19 := by rw [hs19]; exact (GLf.I ks (by omega))
    refine p_bd (Q := GLf s) (fun s22 hs22 => ?_)
    have ks22 : GLf s s22 := by rw [hs22]; exact (GLf.I ks19 (by omega))
    refine p_bd (Q := GLf s) (fun s27 hs27 => ?_)
    have ks27 : GLf s s27 := by rw [hs27]; exact (GLf.I ks22 (by omega))
    exact ks27
  ·
    exact ks
theorem glf_X8_goesUp2_ : ∀ (n : Nat) (lab_ : Nat) (l1 : Int) (l2 : Int) (l3 : Int) (sx : ST), GLf sx (f_X8_goesUp2_ n lab_ l1 l2 l3 sx) := by
  intro n
  induction n with
  | zero =>
    intro lab_ l1 l2 l3 sx
    rw [f_X8_goesUp2_]
    exact GLf.rfl
  | succ n ih =>
    intro lab_ l1 l2 l3 sx
    rw [f_X8_goesUp2_]
    have ksx : GLf sx sx := GLf.rfl
    refine p_bd (Q := GLf sx) (fun v1 hv1 => ?_)
    refine p_bd (Q := GLf sx) (fun v3 hv3 => ?_)
    refine p_if (Q := GLf sx) (fun _ => ?_) (fun _ => ?_)
    ·
      exact ksx
    ·
      refine p_bd (Q := GLf sx) (fun v11 hv11 => ?_)
      refine p_if (Q := GLf sx) (fun _ => ?_) (fun _ => ?_)
      ·
        exact GLf.tr ksx (ih 2 l1 l2 ((l3 + 1)) sx)
      ·
        refine p_bd (Q := GLf sx) (fun v22 hv22 => ?_)
        refine p_bd (Q := GLf sx) (fun v24 hv24 => ?_)
        refine p_if (Q := GLf sx) (fun _ => ?_) (fun _ => ?_)
        ·
          exact GLf.tr ksx (ih 2 l1 l2 ((l3 + 1)) sx)
        ·
          refine p_bd (Q := GLf sx) (fun v34 hv34 => ?_)
          refine p_bd (Q := GLf sx) (fun s36 hs36 => ?_)
          have ks36 : GLf sx s36 := GLf.tr ksx (by rw [hs36]; exact glf_X8_reach2)
          exact GLf.tr ks36 (ih 2 l1 l2 ((l3 + 1)) s36)
theorem glf_X8_goesUp2 {s : ST} {a2 : Int} {a3 : Int} : GLf s (f_X8_goesUp2 s a2 a3) := by
  unfold f_X8_goesUp2
  have ks : GLf s s := GLf.rfl
  exact GLf.tr ks (glf_X8_goesUp2_ 139 2 a2 a3 0 s)
theorem glf_X8_goes2_ : ∀ (n : Nat) (lab : Nat) (l1 : Int) (l2 : Int) (l3 : Int) (l4 : Int) (l5 : Int) (l6 : Int) (s0 : Int) (sx : ST), GLf sx (f_X8_goes2_ n lab l1 l2 l3 l4 l5 l6 s0 sx) := by
  intro n
  induction n with
  | zero =>
    intro lab l1 l2 l3 l4 l5 l6 s0 sx
    rw [f_X8_goes2_]
    exact GLf.rfl
  | succ n ih =>
    intro lab l1 l2 l3 l4 l5 l6 s0 sx
    rw [f_X8_goes2_]
    have ksx : GLf sx sx := GLf.rfl
    refine p_if (Q := GLf sx) (fun _ => ?_) (fun _ => ?_)
    ·
      refine p_bd (Q := GLf sx) (fun u70_47 hu70_47 => ?_)
      refine p_if (Q := GLf sx) (fun _ => ?_) (fun _ => ?_)
      ·
        exact ksx
      ·
        refine p_bd (Q := GLf sx) (fun s9 hs9 => ?_)
        have ks9 : GLf sx s9 := by rw [hs9]; exact (GLf.I ksx (by omega))
        refine p_bd (Q := GLf sx) (fun v12 hv12 => ?_)
        exact GLf.tr ks9 (ih 30 l1 l2 v12 0 0 0 0 s9)
    ·
      refine p_if (Q := GLf sx) (fun _ => ?_) (fun _ => ?_)
      ·
        refine p_bd (Q := GLf sx) (fun u70_47 hu70_47 => ?_)
        refine p_if (Q := GLf sx) (fun _ => ?_) (fun _ => ?_)
        ·
          refine p_if (Q := GLf sx) (fun _ => ?_) (fun _ => ?_)
          ·
            refine p_bd (Q := GLf sx) (fun v29 hv29 => ?_)
            refine p_if (Q := GLf sx) (fun _ => ?_) (fun _ => ?_)
            ·
              exact GLf.tr ksx (ih 184 l1 l2 l3 (((l3 - 520) % 13)) 0 0 l1 sx)
            ·
              refine p_if (Q := GLf sx) (fun _ => ?_) (fun _ => ?_)
              ·
                exact GLf.tr ksx (ih 184 l1 l2 l3 (((l3 - 520) % 13)) 0 0 l1 sx)
              ·
                refine p_bd (Q := GLf sx) (fun v44 hv44 => ?_)
                refine p_bd (Q := GLf sx) (fun v46 hv46 => ?_)
                exact GLf.tr ksx (ih 117 l1 l2 l3 (((l3 - 520) % 13)) v46 0 0 sx)
          ·
            refine p_bd (Q := GLf sx) (fun v58 hv58 => ?_)
            refine p_if (Q := GLf sx) (fun _ => ?_) (fun _ => ?_)
            ·
              exact GLf.tr ksx (ih 184 l1 l2 l3 ((l3 % 13)) 0 0 l1 sx)
            ·
              refine p_if (Q := GLf sx) (fun _ => ?_) (fun _ => ?_)
              ·
                exact GLf.tr ksx (ih 184 l1 l2 l3 ((l3 % 13)) 0 0 l1 sx)
              ·
                refine p_bd (Q := GLf sx) (fun v73 hv73 => ?_)
                refine p_bd (Q := GLf sx) (fun v75 hv75 => ?_)
                exact GLf.tr ksx (ih 117 l1 l2 l3 ((l3 % 13)) v75 0 0 sx)
        ·
          refine p_bd (Q := GLf sx) (fun v82 hv82 => ?_)
          refine p_if (Q := GLf sx) (fun _ => ?_) (fun _ => ?_)
          ·
            exact GLf.tr ksx (ih 30 l1 l2 l3 ((l4 + 1)) 0 0 0 sx)
          ·
            refine p_bd (Q := GLf sx) (fun s90 hs90 => ?_)
            have ks90 : GLf sx s90 := GLf.tr ksx (by rw [hs90]; exact glf_X8_reach2)
            exact GLf.tr ks90 (ih 30 l1 l2 l3 ((l4 + 1)) 0 0 0 s90)
      ·
        refine p_if (Q := GLf sx) (fun _ => ?_) (fun _ => ?_)
        ·
          refine p_bd (Q := GLf sx) (fun u70_47 hu70_47 => ?_)
          refine p_if (Q := GLf sx) (fun _ => ?_) (fun _ => ?_)
          ·
            refine p_if (Q := GLf sx) (fun _ => ?_) (fun _ => ?_)
            ·
              exact GLf.tr ksx (ih 184 l1 l2 l3 l4 0 0 l1 sx)
            ·
              refine p_bd (Q := GLf sx) (fun v107 hv107 => ?_)
              refine p_bd (Q := GLf sx) (fun s109 hs109 => ?_)
              have ks109 : GLf sx s109 := GLf.tr ksx (by rw [hs109]; exact glf_X8_reach2)
              exact GLf.tr ks109 (ih 184 l1 l2 l3 l4 0 0 l1 s109)
          ·
            refine p_bd (Q := GLf sx) (fun v122 hv122 => ?_)
            refine p_bd (Q := GLf sx) (fun v124 hv124 => ?_)
            refine p_bd (Q := GLf sx) (fun v126 hv126 => ?_)
            refine p_if (Q := GLf sx) (fun _ => ?_) (fun _ => ?_)
            ·
              exact GLf.tr ksx (ih 117 l1 l2 l3 l4 l5 ((l6 + 1)) 0 sx)
            ·
              refine p_bd (Q := GLf sx) (fun s141 hs141 => ?_)
              have ks141 : GLf sx s141 := GLf.tr ksx (by rw [hs141]; exact glf_X8_reach2)
              exact GLf.tr ks141 (ih 117 l1 l2 l3 l4 l5 ((l6 + 1)) 0 s141)
        ·
          refine p_bd (Q := GLf sx) (fun u70_47 hu70_47 => ?_)
          refine p_if (Q := GLf sx) (fun _ => ?_) (fun _ => ?_)
          ·
            exact GLf.tr ksx (ih 0 l1 l2 0 0 0 0 0 sx)
          ·
            refine p_if (Q := GLf sx) (fun _ => ?_) (fun _ => ?_)
            ·
              exact GLf.tr ksx (ih 0 l1 l2 0 0 0 0 0 sx)
            ·
              refine p_if (Q := GLf sx) (fun _ => ?_) (fun _ => ?_)
              ·
                exact GLf.tr ksx (ih 0 l1 l2 0 0 0 0 0 sx)
              ·
                refine p_bd (Q := GLf sx) (fun s164 hs164 => ?_)
                have ks164 : GLf sx s164 := GLf.tr ksx (by rw [hs164]; exact glf_X8_goesUp2)
                exact GLf.tr ks164 (ih 0 l1 l2 0 0 0 0 0 s164)
theorem glf_X8_goes2 {s : ST} {a2 : Int} {a3 : Int} : GLf s (f_X8_goes2 s a2 a3) := by
  unfold f_X8_goes2
  have ks : GLf s s := GLf.rfl
  exact GLf.tr ks (glf_X8_goes2_ (BG 2200001) 0 a2 a3 0 0 0 0 0 s)
theorem glf_X8_goes_ff2_ : ∀ (n : Nat) (lab : Nat) (l1 : Int) (l2 : Int) (l3 : Int) (l4 : Int) (l5 : Int) (l6 : Int) (s0 : Int) (sx : ST), GLf sx (f_X8_goes_ff2_ n lab l1 l2 l3 l4 l5 l6 s0 sx) := by
  intro n
  induction n with
  | zero =>
    intro lab l1 l2 l3 l4 l5 l6 s0 sx
    rw [f_X8_goes_ff2_]
    exact GLf.rfl
  | succ n ih =>
    intro lab l1 l2 l3 l4 l5 l6 s0 sx
    rw [f_X8_goes_ff2_]
    have ksx : GLf sx sx := GLf.rfl
    refine p_if (Q := GLf sx) (fun _ => ?_) (fun _ => ?_)
    ·
      refine p_bd (Q := GLf sx) (fun u70_47 hu70_47 => ?_)
      refine p_if (Q := GLf sx) (fun _ => ?_) (fun _ => ?_)
      ·
        exact ksx
      ·
        refine p_bd (Q := GLf sx) (fun s9 hs9 => ?_)
        have ks9 : GLf sx s9 := by rw [hs9]; exact (GLf.I ksx (by omega))
        refine p_bd (Q := GLf sx) (fun v12 hv12 => ?_)
        exact GLf.tr ks9 (ih 30 l1 l2 v12 0 0 0 0 s9)
    ·
      refine p_if (Q := GLf sx) (fun _ => ?_) (fun _ => ?_)
      ·
        refine p_bd (Q := GLf sx) (fun u70_47 hu70_47 => ?_)
        refine p_if (Q := GLf sx) (fun _ => ?_) (fun _ => ?_)
        ·
          refine p_if (Q := GLf sx) (fun _ => ?_) (fun _ => ?_)
          ·
            refine p_bd (Q := GLf sx) (fun v29 hv29 => ?_)
            refine p_if (Q := GLf sx) (fun _ => ?_) (fun _ => ?_)
            ·
              exact GLf.tr ksx (ih 184 l1 l2 l3 (((l3 - 520) % 13)) 0 0 l1 sx)
            ·
              refine p_if (Q := GLf sx) (fun _ => ?_) (fun _ => ?_)
              ·
                exact GLf.tr ksx (ih 184 l1 l2 l3 (((l3 - 520) % 13)) 0 0 l1 sx)
              ·
                refine p_bd (Q := GLf sx) (fun v44 hv44 => ?_)
                refine p_bd (Q := GLf sx) (fun v46 hv46 => ?_)
                exact GLf.tr ksx (ih 117 l1 l2 l3 (((l3 - 520) % 13)) v46 0 0 sx)
          ·
            refine p_bd (Q := GLf sx) (fun v58 hv58 => ?_)
            refine p_if (Q := GLf sx) (fun _ => ?_) (fun _ => ?_)
            ·
              exact GLf.tr ksx (ih 184 l1 l2 l3 ((l3 % 13)) 0 0 l1 sx)
            ·
              refine p_if (Q := GLf sx) (fun _ => ?_) (fun _ => ?_)
              ·
                exact GLf.tr ksx (ih 184 l1 l2 l3 ((l3 % 13)) 0 0 l1 sx)
              ·
                refine p_bd (Q := GLf sx) (fun v73 hv73 => ?_)
                refine p_bd (Q := GLf sx) (fun v75 hv75 => ?_)
                exact GLf.tr ksx (ih 117 l1 l2 l3 ((l3 % 13)) v75 0 0 sx)
        ·
          refine p_bd (Q := GLf sx) (fun v83 hv83 => ?_)
          refine p_if (Q := GLf sx) (fun _ => ?_) (fun _ => ?_)
          ·
            exact GLf.tr ksx (ih 30 l1 l2 l3 ((l4 + 1)) 0 0 0 sx)
          ·
            refine p_bd (Q := GLf sx) (fun s91 hs91 => ?_)
            have ks91 : GLf sx s91 := GLf.tr ksx (by rw [hs91]; exact glf_X8_reach2)
            exact GLf.tr ks91 (ih 30 l1 l2 l3 ((l4 + 1)) 0 0 0 s91)
      ·
        refine p_if (Q := GLf sx) (fun _ => ?_) (fun _ => ?_)
        ·
          refine p_bd (Q := GLf sx) (fun u70_47 hu70_47 => ?_)
          refine p_if (Q := GLf sx) (fun _ => ?_) (fun _ => ?_)
          ·
            exact GLf.tr ksx (ih 184 l1 l2 l3 l4 0 0 l1 sx)
          ·
            refine p_bd (Q := GLf sx) (fun v110 hv110 => ?_)
            refine p_bd (Q := GLf sx) (fun v112 hv112 => ?_)
            refine p_bd (Q := GLf sx) (fun v114 hv114 => ?_)
            refine p_if (Q := GLf sx) (fun _ => ?_) (fun _ => ?_)
            ·
              exact GLf.tr ksx (ih 117 l1 l2 l3 l4 l5 ((l6 + 1)) 0 sx)
            ·
              refine p_bd (Q := GLf sx) (fun s129 hs129 => ?_)
              have ks129 : GLf sx s129 := GLf.tr ksx (by rw [hs129]; exact glf_X8_reach2)
              exact GLf.tr ks129 (ih 117 l1 l2 l3 l4 l5 ((l6 + 1)) 0 s129)
        ·
          refine p_bd (Q := GLf sx) (fun u70_47 hu70_47 => ?_)
          exact GLf.tr ksx (ih 0 l1 l2 0 0 0 0 0 sx)
theorem glf_X8_goes_ff2 {s : ST} {a2 : Int} {a3 : Int} : GLf s (f_X8_goes_ff2 s a2 a3) := by
  unfold f_X8_goes_ff2
  have ks : GLf s s := GLf.rfl
  exact GLf.tr ks (glf_X8_goes_ff2_ (BG 2200001) 0 a2 a3 0 0 0 0 0 s)
theorem glf_X8_empties_x2_ : ∀ (n : Nat) (lab_ : Nat) (l1 : Int) (sx : ST), GLf sx (f_X8_empties_x2_ n lab_ l1 sx) := by
  intro n
  induction n with
  | zero =>
    intro lab_ l1 sx
    rw [f_X8_empties_x2_]
    exact GLf.rfl
  | succ n ih =>
    intro lab_ l1 sx
    rw [f_X8_empties_x2_]
    have ksx : GLf sx sx := GLf.rfl
    refine p_if (Q := GLf sx) (fun _ => ?_) (fun _ => ?_)
    ·
      refine p_bd (Q := GLf sx) (fun s3 hs3 => ?_)
      have ks3 : GLf sx s3 := by rw [hs3]; exact (GLf.I ksx (by omega))
      exact ks3
    ·
      refine p_bd (Q := GLf sx) (fun s6 hs6 => ?_)
      have ks6 : GLf sx s6 := by rw [hs6]; exact (GLf.I ksx (by omega))
      exact GLf.tr ks6 (ih 2 ((l1 + 1)) s6)
theorem glf_X8_empties_x2 {s : ST} : GLf s (f_X8_empties_x2 s) := by
  unfold f_X8_empties_x2
  have ks : GLf s s := GLf.rfl
  exact GLf.tr ks (glf_X8_empties_x2_ 76 2 0 s)
theorem glf_X8_laysThrough2_ : ∀ (n : Nat) (lab : Nat) (l1 : Int) (l2 : Int) (l3 : Int) (l4 : Int) (sx : ST), GLf sx (f_X8_laysThrough2_ n lab l1 l2 l3 l4 sx) := by
  intro n
  induction n with
  | zero =>
    intro lab l1 l2 l3 l4 sx
    rw [f_X8_laysThrough2_]
    exact GLf.rfl
  | succ n ih =>
    intro lab l1 l2 l3 l4 sx
    rw [f_X8_laysThrough2_]
    have ksx : GLf sx sx := GLf.rfl
    refine p_if (Q := GLf sx) (fun _ => ?_) (fun _ => ?_)
    ·
      refine p_if (Q := GLf sx) (fun _ => ?_) (fun _ => ?_)
      ·
        exact GLf.tr ksx (ih 23 1 0 0 0 sx)
      ·
        refine p_bd (Q := GLf sx) (fun s5 hs5 => ?_)
        have ks5 : GLf sx s5 := by rw [hs5]; exact (GLf.I ksx (by omega))
        exact GLf.tr ks5 (ih 2 ((l1 + 1)) 0 0 0 s5)
    ·
      refine p_if (Q := GLf sx) (fun _ => ?_) (fun _ => ?_)
      ·
        refine p_if (Q := GLf sx) (fun _ => ?_) (fun _ => ?_)
        ·
          exact ksx
        ·
          exact GLf.tr ksx (ih 31 0 0 0 0 sx)
      ·
        refine p_if (Q := GLf sx) (fun _ => ?_) (fun _ => ?_)
        ·
          refine p_bd (Q := GLf sx) (fun v15 hv15 => ?_)
          refine p_bd (Q := GLf sx) (fun v17 hv17 => ?_)
          refine p_if (Q := GLf sx) (fun _ => ?_) (fun _ => ?_)
          ·
            exact GLf.tr ksx (ih 23 l1 0 0 0 sx)
          ·
            refine p_bd (Q := GLf sx) (fun s24 hs24 => ?_)
            have ks24 : GLf sx s24 := GLf.tr ksx (by rw [hs24]; exact glf_X8_empties_x2)
            refine p_bd (Q := GLf sx) (fun v39 hv39 => ?_)
            refine p_bd (Q := GLf sx) (fun s41 hs41 => ?_)
            have ks41 : GLf sx s41 := GLf.tr ks24 (by rw [hs41]; exact glf_X8_reach2)
            refine p_bd (Q := GLf sx) (fun s47 hs47 => ?_)
            have ks47 : GLf sx s47 := GLf.tr ks41 (by rw [hs47]; exact glf_X8_goes_ff2)
            exact GLf.tr ks47 (ih 80 l1 l2 0 0 s47)
        ·
          refine p_if (Q := GLf sx) (fun _ => ?_) (fun _ => ?_)
          ·
            refine p_if (Q := GLf sx) (fun _ => ?_) (fun _ => ?_)
            ·
              refine p_bd (Q := GLf sx) (fun s58 hs58 => ?_)
              have ks58 : GLf sx s58 := by rw [hs58]; exact (GLf.I ksx (by omega))
              exact GLf.tr ks58 (ih 31 1 ((l2 + 1)) 0 0 s58)
            ·
              refine p_bd (Q := GLf sx) (fun v65 hv65 => ?_)
              refine p_if (Q := GLf sx) (fun _ => ?_) (fun _ => ?_)
              ·
                refine p_bd (Q := GLf sx) (fun s69 hs69 => ?_)
                have ks69 : GLf sx s69 := by rw [hs69]; exact (GLf.I ksx (by omega))
                exact GLf.tr ks69 (ih 31 0 ((l2 + 1)) 0 0 s69)
              ·
                refine p_bd (Q := GLf sx) (fun s76 hs76 => ?_)
                have ks76 : GLf sx s76 := by rw [hs76]; exact (GLf.I ksx (by omega))
                exact GLf.tr ks76 (ih 31 1 ((l2 + 1)) 0 0 s76)
          ·
            refine p_bd (Q := GLf sx) (fun v90 hv90 => ?_)
            refine p_bd (Q := GLf sx) (fun v95 hv95 => ?_)
            refine p_if (Q := GLf sx) (fun _ => ?_) (fun _ => ?_)
            ·
              refine p_bd (Q := GLf sx) (fun v99 hv99 => ?_)
              exact GLf.tr ksx (ih 80 l1 l2 v99 ((l4 + 1)) sx)
            ·
              refine p_bd (Q := GLf sx) (fun v105 hv105 => ?_)
              refine p_bd (Q := GLf sx) (fun v107 hv107 => ?_)
              exact GLf.tr ksx (ih 80 l1 l2 v107 ((l4 + 1)) sx)
theorem glf_X8_laysThrough2 {s : ST} : GLf s (f_X8_laysThrough2 s) := by
  unfold f_X8_laysThrough2
  have ks : GLf s s := GLf.rfl
  exact GLf.tr ks (glf_X8_laysThrough2_ (BG 2000001) 2 0 0 0 0 s)
theorem glf_X8_goesBack2_ : ∀ (n : Nat) (lab_ : Nat) (l1 : Int) (sx : ST), GLf sx (f_X8_goesBack2_ n lab_ l1 sx) := by
  intro n
  induction n with
  | zero =>
    intro lab_ l1 sx
    rw [f_X8_goesBack2_]
    exact GLf.rfl
  | succ n ih =>
    intro lab_ l1 sx
    rw [f_X8_goesBack2_]
    have ksx : GLf sx sx := GLf.rfl
    refine p_bd (Q := GLf sx) (fun u70_47 hu70_47 => ?_)
    refine p_if (Q := GLf sx) (fun _ => ?_) (fun _ => ?_)
    ·
      refine p_bd (Q := GLf sx) (fun s4 hs4 => ?_)
      have ks4 : GLf sx s4 := GLf.tr ksx (by rw [hs4]; exact glf_X8_goes2)
      exact ks4
    ·
      refine p_bd (Q := GLf sx) (fun v14 hv14 => ?_)
      refine p_if (Q := GLf sx) (fun _ => ?_) (fun _ => ?_)
      ·
        refine p_bd (Q := GLf sx) (fun s19 hs19 => ?_)
        have ks19 : GLf sx s19 := by rw [hs19]; exact (GLf.I ksx (by omega))
        refine p_bd (Q := GLf sx) (fun s24 hs24 => ?_)
        have ks24 : GLf sx s24 := by rw [hs24]; exact (GLf.I ks19 (by omega))
        exact GLf.tr ks24 (ih 8 ((l1 + 1)) s24)
      ·
        exact GLf.tr ksx (ih 8 ((l1 + 1)) sx)
theorem glf_X8_goesBack2 {s : ST} : GLf s (f_X8_goesBack2 s) := by
  unfold f_X8_goesBack2
  have ks : GLf s s := GLf.rfl
  refine p_bd (Q := GLf s) (fun s33 hs33 => ?_)
  have ks33 : GLf s s33 := GLf.tr ks (by rw [hs33]; exact glf_X8_goes2)
  exact GLf.tr ks33 (glf_X8_goesBack2_ 1774 8 0 s33)
theorem glf_X8_reachAll2_ : ∀ (n : Nat) (lab_ : Nat) (l1 : Int) (l2 : Int) (sx : ST), GLf sx (f_X8_reachAll2_ n lab_ l1 l2 sx) := by
  intro n
  induction n with
  | zero =>
    intro lab_ l1 l2 sx
    rw [f_X8_reachAll2_]
    exact GLf.rfl
  | succ n ih =>
    intro lab_ l1 l2 sx
    rw [f_X8_reachAll2_]
    have ksx : GLf sx sx := GLf.rfl
    refine p_bd (Q := GLf sx) (fun v4 hv4 => ?_)
    refine p_if (Q := GLf sx) (fun _ => ?_) (fun _ => ?_)
    ·
      refine p_if (Q := GLf sx) (fun _ => ?_) (fun _ => ?_)
      ·
        exact ksx
      ·
        refine p_bd (Q := GLf sx) (fun v13 hv13 => ?_)
        refine p_bd (Q := GLf sx) (fun s15 hs15 => ?_)
        have ks15 : GLf sx s15 := GLf.tr ksx (by rw [hs15]; exact glf_X8_reach2)
        exact GLf.tr ks15 (ih 2 l1 ((l2 + 1)) s15)
    ·
      refine p_if (Q := GLf sx) (fun _ => ?_) (fun _ => ?_)
      ·
        exact ksx
      ·
        refine p_bd (Q := GLf sx) (fun v30 hv30 => ?_)
        refine p_bd (Q := GLf sx) (fun s32 hs32 => ?_)
        have ks32 : GLf sx s32 := GLf.tr ksx (by rw [hs32]; exact glf_X8_reach2)
        exact GLf.tr ks32 (ih 2 l1 ((l2 + 1)) s32)
theorem glf_X8_reachAll2 {s : ST} {a2 : Int} : GLf s (f_X8_reachAll2 s a2) := by
  unfold f_X8_reachAll2
  have ks : GLf s s := GLf.rfl
  exact GLf.tr ks (glf_X8_reachAll2_ 58 2 a2 0 s)
theorem glf_X8_laysAll2_ : ∀ (n : Nat) (lab : Nat) (l1 : Int) (sx : ST), GLf sx (f_X8_laysAll2_ n lab l1 sx) := by
  intro n
  induction n with
  | zero =>
    intro lab l1 sx
    rw [f_X8_laysAll2_]
    exact GLf.rfl
  | succ n ih =>
    intro lab l1 sx
    rw [f_X8_laysAll2_]
    have ksx : GLf sx sx := GLf.rfl
    refine p_if (Q := GLf sx) (fun _ => ?_) (fun _ => ?_)
    ·
      refine p_if (Q := GLf sx) (fun _ => ?_) (fun _ => ?_)
      ·
        refine p_bd (Q := GLf sx) (fun s4 hs4 => ?_)
        have ks4 : GLf sx s4 := GLf.tr ksx (by rw [hs4]; exact glf_X8_laysValues2)
        refine p_bd (Q := GLf sx) (fun s9 hs9 => ?_)
        have ks9 : GLf sx s9 := GLf.tr ks4 (by rw [hs9]; exact glf_X8_laysWay2)
        refine p_bd (Q := GLf sx) (fun s13 hs13 => ?_)
        have ks13 : GLf sx s13 := GLf.tr ks9 (by rw [hs13]; exact glf_X8_laysThrough2)
        exact GLf.tr ks13 (ih 36 0 s13)
      ·
        refine p_bd (Q := GLf sx) (fun s20 hs20 => ?_)
        have ks20 : GLf sx s20 := by rw [hs20]; exact (GLf.I ksx (by omega))
        exact GLf.tr ks20 (ih 2 ((l1 + 1)) s20)
    ·
      refine p_bd (Q := GLf sx) (fun v25 hv25 => ?_)
      refine p_bd (Q := GLf sx) (fun v27 hv27 => ?_)
      refine p_if (Q := GLf sx) (fun _ => ?_) (fun _ => ?_)
      ·
        exact ksx
      ·
        refine p_bd (Q := GLf sx) (fun s32 hs32 => ?_)
        have ks32 : GLf sx s32 := GLf.tr ksx (by rw [hs32]; exact glf_X8_empties_x2)
        refine p_bd (Q := GLf sx) (fun s38 hs38 => ?_)
        have ks38 : GLf sx s38 := GLf.tr ks32 (by rw [hs38]; exact glf_X8_reachAll2)
        refine p_bd (Q := GLf sx) (fun s43 hs43 => ?_)
        have ks43 : GLf sx s43 := GLf.tr ks38 (by rw [hs43]; exact glf_X8_goesBack2)
        refine p_bd (Q := GLf sx) (fun v51 hv51 => ?_)
        refine p_bd (Q := GLf sx) (fun s53 hs53 => ?_)
        have ks53 : GLf sx s53 := by rw [hs53]; exact (GLf.L ks43 (by omega))
        exact GLf.tr ks53 (ih 36 ((l1 + 1)) s53)
theorem glf_X8_laysAll2 {s : ST} : GLf s (f_X8_laysAll2 s) := by
  unfold f_X8_laysAll2
  have ks : GLf s s := GLf.rfl
  exact GLf.tr ks (glf_X8_laysAll2_ (BG 33490) 2 0 s)

