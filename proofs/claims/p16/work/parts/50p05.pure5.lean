/-! a set, a call -/
def cSg (s : ST) (a v : Int) : ST := sI (f_X3_readOperand (sI s (s.2.2 34 4 + 8) a.toNat v)).1 ((sI s (s.2.2 34 4 + 8) a.toNat v).2.2 34 4 + 10) a.toNat (f_X3_readOperand (sI s (s.2.2 34 4 + 8) a.toNat v)).2
def cN2 (s : ST) (a : Int) : ST := if (f_X3_look s).2 = 43 ∨ (f_X3_look s).2 = 45 ∨ (f_X3_look s).2 = 42 ∨ (f_X3_look s).2 = 60 then cSg (sI (f_X3_look s).1 34 2 ((f_X3_look s).1.1 34 2 + 1)) a (f_X3_look s).2 else (f_X3_look s).1
theorem nums_2 (s : ST) (a : Int) : f_X3_readNumbers s a = cN2 (sI (f_X3_readOperand s).1 (s.2.2 34 4 + 9) a.toNat (f_X3_readOperand s).2) a := by
  unfold f_X3_readNumbers cN2 cSg
  simp only [bd, bd2]
  by_cases h1 : (f_X3_look (sI (f_X3_readOperand s).1 (s.2.2 34 4 + 9) a.toNat (f_X3_readOperand s).2)).2 = 43
  · rw [if_pos h1, if_pos (Or.inl h1)]
  · rw [if_neg h1]
    by_cases h2 : (f_X3_look (sI (f_X3_readOperand s).1 (s.2.2 34 4 + 9) a.toNat (f_X3_readOperand s).2)).2 = 45
    · rw [if_pos h2, if_pos (Or.inr (Or.inl h2))]
    · rw [if_neg h2]
      by_cases h3 : (f_X3_look (sI (f_X3_readOperand s).1 (s.2.2 34 4 + 9) a.toNat (f_X3_readOperand s).2)).2 = 42
      · rw [if_pos h3, if_pos (Or.inr (Or.inr (Or.inl h3)))]
      · rw [if_neg h3]
        by_cases h4 : (f_X3_look (sI (f_X3_readOperand s).1 (s.2.2 34 4 + 9) a.toNat (f_X3_readOperand s).2)).2 = 60
        · rw [if_neg (fun z => z h4), if_pos (Or.inr (Or.inr (Or.inr h4)))]
        · rw [if_pos h4, if_neg (fun z => z.elim h1 (fun z => z.elim h2 (fun z => z.elim h3 h4)))]
theorem BN.sg {b : Int} {c : Nat} {s : ST} {a v : Int} (hc : c = 2 ∨ c = 18) (h : BN b c s) : BN b c (cSg s a v) := by
  unfold cSg
  have h1 : BN b c (sI s (s.2.2 34 4 + 8) a.toNat v) := BN.Ic hc h h (by omega)
  exact BN.Ic hc h1 h1.oper (by omega)
theorem BN.n2 {b : Int} {c : Nat} {s : ST} {a : Int} (hc : c = 2 ∨ c = 18) (h : BN b c s) : BN b c (cN2 s a) := by
  unfold cN2
  split
  · exact BN.sg hc (h.look.I (by omega))
  · exact h.look
def mNum (t : ST) (i : Int) : ST :=
  bd (f_X8_operand t i 0) fun s30 => bd (f_X8_isGood s30) fun v52 => if v52 = 0 then (bd (f_X8_must s30 59) fun s62 => s62) else (bd2 (f_X8_here s30) fun s92 v98 => bd (s92.1 70 4) fun u100 => bd (f_X8_isSign s92 v98) fun v107 => if v107 = 0 then (bd (f_X8_must s92 59) fun s117 => s117) else (bd (f_X8_here_ns s92) fun v146 => bd (sI s92 83 (i).toNat v146) fun s148 => bd (sI s148 70 4 ((u100 + 1))) fun s153 => bd (f_X8_operand s153 i 1) fun s162 => bd (f_X8_must s162 59) fun s186 => s186))
theorem isSign_r (t : ST) (v : Int) : f_X8_isSign t v = if v = 43 ∨ v = 45 ∨ v = 42 ∨ v = 60 then 1 else 0 := by
  unfold f_X8_isSign
  by_cases h1 : v = 43
  · rw [if_pos h1, if_pos (Or.inl h1)]
  · rw [if_neg h1]
    by_cases h2 : v = 45
    · rw [if_pos h2, if_pos (Or.inr (Or.inl h2))]
    · rw [if_neg h2]
      by_cases h3 : v = 42
      · rw [if_pos h3, if_pos (Or.inr (Or.inr (Or.inl h3)))]
      · rw [if_neg h3]
        by_cases h4 : v = 60
        · rw [if_neg (fun z => z h4), if_pos (Or.inr (Or.inr (Or.inr h4)))]
        · rw [if_pos h4, if_neg (fun z => z.elim h1 (fun z => z.elim h2 (fun z => z.elim h3 h4)))]
theorem here_ns_r {t : ST} (h1 : t.1 70 4 < t.1 70 3) (h2 : ¬ (t.1 72 (t.1 70 4).toNat = 32 ∨ t.1 72 (t.1 70 4).toNat = 10)) : f_X8_here_ns t = tok (t.1 72) (t.1 70 3) (t.1 70 4) := by
  unfold f_X8_here_ns tok
  simp only [bd]
  rw [if_neg (by omega), if_neg (fun z => h2 (Or.inl z)), if_pos (fun z => h2 (Or.inr z)), if_neg (by omega), if_neg (by omega)]
theorem QQ.nums {c : Nat} {s0 t0 s t : ST} {n i : Int} (hc : c = 2 ∨ c = 18) (n0 : 0 ≤ n) (i0 : 0 ≤ i) (h : QQ c n i s0 t0 s t) : QQ c n i s0 t0 (f_X3_take (f_X3_readNumbers s n) 59) (mNum t i) := by
  rw [nums_2]
  have h1 := QQ.oper (k := 9) (n := n) (i := i) (q := 0) hc n0 i0 (Or.inl ⟨rfl, rfl⟩) h
  generalize hA : sI (f_X3_readOperand s).1 (s.2.2 34 4 + 9) n.toNat (f_X3_readOperand s).2 = sA at h1 ⊢
  unfold mNum
  simp only [bd, bd2]
  generalize hB : f_X8_operand t i 0 = tA at h1 ⊢
  rcases h1 with h1 | h1
  · obtain ⟨p, v, e1, e2, q1, q2, q3, q4, q5⟩ := look_r h1.1
    have p0 := h1.1.2.2.1
    rw [good_1 h1.1.2.2.2.2.2.2.2, if_neg (by omega), e2]
    unfold cN2
    rw [e1]
    dsimp only
    rw [isSign_r, sI_eq, sI_eq, sI_sI]
    have g1 := h1.mv hc q1 q2
    by_cases z : v = 43 ∨ v = 45 ∨ v = 42 ∨ v = 60
    · rw [if_pos z, if_pos z, if_neg (by omega)]
      refine QQ.take hc (by omega) ?_
      unfold cSg
      have g2 := (h1.mv (p := p + 1) hc (by omega) (by omega))
      have e3 : (sI sA 34 2 (p + 1)).2.2 34 4 = c := g2.2.2.1
      rw [e3]
      have g3 : GD c n i s0 t0 (sI (sI sA 34 2 (p + 1)) (c + 8) n.toNat v) (sI (sI (sI tA 70 4 p) 83 i.toNat (f_X8_here_ns (sI tA 70 4 p))) 70 4 (p + 1)) := by
        rw [sI_sw (s := sI tA 70 4 p) (by omega), sI_sI]
        refine GD.wS hc n0 i0 ?_ g2
        have hns : f_X8_here_ns (sI tA 70 4 p) = v := by
          have c1 := g1.1.1
          have c6 := g1.1.2.2.2.2.2.1
          rw [sI_ne (p := 34) (q := 1) (by omega), sI_nc (p := 1) (by omega)] at c6
          have sc := sk_c (p := p) c6 (by omega)
          rw [q5] at sc
          have sb := (sk_bd (t := (sI tA 70 4 p).1 72) (len := sA.1 34 1) (p := p) q2).2.2
          rw [← sc] at sb
          rw [sI_ne (p := 34) (q := 1) (by omega)] at c1
          have k3 : (sI tA 70 4 p).1 70 3 = sA.1 34 1 := c1.symm
          have k4 : (sI tA 70 4 p).1 70 4 = p := sI_eq _ _ _ _
          rw [here_ns_r (by rw [k3, k4]; omega) (by rw [k4]; exact fun y => sb ⟨by omega, y⟩), k3, k4, q4]
          exact (tok_c c6 (by omega)).symm
        rw [hns]
        exact Or.inr ⟨rfl, z⟩
      exact QQ.oper (k := 10) hc n0 i0 (Or.inr ⟨rfl, rfl⟩) (Or.inl g3)
    · rw [if_neg z, if_neg z, if_pos rfl]
      exact QQ.take hc (by omega) (Or.inl g1)
  · rw [good_0 h1.1, if_pos rfl, must_f h1.1]
    exact Or.inr ⟨h1.1, (BN.n2 hc h1.2).take⟩
theorem readSet_r (t : ST) (i n : Int) : f_X8_readSet t i n = if f_X8_isGood (f_X8_must t 61) = 0 then mNum (f_X8_must t 61) i else if 6 ≤ n then mNum (f_X8_must t 61) i else if f_X8_isIn (f_X8_here (f_X8_must t 61)).1 (f_X8_here (f_X8_must t 61)).2 65 69 = 0 then mNum (f_X8_here (f_X8_must t 61)).1 i else f_X8_must (f_X8_must (f_X8_operand (f_X8_must (f_X8_operand (f_X8_must (sI (sI (sI (f_X8_here (f_X8_must t 61)).1 77 i.toNat 1) 84 i.toNat (f_X8_here_ns (sI (f_X8_here (f_X8_must t 61)).1 77 i.toNat 1) - 65)) 70 4 ((f_X8_here (f_X8_must t 61)).1.1 70 4 + 1)) 40) i 0) 44) i 1) 41) 59 := by
  unfold f_X8_readSet mNum
  simp only [bd, bd2]
/-- a call as it is written down on both sides -/
def cCall (s : ST) (c : Nat) (n p k : Int) (w : Int64) : ST := sL (sI (sI (sI s 34 2 p) (c + 2) n.toNat 1) (c + 7) n.toNat k) c 2 w
def mCall (t : ST) (i p k : Int) : ST := sI (sI (sI t 77 i.toNat 1) 84 i.toNat k) 70 4 p
theorem AgC.I {c q i : Nat} {a : Int} {s s' : ST} (h : ∀ p j, ¬ (p = 34 ∧ j = 2) → p ≠ c + 8 → p ≠ c + 9 → p ≠ c + 10 → s.1 p j = s'.1 p j) : ∀ p j, ¬ (p = 34 ∧ j = 2) → p ≠ c + 8 → p ≠ c + 9 → p ≠ c + 10 → (sI s q i a).1 p j = (sI s' q i a).1 p j := by
  intro p j h1 h2 h3 h4
  show (if p = q ∧ j = i then a else s.1 p j) = (if p = q ∧ j = i then a else s'.1 p j)
  rw [h p j h1 h2 h3 h4]
theorem AgM.I {q i : Nat} {a : Int} {s s' : ST} (h : ∀ p j, ¬ (p = 70 ∧ j = 4) → p ≠ 83 → p ≠ 89 → s.1 p j = s'.1 p j) : ∀ p j, ¬ (p = 70 ∧ j = 4) → p ≠ 83 → p ≠ 89 → (sI s q i a).1 p j = (sI s' q i a).1 p j := by
  intro p j h1 h2 h3
  show (if p = q ∧ j = i then a else s.1 p j) = (if p = q ∧ j = i then a else s'.1 p j)
  rw [h p j h1 h2 h3]
theorem oper_mv {s : ST} {p v : Int} (e1 : f_X3_look s = (sI s 34 2 p, v)) (e2 : f_X3_look (sI s 34 2 p) = (sI s 34 2 p, v)) : f_X3_readOperand (sI s 34 2 p) = f_X3_readOperand s := by
  unfold f_X3_readOperand
  rw [e1, e2]
theorem nums_mv {s : ST} {p v a : Int} (e1 : f_X3_look s = (sI s 34 2 p, v)) (e2 : f_X3_look (sI s 34 2 p) = (sI s 34 2 p, v)) : f_X3_readNumbers (sI s 34 2 p) a = f_X3_readNumbers s a := by
  rw [nums_2, nums_2, oper_mv e1 e2]
  rfl
theorem mNum_f {t : ST} {i : Int} (h : t.1 70 5 ≠ 0) : mNum t i = t := by
  unfold mNum
  simp only [bd, bd2]
  rw [oper_f h, good_0 h, if_pos rfl, must_f h]
theorem asg_r {c : Nat} {s t : ST} {n i nm : Int} (hc : c = 2 ∨ c = 18) (n0 : 0 ≤ n) (i0 : 0 ≤ i) (h : PS s t) (e : s.2.2 34 4 = c) : QQ c n i (sI s (c + 6) n.toNat nm) t (f_X3_readAssignment s n nm) (f_X8_readSet t i nm) ∨ (∃ p k w, s.1 34 2 < p ∧ p ≤ s.1 34 1 ∧ 0 ≤ k ∧ k ≤ 4 ∧ QQ c n i (cCall (sI s (c + 6) n.toNat nm) c n p k w) (mCall t i p k) (f_X3_readAssignment s n nm) (f_X8_readSet t i nm)) := by
  have h1 : GD c n i (sI s (c + 6) n.toNat nm) t (sI s (c + 6) n.toNat nm) t := GD.rfl (h.wI (by omega) (by omega)) e
  have h2 := QQ.take (a := 61) hc (by omega) (Or.inl h1)
  unfold f_X3_readAssignment
  simp only [bd, bd2]
  rw [readSet_r, e]
  have pl : (sI s (c + 6) n.toNat nm).1 34 2 = s.1 34 2 := by rw [sI_nc (p := 34) (by omega)]
  have pn : (sI s (c + 6) n.toNat nm).1 34 1 = s.1 34 1 := by rw [sI_nc (p := 34) (by omega)]
  generalize hS0 : sI s (c + 6) n.toNat nm = s0 at h1 h2 pl pn ⊢
  generalize hA : f_X3_take s0 61 = sA at h2 ⊢
  generalize hB : f_X8_must t 61 = tA at h2 ⊢
  rcases h2 with h2 | h2
  · obtain ⟨p, v, e1, e2, q1, q2, q3, q4, q5⟩ := look_r h2.1
    have p0 := h2.1.2.2.1
    have g1 := h2.mv hc q1 q2
    have ag := h2.1.again q1 q2 q4 q5
    rw [good_1 h2.1.2.2.2.2.2.2.2, if_neg (show ¬ (1 : Int) = 0 by omega), e1, e2]
    dsimp only
    by_cases z1 : 65 ≤ v ∧ v ≤ 69
    · rw [if_neg (show ¬ v < 65 by omega), if_neg (show ¬ 70 ≤ v by omega), isIn_1 z1, if_neg (show ¬ (1 : Int) = 0 by omega)]
      unfold f_X7_isField
      by_cases z2 : nm < 6
      · right
        rw [if_pos z2, if_neg (fun z => z rfl), if_neg (show ¬ 6 ≤ nm by omega)]
        unfold f_X3_readCall
        simp only [bd, bd2]
        have hpos : 0 ≤ s.1 34 2 := h.2.2.1
        have hle : s0.1 34 2 ≤ sA.1 34 2 := h2.2.1
        have hlen : sA.1 34 1 = s0.1 34 1 := h2.2.2.2.1 34 1 (by omega) (by omega) (by omega) (by omega)
        have hns : f_X8_here_ns (sI (sI tA 70 4 p) 77 i.toNat 1) = v := by
          have c1 := g1.1.1
          have c6 := g1.1.2.2.2.2.2.1
          rw [sI_ne (p := 34) (q := 1) (by omega), sI_nc (p := 1) (by omega)] at c6
          have sc := sk_c (p := p) c6 (by omega)
          rw [q5] at sc
          have sb := (sk_bd (t := (sI tA 70 4 p).1 72) (len := sA.1 34 1) (p := p) q2).2.2
          rw [← sc] at sb
          rw [sI_ne (p := 34) (q := 1) (by omega)] at c1
          have k3 : (sI (sI tA 70 4 p) 77 i.toNat 1).1 70 3 = sA.1 34 1 := by rw [sI_nc (p := 70) (by omega)]; exact c1.symm
          have k4 : (sI (sI tA 70 4 p) 77 i.toNat 1).1 70 4 = p := by rw [sI_nc (p := 70) (by omega), sI_eq]
          have k7 : (sI (sI tA 70 4 p) 77 i.toNat 1).1 72 = (sI tA 70 4 p).1 72 := sI_nc (by omega)
          rw [here_ns_r (by rw [k3, k4]; omega) (by rw [k4, k7]; exact fun z => sb ⟨by omega, z⟩), k3, k4, k7, q4]
          exact (tok_c c6 (by omega)).symm
        rw [hns, sI_eq, sI_eq]
        have er : sA.2.2 34 4 = c := h2.2.2.1
        have g2 := h2.mv (p := p + 1) hc (by omega) (by omega)
        obtain ⟨w, hw⟩ : ∃ w, w = o_lor ((sI (sI (sI (sI sA 34 2 p) 34 2 (p + 1)) (c + 2) n.toNat 1) (c + 7) n.toNat (v - 65)).2.1 c 2) (f_X7_bit (sI (sI (sI (sI sA 34 2 p) 34 2 (p + 1)) (c + 2) n.toNat 1) (c + 7) n.toNat (v - 65)) n) := ⟨_, rfl⟩
        refine ⟨p + 1, v - 65, w, by omega, by omega, by omega, by omega, ?_⟩
        have g3 : GD c n i (cCall s0 c n (p + 1) (v - 65) w) (mCall t i (p + 1) (v - 65)) (sL (sI (sI (sI (sI sA 34 2 p) 34 2 (p + 1)) (c + 2) n.toNat 1) (c + 7) n.toNat (v - 65)) c 2 w) (sI (sI (sI (sI tA 70 4 p) 77 i.toNat 1) 84 i.toNat (v - 65)) 70 4 (p + 1)) := by
          refine ⟨?_, ?_, er, ?_, ?_, ?_⟩
          · rw [sI_sI, sI_sw (s := sI (sI tA 70 4 p) 77 i.toNat 1) (by omega), sI_sw (s := sI tA 70 4 p) (by omega), sI_sI]
            exact PS.wL ((((g2.1).wI (by omega) (by omega)).wI (by omega) (by omega)).wJ (by omega) (by omega) |>.wJ (by omega) (by omega))
          · show (sI (sI (sI s0 34 2 (p + 1)) (c + 2) n.toNat 1) (c + 7) n.toNat (v - 65)).1 34 2 ≤ (sI (sI (sI (sI sA 34 2 p) 34 2 (p + 1)) (c + 2) n.toNat 1) (c + 7) n.toNat (v - 65)).1 34 2
            have x1 : ∀ x : ST, (sI (sI (sI x 34 2 (p + 1)) (c + 2) n.toNat 1) (c + 7) n.toNat (v - 65)).1 34 2 = p + 1 := fun x => by
              rw [sI_nc (p := 34) (show 34 ≠ c + 7 by omega), sI_nc (p := 34) (show 34 ≠ c + 2 by omega), sI_eq]
            rw [x1, x1]
            exact Int.le_refl _
          · exact AgC.I (AgC.I (AgC.I (s := sI sA 34 2 p) (s' := s0) g1.2.2.2.1))
          · exact AgM.I (AgM.I (AgM.I (s := sI tA 70 4 p) (s' := t) g1.2.2.2.2.1))
          · intro k x k0 x0 ei o
            have c9 : ∀ (q : Nat) (X : ST), q ≠ 34 → q ≠ c + 2 → q ≠ c + 7 → (sI (sI (sI X 34 2 (p + 1)) (c + 2) n.toNat 1) (c + 7) n.toNat (v - 65)).1 q = X.1 q := fun q X z1 z2 z3 => by
              rw [sI_nc z3, sI_nc z2, sI_nc z1]
            have m9 : ∀ (q : Nat) (X : ST), q ≠ 70 → q ≠ 77 → q ≠ 84 → (sI (sI (sI X 77 i.toNat 1) 84 i.toNat (v - 65)) 70 4 (p + 1)).1 q = X.1 q := fun q X z1 z2 z3 => by
              rw [sI_nc z1, sI_nc z3, sI_nc z2]
            have ob : OE c k x s0 t := by
              have o' : OV ((sI (sI (sI s0 34 2 (p + 1)) (c + 2) n.toNat 1) (c + 7) n.toNat (v - 65)).1 (c + 9) k.toNat) ((sI (sI (sI t 77 i.toNat 1) 84 i.toNat (v - 65)) 70 4 (p + 1)).1 89 (2 * x).toNat) ∧ OV ((sI (sI (sI s0 34 2 (p + 1)) (c + 2) n.toNat 1) (c + 7) n.toNat (v - 65)).1 (c + 10) k.toNat) ((sI (sI (sI t 77 i.toNat 1) 84 i.toNat (v - 65)) 70 4 (p + 1)).1 89 (2 * x + 1).toNat) ∧ SV ((sI (sI (sI s0 34 2 (p + 1)) (c + 2) n.toNat 1) (c + 7) n.toNat (v - 65)).1 (c + 8) k.toNat) ((sI (sI (sI t 77 i.toNat 1) 84 i.toNat (v - 65)) 70 4 (p + 1)).1 83 x.toNat) := o
              rw [c9 (c + 9) s0 (by omega) (by omega) (by omega), c9 (c + 10) s0 (by omega) (by omega) (by omega), c9 (c + 8) s0 (by omega) (by omega) (by omega), m9 89 t (by decide) (by decide) (by decide), m9 83 t (by decide) (by decide) (by decide)] at o'
              exact o'
            have oa := g1.2.2.2.2.2 k x k0 x0 ei ob
            show OV ((sI (sI (sI (sI sA 34 2 p) 34 2 (p + 1)) (c + 2) n.toNat 1) (c + 7) n.toNat (v - 65)).1 (c + 9) k.toNat) ((sI (sI (sI (sI tA 70 4 p) 77 i.toNat 1) 84 i.toNat (v - 65)) 70 4 (p + 1)).1 89 (2 * x).toNat) ∧ OV ((sI (sI (sI (sI sA 34 2 p) 34 2 (p + 1)) (c + 2) n.toNat 1) (c + 7) n.toNat (v - 65)).1 (c + 10) k.toNat) ((sI (sI (sI (sI tA 70 4 p) 77 i.toNat 1) 84 i.toNat (v - 65)) 70 4 (p + 1)).1 89 (2 * x + 1).toNat) ∧ SV ((sI (sI (sI (sI sA 34 2 p) 34 2 (p + 1)) (c + 2) n.toNat 1) (c + 7) n.toNat (v - 65)).1 (c + 8) k.toNat) ((sI (sI (sI (sI tA 70 4 p) 77 i.toNat 1) 84 i.toNat (v - 65)) 70 4 (p + 1)).1 83 x.toNat)
            rw [c9 (c + 9) (sI sA 34 2 p) (by omega) (by omega) (by omega), c9 (c + 10) (sI sA 34 2 p) (by omega) (by omega) (by omega), c9 (c + 8) (sI sA 34 2 p) (by omega) (by omega) (by omega), m9 89 (sI tA 70 4 p) (by decide) (by decide) (by decide), m9 83 (sI tA 70 4 p) (by decide) (by decide) (by decide)]
            exact oa
        have o1 := QQ.take (a := 40) hc (by omega) (Or.inl g3)
        have o2 := QQ.take (a := 44) hc (by omega) (QQ.oper (k := 9) (n := n) (i := i) (q := 0) hc n0 i0 (Or.inl ⟨rfl, rfl⟩) o1)
        have o3 := QQ.take (a := 59) hc (by omega) (QQ.take (a := 41) hc (by omega) (QQ.oper (k := 10) (n := n) (i := i) (q := 1) hc n0 i0 (Or.inr ⟨rfl, rfl⟩) o2))
        have ec : (sI (sI sA 34 2 p) 34 2 (p + 1)).2.2 34 4 = c := er
        have ed : (sI (sI (sI (sI sA 34 2 p) 34 2 (p + 1)) (c + 2) n.toNat 1) (c + 7) n.toNat (v - 65)).2.2 34 4 = c := er
        rw [ec, ed, ← hw]
        exact o3
      · left
        rw [if_neg z2, if_pos (show ¬ (1 : Int) = 0 by omega), if_pos (show 6 ≤ nm by omega), nums_mv e1 ag.1]
        exact QQ.nums hc n0 i0 (Or.inl h2)
    · left
      have hr : (if 6 ≤ nm then mNum tA i else if f_X8_isIn (sI tA 70 4 p) v 65 69 = 0 then mNum (sI tA 70 4 p) i else f_X8_must (f_X8_must (f_X8_operand (f_X8_must (f_X8_operand (f_X8_must (sI (sI (sI (sI tA 70 4 p) 77 i.toNat 1) 84 i.toNat (f_X8_here_ns (sI (sI tA 70 4 p) 77 i.toNat 1) - 65)) 70 4 ((sI tA 70 4 p).1 70 4 + 1)) 40) i 0) 44) i 1) 41) 59) = (if 6 ≤ nm then mNum tA i else mNum (sI tA 70 4 p) i) := by
        rw [isIn_0 z1, if_pos rfl]
      rw [hr]
      have hl : (if v < 65 then f_X3_take (f_X3_readNumbers (sI sA 34 2 p) n) 59 else if 70 ≤ v then f_X3_take (f_X3_readNumbers (sI sA 34 2 p) n) 59 else if ¬ f_X7_isField (sI sA 34 2 p) nm = 0 then f_X3_take (f_X3_readNumbers (sI sA 34 2 p) n) 59 else f_X3_take (f_X3_readCall (sI sA 34 2 p) n v) 59) = f_X3_take (f_X3_readNumbers (sI sA 34 2 p) n) 59 := by
        by_cases y : v < 65
        · rw [if_pos y]
        · rw [if_neg y, if_pos (show 70 ≤ v by omega)]
      rw [hl]
      by_cases z2 : 6 ≤ nm
      · rw [if_pos z2, nums_mv e1 ag.1]
        exact QQ.nums hc n0 i0 (Or.inl h2)
      · rw [if_neg z2]
        exact QQ.nums hc n0 i0 (Or.inl g1)
  · left
    rw [good_0 h2.1, if_pos rfl, mNum_f h2.1]
    refine Or.inr ⟨h2.1, ?_⟩
    have h3 := h2.2.look
    repeat' split
    · exact (h3.nums hc).take
    · exact (h3.nums hc).take
    · exact (h3.nums hc).take
    · exact (h3.call hc).take

