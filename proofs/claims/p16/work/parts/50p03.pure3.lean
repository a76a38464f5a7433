/-! names, operands; what is blamed stays -/
theorem PS.again {s t : ST} {p v : Int} (h : PS s t) (h1 : s.1 34 2 ≤ p) (h2 : p ≤ s.1 34 1) (hv : v = tok (s.1 1) (s.1 34 1) p) (hk : sk (s.1 1) (s.1 34 1) p = p) : f_X3_look (sI s 34 2 p) = (sI s 34 2 p, v) ∧ f_X8_here (sI t 70 4 p) = (sI t 70 4 p, v) := by
  have h0 := h.2.2.1
  have hp := h.mv (p := p) (by omega) h2
  obtain ⟨p2, v2, e1, e2, q1, q2, q3, q4, q5⟩ := look_r hp
  have e := look_eq hp.2.2.2.1 hp.2.2.1 hp.2.2.2.2.1
  rw [sI_eq, sI_ne (p := 34) (q := 1) (by omega), sI_nc (p := 1) (by omega), hk, sI_sI, ← hv] at e
  rw [sI_sI] at e1 e2
  have e3 := e1.symm.trans e
  have e4 : p2 = p := by
    have := congrArg (fun x : ST × Int => x.1.1 34 2) e3
    dsimp only at this
    rw [sI_eq, sI_eq] at this
    exact this
  have e5 : v2 = v := congrArg Prod.snd e3
  rw [e4, e5] at e2
  exact ⟨e, e2⟩
theorem nameHere_r {t : ST} {p v a : Int} (e : f_X8_here t = (sI t 70 4 p, v)) : f_X8_nameHere t a = (sI t 70 4 p, if 97 ≤ v ∧ v ≤ 102 then v - 97 else if ¬ a = 0 ∧ 119 ≤ v ∧ v ≤ 122 then 6 + v - 119 else -1) := by
  unfold f_X8_nameHere
  simp only [bd, bd2]
  rw [e]
  dsimp only
  by_cases h1 : 97 ≤ v ∧ v ≤ 102
  · rw [isIn_1 h1, if_neg (by omega), if_pos h1]
  · rw [isIn_0 h1, if_pos rfl, if_neg h1]
    by_cases h2 : a = 0
    · rw [if_pos h2, if_neg (fun z => z.1 h2)]
    · rw [if_neg h2]
      by_cases h3 : 119 ≤ v ∧ v ≤ 122
      · rw [isIn_1 h3, if_neg (by omega), if_pos ⟨h2, h3⟩]
      · rw [isIn_0 h3, if_pos rfl, if_neg (fun z => h3 z.2)]
/-- an operand on both sides -/
def OV (a r : Int) : Prop := (a = -1 ∧ r = 0) ∨ (0 ≤ a ∧ a ≤ 9 ∧ r = 1000 + a) ∨ (10 ≤ a ∧ a ≤ 1009 ∧ r = a - 10)
theorem oper_r {s t : ST} {i k : Int} (h : PS s t) : (∃ p v w, s.1 34 2 ≤ p ∧ p ≤ s.1 34 1 ∧ f_X3_readOperand s = (sI s 34 2 p, v) ∧ f_X8_operand t i k = sI (sI t 89 (2 * i + k).toNat w) 70 4 p ∧ OV v w) ∨ BD (f_X3_readOperand s).1 (f_X8_operand t i k) := by
  obtain ⟨p, v, e1, e2, h1, h2, h3, h4, h5⟩ := look_r h
  have h0 := h.2.2.1
  have hp := h.mv (p := p) (by omega) h2
  have ag := h.again h1 h2 h4 h5
  unfold f_X3_readOperand f_X8_operand
  simp only [bd, bd2]
  rw [good_1 h.2.2.2.2.2.2.2, if_pos (show ¬ (1 : Int) = 0 by omega), nameHere_r e2, e1]
  dsimp only
  rw [sI_eq, sI_eq, sI_sI]
  by_cases d : 48 ≤ v ∧ v ≤ 57
  · rw [isDigit_1 d, if_neg (show ¬ (1 : Int) = 0 by omega), if_neg (show ¬ (97 ≤ v ∧ v ≤ 102) by omega), if_neg (show ¬ (¬ (1 : Int) = 0 ∧ 119 ≤ v ∧ v ≤ 122) by omega), if_neg (show ¬ (0 : Int) ≤ -1 by omega), ag.2]
    dsimp only
    rw [isIn_1 d, if_pos (show ¬ (1 : Int) = 0 by omega), sI_eq]
    unfold f_X3_readNumber
    simp only [bd]
    obtain ⟨v1, n1, m1⟩ := num_n 1519 7 ((sI s 34 2 p).1 34 2) 0 (sI s 34 2 p) hp.2.2.2.1 (by have := hp.2.2.2.2.1; have := hp.2.2.1; omega)
    obtain ⟨w1, n2, m2⟩ := opn_n 1519 78 i k 0 p (sI t 70 4 p) (by have := hp.1; have q2 := hp.2.2.2.1; rw [sI_eq] at q2; omega) (by have := hp.1; have := hp.2.2.2.2.1; omega) hp.2.2.2.2.2.2.2
    rw [n1, n2]
    have c1 := hp.1
    have c6 := hp.2.2.2.2.2.1
    have cd := dg_c (p := p) c6 (by omega)
    have cb := dg_bd (t := (sI s 34 2 p).1 1) (len := (sI s 34 2 p).1 34 1) (p := p) (by have := hp.2.2.2.1; rw [sI_eq] at this; exact this)
    rw [sI_eq, sI_eq, ← c1, ← cd]
    by_cases q : dg ((sI s 34 2 p).1 1) ((sI s 34 2 p).1 34 1) p - p ≤ 3
    · rw [if_pos q, if_pos q, sI_sI]
      refine Or.inl ⟨_, _, w1, by omega, ?_, rfl, ?_, ?_⟩
      · have := cb.2
        rw [sI_ne (p := 34) (q := 1) (by omega)] at this
        exact this
      · rw [sI_sw (by omega), sI_sI]; exact sI_sw (by omega)
      · rw [sI_eq, ← c1, ← cd] at m2
        have x2 := m2 q
        rw [sI_eq] at m1
        have x1 := m1 q ⟨by omega, by omega, by omega, fun _ => by omega, fun _ => by omega, fun _ => by omega⟩
        rw [← dv_c (p := p) c6 (by omega)] at x2
        have ia : o_iadd 10 v1 = 10 + v1 := iadd_r (by omega) (by omega)
        refine Or.inr (Or.inr ?_)
        dsimp only
        rw [ia]
        exact ⟨by omega, by omega, by omega⟩
    · rw [if_neg q, if_neg q, sI_sI]
      refine Or.inr ?_
      dsimp only
      have b0 : (sI s 34 2 (dg ((sI s 34 2 p).1 1) ((sI s 34 2 p).1 34 1) p)).1 34 3 = 0 := by rw [sI_ne (by omega)]; exact h.2.2.2.2.2.2.1
      rw [blame_0 b0]
      unfold BD
      rw [sI_eq, sI_ne (p := 70) (q := 5) (by omega), sI_eq]
      exact ⟨by omega, rfl⟩
  · rw [isDigit_0 d, if_pos rfl, nameOf_r]
    by_cases n1 : 97 ≤ v ∧ v ≤ 102
    · rw [if_pos n1, if_pos n1, if_pos (show ¬ (v - 97) = -1 by omega), if_pos (show 0 ≤ v - 97 by omega)]
      refine Or.inl ⟨p + 1, _, 1000 + (v - 97), by omega, by omega, rfl, ?_, Or.inr (Or.inl ⟨by omega, by omega, rfl⟩)⟩
      rw [sI_sw (by omega), sI_sI]; exact sI_sw (by omega)
    · rw [if_neg n1, if_neg n1]
      by_cases n2 : 119 ≤ v ∧ v ≤ 122
      · rw [if_pos n2, if_pos (show ¬ (1 : Int) = 0 ∧ 119 ≤ v ∧ v ≤ 122 from ⟨by omega, n2⟩), if_pos (show ¬ (6 + v - 119) = -1 by omega), if_pos (show 0 ≤ 6 + v - 119 by omega)]
        refine Or.inl ⟨p + 1, _, 1000 + (6 + v - 119), by omega, by omega, rfl, ?_, Or.inr (Or.inl ⟨by omega, by omega, rfl⟩)⟩
        rw [sI_sw (by omega), sI_sI]; exact sI_sw (by omega)
      · rw [if_neg n2, if_neg (show ¬ (¬ (1 : Int) = 0 ∧ 119 ≤ v ∧ v ≤ 122) from fun z => n2 z.2), if_neg (fun z => z rfl), if_neg (show ¬ (0 : Int) ≤ -1 by omega), ag.2]
        dsimp only
        rw [isIn_0 d, if_neg (fun z => z rfl)]
        exact Or.inr (BD.mk2 hp (by omega) (sI_eq _ _ _ _).symm)
