/-! what is blamed stays (b = 0: nothing is said of it), and the code at hand -/
def BN (b : Int) (c : Nat) (s : ST) : Prop := (b ≠ 0 → s.1 34 3 = b) ∧ s.2.2 34 4 = c
theorem BN.I {b : Int} {c : Nat} {s : ST} {p j : Nat} {a : Int} (h : BN b c s) (n : ¬ (34 = p ∧ 3 = j)) : BN b c (sI s p j a) := ⟨fun z => (sI_ne n).trans (h.1 z), h.2⟩
theorem BN.Ic {b : Int} {c : Nat} {s x : ST} {k j : Nat} {a : Int} (hc : c = 2 ∨ c = 18) (hx : BN b c x) (h : BN b c s) (hk : k ≤ 15) : BN b c (sI s (x.2.2 34 4 + k) j a) := h.I (by have := hx.2; omega)
theorem BN.L {b : Int} {c : Nat} {s : ST} {p j : Nat} {a : Int64} (h : BN b c s) : BN b c (sL s p j a) := h
theorem BN.bl {b : Int} {c : Nat} {s : ST} {k p : Int} (h : BN b c s) : BN b c (f_X3_blame s k p) := by
  by_cases z : s.1 34 3 = 0
  · rw [blame_0 z]
    refine ⟨fun q => ?_, h.2⟩
    have := h.1 q
    omega
  · rw [blame_1 z]; exact h
theorem look_ex_ : ∀ (n k : Nat) (s : ST), ∃ p v, f_X3_look_ n k s = (sI s 34 2 p, v) := by
  intro n
  induction n with
  | zero => intro k s; exact ⟨s.1 34 2, 0, by rw [sI_same]; rfl⟩
  | succ n ih =>
    intro k s
    rw [look_s]
    split
    · obtain ⟨p, v, e⟩ := ih 0 (sI s 34 2 (s.1 34 2 + 1))
      exact ⟨p, v, by rw [e, sI_sI]⟩
    · exact ⟨s.1 34 2, _, by rw [sI_same]⟩
theorem look_ex (s : ST) : ∃ p v, f_X3_look s = (sI s 34 2 p, v) := look_ex_ _ _ s
theorem BN.look {b : Int} {c : Nat} {s : ST} (h : BN b c s) : BN b c (f_X3_look s).1 := by
  obtain ⟨p, v, e⟩ := look_ex s
  rw [e]
  exact h.I (by omega)
theorem BN.num {b : Int} {c : Nat} : ∀ (n k : Nat) (l1 l2 : Int) (s : ST), BN b c s → BN b c (f_X3_readNumber_ n k l1 l2 s).1 := by
  intro n
  induction n with
  | zero => intro k l1 l2 s h; exact h
  | succ n ih =>
    intro k l1 l2 s h
    rw [f_X3_readNumber_]
    simp only [bd]
    repeat' split
    · exact h
    · exact h.bl
    · exact h
    · exact h.bl
    · exact ih _ _ _ _ (h.I (by omega))
    · exact ih _ _ _ _ (h.I (by omega))
theorem BN.take {b : Int} {c : Nat} {s : ST} {a : Int} (h : BN b c s) : BN b c (f_X3_take s a) := by
  unfold f_X3_take
  simp only [bd, bd2]
  have h1 := h.look
  split
  · exact h1.bl
  · exact h1.I (by omega)
theorem BN.oper {b : Int} {c : Nat} {s : ST} (h : BN b c s) : BN b c (f_X3_readOperand s).1 := by
  unfold f_X3_readOperand
  simp only [bd, bd2]
  have h1 := h.look
  split
  · split
    · exact h1.I (by omega)
    · exact h1.bl
  · unfold f_X3_readNumber
    exact BN.num _ _ _ _ _ h1
theorem BN.opn {b : Int} {c : Nat} {s : ST} {a d : Int} (h : BN b c s) : BN b c (f_X3_openBlock s a d) := by
  unfold f_X3_openBlock
  simp only [bd, bd2]
  have h1 := h.look
  split
  · split
    · exact ((((h1.I (by omega)).I (by omega)).I (by omega)).I (by omega)).I (by omega)
    · exact h1.bl
  · exact h1.bl
theorem BN.nums {b : Int} {c : Nat} {s : ST} {a : Int} (hc : c = 2 ∨ c = 18) (h : BN b c s) : BN b c (f_X3_readNumbers s a) := by
  unfold f_X3_readNumbers
  simp only [bd, bd2]
  have h1 := (BN.Ic hc h h.oper (k := 9) (j := a.toNat) (a := (f_X3_readOperand s).2) (by omega)).look
  have h2 : ∀ z, BN b c (sI (f_X3_look (sI (f_X3_readOperand s).1 (s.2.2 34 4 + 9) a.toNat (f_X3_readOperand s).2)).1 34 2 z) := fun z => h1.I (by omega)
  have h3 : ∀ z y, BN b c (sI (sI (f_X3_look (sI (f_X3_readOperand s).1 (s.2.2 34 4 + 9) a.toNat (f_X3_readOperand s).2)).1 34 2 z) ((sI (f_X3_look (sI (f_X3_readOperand s).1 (s.2.2 34 4 + 9) a.toNat (f_X3_readOperand s).2)).1 34 2 z).2.2 34 4 + 8) a.toNat y) := fun z y => BN.Ic hc (h2 z) (h2 z) (by omega)
  repeat' split
  · exact BN.Ic hc (h3 _ _) (h3 _ _).oper (by omega)
  · exact BN.Ic hc (h3 _ _) (h3 _ _).oper (by omega)
  · exact BN.Ic hc (h3 _ _) (h3 _ _).oper (by omega)
  · exact h1
  · exact BN.Ic hc (h3 _ _) (h3 _ _).oper (by omega)
theorem BN.call {b : Int} {c : Nat} {s : ST} {a d : Int} (hc : c = 2 ∨ c = 18) (h : BN b c s) : BN b c (f_X3_readCall s a d) := by
  unfold f_X3_readCall
  simp only [bd, bd2]
  have h1 : BN b c (sI s 34 2 (s.1 34 2 + 1)) := h.I (by omega)
  have h2 := BN.Ic hc h1 (BN.Ic hc h1 h1 (k := 2) (j := a.toNat) (a := 1) (by omega)) (k := 7) (j := a.toNat) (a := d - 65) (by omega)
  refine BN.take ?_
  have h3 := fun v => (BN.L h2 (p := (sI (sI (sI s 34 2 (s.1 34 2 + 1)) ((sI s 34 2 (s.1 34 2 + 1)).2.2 34 4 + 2) a.toNat 1) ((sI s 34 2 (s.1 34 2 + 1)).2.2 34 4 + 7) a.toNat (d - 65)).2.2 34 4) (j := 2) (a := v)).take (a := 40)
  have h4 := fun v => (BN.Ic hc (h3 v) (h3 v).oper (k := 9) (j := a.toNat) (a := (f_X3_readOperand (f_X3_take (sL (sI (sI (sI s 34 2 (s.1 34 2 + 1)) ((sI s 34 2 (s.1 34 2 + 1)).2.2 34 4 + 2) a.toNat 1) ((sI s 34 2 (s.1 34 2 + 1)).2.2 34 4 + 7) a.toNat (d - 65)) ((sI (sI (sI s 34 2 (s.1 34 2 + 1)) ((sI s 34 2 (s.1 34 2 + 1)).2.2 34 4 + 2) a.toNat 1) ((sI s 34 2 (s.1 34 2 + 1)).2.2 34 4 + 7) a.toNat (d - 65)).2.2 34 4) 2 v) 40)).2) (by omega)).take (a := 44)
  exact BN.Ic hc (h4 _) (h4 _).oper (by omega)
theorem BN.cond {b : Int} {c : Nat} {s : ST} {a d : Int} (hc : c = 2 ∨ c = 18) (h : BN b c s) : BN b c (f_X3_readCondition s a d) := by
  unfold f_X3_readCondition
  simp only [bd, bd2]
  have h1 := (BN.Ic hc h h.oper (k := 9) (j := a.toNat) (a := (f_X3_readOperand s).2) (by omega)).take (a := 60)
  exact (BN.Ic hc h1 h1.oper (by omega)).opn
theorem must_f {t : ST} {a : Int} (h : t.1 70 5 ≠ 0) : f_X8_must t a = t := by
  unfold f_X8_must
  simp only [bd, bd2]
  rw [good_0 h, if_neg (fun z => z rfl)]
theorem oper_f {t : ST} {i k : Int} (h : t.1 70 5 ≠ 0) : f_X8_operand t i k = t := by
  unfold f_X8_operand
  simp only [bd, bd2]
  rw [good_0 h, if_neg (fun z => z rfl)]
/-- signs on both sides; the operands of a statement on both sides -/
def SV (a r : Int) : Prop := (a = -1 ∧ r = 0) ∨ (a = r ∧ (r = 43 ∨ r = 45 ∨ r = 42 ∨ r = 60))
def OE (c : Nat) (n i : Int) (s t : ST) : Prop := OV (s.1 (c + 9) n.toNat) (t.1 89 (2 * i).toNat) ∧ OV (s.1 (c + 10) n.toNat) (t.1 89 (2 * i + 1).toNat) ∧ SV (s.1 (c + 8) n.toNat) (t.1 83 i.toNat)
/-- one step beside the other: from s0, t0 on only places and operands (of n, i) were written; or the same fault -/
def GD (c : Nat) (n i : Int) (s0 t0 s t : ST) : Prop := PS s t ∧ s0.1 34 2 ≤ s.1 34 2 ∧ s.2.2 34 4 = c ∧ (∀ p j, ¬ (p = 34 ∧ j = 2) → p ≠ c + 8 → p ≠ c + 9 → p ≠ c + 10 → s.1 p j = s0.1 p j) ∧ (∀ p j, ¬ (p = 70 ∧ j = 4) → p ≠ 83 → p ≠ 89 → t.1 p j = t0.1 p j) ∧ (∀ k x, 0 ≤ k → 0 ≤ x → (k = n ↔ x = i) → OE c k x s0 t0 → OE c k x s t)
def BQ (c : Nat) (s t : ST) : Prop := t.1 70 5 ≠ 0 ∧ BN (t.1 70 5) c s
def QQ (c : Nat) (n i : Int) (s0 t0 s t : ST) : Prop := GD c n i s0 t0 s t ∨ BQ c s t
theorem BD.bq {s t : ST} {c : Nat} (h : BD s t) (e : s.2.2 34 4 = c) : BQ c s t := ⟨by rw [← h.2]; exact h.1, fun _ => h.2, e⟩
theorem GD.mv {c : Nat} {n i : Int} {s0 t0 s t : ST} {p : Int} (hc : c = 2 ∨ c = 18) (h : GD c n i s0 t0 s t) (h1 : s.1 34 2 ≤ p) (h2 : p ≤ s.1 34 1) : GD c n i s0 t0 (sI s 34 2 p) (sI t 70 4 p) := by
  obtain ⟨a1, a2, a3, a4, a5, a6⟩ := h
  refine ⟨a1.mv (by have := a1.2.2.1; omega) h2, by rw [sI_eq]; omega, a3, fun q j b1 b2 b3 b4 => ?_, fun q j b1 b2 b3 => ?_, fun k x k0 x0 e o => ?_⟩
  · rw [sI_ne b1]; exact a4 q j b1 b2 b3 b4
  · rw [sI_ne b1]; exact a5 q j b1 b2 b3
  · have q := a6 k x k0 x0 e o
    unfold OE at q ⊢
    rw [sI_nc (show c + 9 ≠ 34 by omega), sI_nc (show c + 10 ≠ 34 by omega), sI_nc (show c + 8 ≠ 34 by omega), sI_nc (show 89 ≠ 70 by decide), sI_nc (show 83 ≠ 70 by decide)]
    exact q
theorem GD.wO {c k : Nat} {n i q a w : Int} {s0 t0 s t : ST} (hc : c = 2 ∨ c = 18) (n0 : 0 ≤ n) (i0 : 0 ≤ i) (hk : (k = 9 ∧ q = 0) ∨ (k = 10 ∧ q = 1)) (ov : OV a w) (h : GD c n i s0 t0 s t) : GD c n i s0 t0 (sI s (c + k) n.toNat a) (sI t 89 (2 * i + q).toNat w) := by
  obtain ⟨a1, a2, a3, a4, a5, a6⟩ := h
  refine ⟨(a1.wI (by omega) (by omega)).wJ (by decide) (by decide), by rw [sI_nc (p := 34) (by omega)]; exact a2, a3, fun p j b1 b2 b3 b4 => ?_, fun p j b1 b2 b3 => ?_, fun k' x k0 x0 e o => ?_⟩
  · rw [sI_ne (by omega)]; exact a4 p j b1 b2 b3 b4
  · rw [sI_ne (by omega)]; exact a5 p j b1 b2 b3
  · obtain ⟨o1, o2, o3⟩ := a6 k' x k0 x0 e o
    unfold OE
    rw [sI_nc (show c + 8 ≠ c + k by omega), sI_nc (show 83 ≠ 89 by decide)]
    rcases hk with ⟨k9, q0⟩ | ⟨k9, q0⟩
    · rw [k9, q0, sI_nc (show c + 10 ≠ c + 9 by omega), sI_ne (show ¬ (89 = 89 ∧ (2 * x + 1).toNat = (2 * i + 0).toNat) by omega)]
      refine ⟨?_, o2, o3⟩
      by_cases z : k' = n
      · rw [z, e.mp z, show 2 * i + 0 = 2 * i by omega, sI_eq, sI_eq]; exact ov
      · rw [sI_ne (show ¬ (c + 9 = c + 9 ∧ k'.toNat = n.toNat) by omega), sI_ne (show ¬ (89 = 89 ∧ (2 * x).toNat = (2 * i + 0).toNat) from fun y => z (e.mpr (by omega)))]; exact o1
    · rw [k9, q0, sI_nc (show c + 9 ≠ c + 10 by omega), sI_ne (show ¬ (89 = 89 ∧ (2 * x).toNat = (2 * i + 1).toNat) by omega)]
      refine ⟨o1, ?_, o3⟩
      by_cases z : k' = n
      · rw [z, e.mp z, sI_eq, sI_eq]; exact ov
      · rw [sI_ne (show ¬ (c + 10 = c + 10 ∧ k'.toNat = n.toNat) by omega), sI_ne (show ¬ (89 = 89 ∧ (2 * x + 1).toNat = (2 * i + 1).toNat) from fun y => z (e.mpr (by omega)))]; exact o2
theorem GD.wS {c : Nat} {n i a w : Int} {s0 t0 s t : ST} (hc : c = 2 ∨ c = 18) (n0 : 0 ≤ n) (i0 : 0 ≤ i) (sv : SV a w) (h : GD c n i s0 t0 s t) : GD c n i s0 t0 (sI s (c + 8) n.toNat a) (sI t 83 i.toNat w) := by
  obtain ⟨a1, a2, a3, a4, a5, a6⟩ := h
  refine ⟨(a1.wI (by omega) (by omega)).wJ (by decide) (by decide), by rw [sI_nc (p := 34) (by omega)]; exact a2, a3, fun p j b1 b2 b3 b4 => ?_, fun p j b1 b2 b3 => ?_, fun k' x k0 x0 e o => ?_⟩
  · rw [sI_ne (by omega)]; exact a4 p j b1 b2 b3 b4
  · rw [sI_ne (by omega)]; exact a5 p j b1 b2 b3
  · obtain ⟨o1, o2, o3⟩ := a6 k' x k0 x0 e o
    unfold OE
    rw [sI_nc (show c + 9 ≠ c + 8 by omega), sI_nc (show c + 10 ≠ c + 8 by omega), sI_nc (show 89 ≠ 83 by decide)]
    refine ⟨o1, o2, ?_⟩
    by_cases z : k' = n
    · rw [z, e.mp z, sI_eq, sI_eq]; exact sv
    · rw [sI_ne (show ¬ (c + 8 = c + 8 ∧ k'.toNat = n.toNat) by omega), sI_ne (show ¬ (83 = 83 ∧ x.toNat = i.toNat) from fun y => z (e.mpr (by omega)))]; exact o3
theorem GD.rfl {c : Nat} {n i : Int} {s t : ST} (h : PS s t) (e : s.2.2 34 4 = c) : GD c n i s t s t := ⟨h, Int.le_refl _, e, fun _ _ _ _ _ _ => _root_.rfl, fun _ _ _ _ _ => _root_.rfl, fun _ _ _ _ _ o => o⟩
theorem QQ.take {c : Nat} {n i : Int} {s0 t0 s t : ST} {a : Int} (hc : c = 2 ∨ c = 18) (ha : 0 ≤ a) (h : QQ c n i s0 t0 s t) : QQ c n i s0 t0 (f_X3_take s a) (f_X8_must t a) := by
  rcases h with h | h
  · rcases take_r (a := a) h.1 ha with ⟨p, q1, q2, e1, e2⟩ | q
    · rw [e1, e2]
      exact Or.inl (h.mv hc (by omega) q2)
    · refine Or.inr (q.bq ?_)
      exact (BN.take (b := 0) (s := s) ⟨fun z => absurd _root_.rfl z, h.2.2.1⟩).2
  · rw [must_f h.1]
    exact Or.inr ⟨h.1, h.2.take⟩
theorem QQ.oper {c : Nat} {s0 t0 s t : ST} {k : Nat} {n i q : Int} (hc : c = 2 ∨ c = 18) (n0 : 0 ≤ n) (i0 : 0 ≤ i) (hk : (k = 9 ∧ q = 0) ∨ (k = 10 ∧ q = 1)) (h : QQ c n i s0 t0 s t) : QQ c n i s0 t0 (sI (f_X3_readOperand s).1 (s.2.2 34 4 + k) n.toNat (f_X3_readOperand s).2) (f_X8_operand t i q) := by
  rcases h with h | h
  · rw [h.2.2.1]
    rcases oper_r (i := i) (k := q) h.1 with ⟨p, v, w, q1, q2, e1, e2, ov⟩ | z
    · rw [e1, e2, sI_sw (s := t) (by omega)]
      exact Or.inl (GD.wO hc n0 i0 hk ov (h.mv hc q1 q2))
    · refine Or.inr (BD.bq ⟨?_, ?_⟩ ?_)
      · rw [sI_ne (by omega)]; exact z.1
      · rw [sI_ne (by omega)]; exact z.2
      · exact (BN.oper (b := 0) (s := s) ⟨fun z => absurd _root_.rfl z, h.2.2.1⟩).2
  · rw [oper_f h.1]
    exact Or.inr ⟨h.1, BN.Ic hc h.2 h.2.oper (by omega)⟩

