/-! both readers stand at one place, nothing is blamed -/
def PS (s t : ST) : Prop := s.1 34 1 = t.1 70 3 ∧ s.1 34 2 = t.1 70 4 ∧ 0 ≤ s.1 34 2 ∧ s.1 34 2 ≤ s.1 34 1 ∧ s.1 34 1 ≤ 500 ∧ TX (s.1 1) (t.1 72) (s.1 34 1) ∧ s.1 34 3 = 0 ∧ t.1 70 5 = 0
theorem PS.mv {s t : ST} {p : Int} (h : PS s t) (h0 : 0 ≤ p) (h1 : p ≤ s.1 34 1) : PS (sI s 34 2 p) (sI t 70 4 p) := by
  obtain ⟨a1, a2, a3, a4, a5, a6, a7, a8⟩ := h
  unfold PS
  rw [sI_eq, sI_eq, sI_ne (p := 34) (q := 1) (by omega), sI_ne (p := 70) (q := 3) (by omega), sI_ne (p := 34) (q := 3) (by omega), sI_ne (p := 70) (q := 5) (by omega), sI_nc (p := 1) (by omega), sI_nc (p := 72) (by omega)]
  exact ⟨a1, rfl, h0, h1, a5, a6, a7, a8⟩
theorem PS.wI {s t : ST} {c j : Nat} {a : Int} (h : PS s t) (h1 : c ≠ 34) (h2 : c ≠ 1) : PS (sI s c j a) t := by
  unfold PS at *
  rw [sI_nc (p := 34) (by omega), sI_nc (p := 1) (by omega)]
  exact h
theorem PS.wJ {s t : ST} {c j : Nat} {a : Int} (h : PS s t) (h1 : c ≠ 70) (h2 : c ≠ 72) : PS s (sI t c j a) := by
  unfold PS at *
  rw [sI_nc (p := 70) (by omega), sI_nc (p := 72) (by omega)]
  exact h
theorem PS.wL {s t : ST} {c j : Nat} {a : Int64} (h : PS s t) : PS (sL s c j a) t := h
theorem o_byte (x : Int) : 0 ≤ o_iand x 255 ∧ o_iand x 255 ≤ 255 := by
  unfold o_iand p_iand
  exact ti_mask (y := Int32.ofInt 255) (b := 255) (ti_c (by decide)) (by omega)
theorem look_r {s t : ST} (h : PS s t) : ∃ p v, f_X3_look s = (sI s 34 2 p, v) ∧ f_X8_here t = (sI t 70 4 p, v) ∧ s.1 34 2 ≤ p ∧ p ≤ s.1 34 1 ∧ (v = -1 ∧ p = s.1 34 1 ∨ 0 ≤ v ∧ v ≤ 255 ∧ p < s.1 34 1) ∧ v = tok (s.1 1) (s.1 34 1) p ∧ sk (s.1 1) (s.1 34 1) p = p := by
  obtain ⟨a1, a2, a3, a4, a5, a6, a7, a8⟩ := h
  have q := sk_bd (t := s.1 1) a4
  refine ⟨sk (s.1 1) (s.1 34 1) (s.1 34 2), tok (s.1 1) (s.1 34 1) (sk (s.1 1) (s.1 34 1) (s.1 34 2)), look_eq a4 a3 a5, ?_, q.1, q.2.1, ?_, rfl, sk_sk a4⟩
  · rw [here_eq (by omega) (by omega) (by omega), ← a1, ← a2, sk_c a6 a3, tok_c a6 (by rw [← sk_c a6 a3]; omega)]
  · unfold tok
    by_cases h1 : s.1 34 1 ≤ sk (s.1 1) (s.1 34 1) (s.1 34 2)
    · rw [if_pos h1]
      exact Or.inl ⟨rfl, by omega⟩
    · rw [if_neg h1]
      exact Or.inr ⟨(o_byte _).1, (o_byte _).2, by omega⟩
theorem good_1 {t : ST} (h : t.1 70 5 = 0) : f_X8_isGood t = 1 := by
  unfold f_X8_isGood
  simp only [bd]
  rw [if_neg (fun z => z h)]
theorem good_0 {t : ST} (h : t.1 70 5 ≠ 0) : f_X8_isGood t = 0 := by
  unfold f_X8_isGood
  simp only [bd]
  rw [if_pos h]
theorem blame_0 {s : ST} {k p : Int} (h : s.1 34 3 = 0) : f_X3_blame s k p = sI s 34 3 (k + 8 * p) := by
  unfold f_X3_blame
  simp only [bd]
  rw [if_neg (fun z => z h)]
theorem blame_1 {s : ST} {k p : Int} (h : s.1 34 3 ≠ 0) : f_X3_blame s k p = s := by
  unfold f_X3_blame
  simp only [bd]
  rw [if_pos h]
theorem fails_0 {t : ST} {k : Int} (h : t.1 70 5 = 0) : f_X8_fails t k = sI t 70 5 (k + 8 * t.1 70 4) := by
  unfold f_X8_fails
  simp only [bd]
  rw [if_neg (fun z => z h)]
/-- the same fault on both sides -/
def BD (s t : ST) : Prop := s.1 34 3 ≠ 0 ∧ s.1 34 3 = t.1 70 5
theorem BD.mk2 {s t : ST} {k p : Int} (h : PS s t) (hk : 1 ≤ k) (hp : p = t.1 70 4) : BD (f_X3_blame s k p) (f_X8_fails t k) := by
  obtain ⟨a1, a2, a3, a4, a5, a6, a7, a8⟩ := h
  rw [blame_0 a7, fails_0 a8, hp]
  unfold BD
  rw [sI_eq, sI_eq]
  exact ⟨by omega, rfl⟩
theorem take_r {s t : ST} {a : Int} (h : PS s t) (ha : 0 ≤ a) : (∃ p, s.1 34 2 < p ∧ p ≤ s.1 34 1 ∧ f_X3_take s a = sI s 34 2 p ∧ f_X8_must t a = sI t 70 4 p) ∨ BD (f_X3_take s a) (f_X8_must t a) := by
  obtain ⟨p, v, e1, e2, h1, h2, h3, -, -⟩ := look_r h
  have h0 := h.2.2.1
  have hp := h.mv (p := p) (by omega) h2
  unfold f_X3_take f_X8_must
  simp only [bd, bd2]
  rw [good_1 h.2.2.2.2.2.2.2, e1, e2, if_pos (show ¬ (1 : Int) = 0 by omega)]
  dsimp only
  rw [sI_eq, sI_eq, sI_sI, sI_sI]
  by_cases q : v = a
  · refine Or.inl ⟨p + 1, by omega, ?_, ?_, ?_⟩
    · rcases h3 with h3 | h3 <;> omega
    · rw [if_neg (fun z => z q)]
    · rw [if_neg (fun z => z q)]
  · rw [if_pos q, if_pos q]
    exact Or.inr (BD.mk2 hp (by omega) (sI_eq _ _ _ _).symm)
def dgp (t : Nat → Int) (len : Int) : Nat → Int → Int
  | 0, p => p
  | n + 1, p => if p < len ∧ (48 ≤ t p.toNat ∧ t p.toNat ≤ 57) then dgp t len n (p + 1) else p
def dg (t : Nat → Int) (len p : Int) : Int := dgp t len (len - p).toNat p
theorem dg_s {t : Nat → Int} {len p : Int} (h : p < len ∧ (48 ≤ t p.toNat ∧ t p.toNat ≤ 57)) : dg t len p = dg t len (p + 1) := by
  unfold dg
  rw [show (len - p).toNat = (len - (p + 1)).toNat + 1 by omega, dgp, if_pos h]
theorem dg_z {t : Nat → Int} {len p : Int} (h : ¬ (p < len ∧ (48 ≤ t p.toNat ∧ t p.toNat ≤ 57))) : dg t len p = p := by
  unfold dg
  cases e : (len - p).toNat with
  | zero => rfl
  | succ n => rw [dgp, if_neg h]
theorem dg_b {t : Nat → Int} {len : Int} : ∀ (n : Nat) {p : Int}, p ≤ len → len - p ≤ n → p ≤ dg t len p ∧ dg t len p ≤ len := by
  intro n
  induction n with
  | zero =>
    intro p h1 h2
    rw [dg_z (fun z => by have := z.1; omega)]
    exact ⟨by omega, h1⟩
  | succ n ih =>
    intro p h1 h2
    by_cases h : p < len ∧ (48 ≤ t p.toNat ∧ t p.toNat ≤ 57)
    · rw [dg_s h]
      have q := ih (p := p + 1) (by have := h.1; omega) (by omega)
      exact ⟨by omega, q.2⟩
    · rw [dg_z h]
      exact ⟨by omega, h1⟩
theorem dg_bd {t : Nat → Int} {len p : Int} (h : p ≤ len) : p ≤ dg t len p ∧ dg t len p ≤ len := dg_b (len - p).toNat h (by omega)
theorem dgp_c {t u : Nat → Int} {len : Int} (e : TX t u len) : ∀ (n : Nat) (p : Int), 0 ≤ p → dgp t len n p = dgp u len n p := by
  intro n
  induction n with
  | zero => intro p _; rfl
  | succ n ih =>
    intro p hp
    rw [dgp, dgp]
    by_cases h : p < len
    · rw [e p.toNat (by omega), ih (p + 1) (by omega)]
    · rw [if_neg (fun z => h z.1), if_neg (fun z => h z.1)]
theorem dg_c {t u : Nat → Int} {len p : Int} (e : TX t u len) (hp : 0 ≤ p) : dg t len p = dg u len p := dgp_c e _ p hp
theorem isDigit_1 {s : ST} {x : Int} (h : 48 ≤ x ∧ x ≤ 57) : f_X3_isDigit s x = 1 := by
  unfold f_X3_isDigit
  rw [if_neg (by omega), if_neg (by omega)]
theorem isDigit_0 {s : ST} {x : Int} (h : ¬ (48 ≤ x ∧ x ≤ 57)) : f_X3_isDigit s x = 0 := by
  unfold f_X3_isDigit
  by_cases q : x < 48
  · rw [if_pos q]
  · rw [if_neg q, if_pos (by omega)]
theorem isIn_1 {s : ST} {x a b : Int} (h : a ≤ x ∧ x ≤ b) : f_X8_isIn s x a b = 1 := by
  unfold f_X8_isIn
  rw [if_neg (by omega), if_neg (by omega)]
theorem isIn_0 {s : ST} {x a b : Int} (h : ¬ (a ≤ x ∧ x ≤ b)) : f_X8_isIn s x a b = 0 := by
  unfold f_X8_isIn
  by_cases q : x < a
  · rw [if_pos q]
  · rw [if_neg q, if_pos (by omega)]
def dvp (t : Nat → Int) (len : Int) : Nat → Int → Int → Int
  | 0, _, v => v
  | n + 1, p, v => if p < len ∧ (48 ≤ t p.toNat ∧ t p.toNat ≤ 57) then dvp t len n (p + 1) (10 * v + t p.toNat - 48) else v
def dv (t : Nat → Int) (len p v : Int) : Int := dvp t len (len - p).toNat p v
theorem dv_s {t : Nat → Int} {len p v : Int} (h : p < len ∧ (48 ≤ t p.toNat ∧ t p.toNat ≤ 57)) : dv t len p v = dv t len (p + 1) (10 * v + t p.toNat - 48) := by
  unfold dv
  rw [show (len - p).toNat = (len - (p + 1)).toNat + 1 by omega, dvp, if_pos h]
theorem dv_z {t : Nat → Int} {len p v : Int} (h : ¬ (p < len ∧ (48 ≤ t p.toNat ∧ t p.toNat ≤ 57))) : dv t len p v = v := by
  unfold dv
  cases e : (len - p).toNat with
  | zero => rfl
  | succ n => rw [dvp, if_neg h]
theorem dvp_c {t u : Nat → Int} {len : Int} (e : TX t u len) : ∀ (n : Nat) (p v : Int), 0 ≤ p → dvp t len n p v = dvp u len n p v := by
  intro n
  induction n with
  | zero => intro p v _; rfl
  | succ n ih =>
    intro p v hp
    rw [dvp, dvp]
    by_cases h : p < len
    · rw [e p.toNat (by omega), ih (p + 1) _ (by omega)]
    · rw [if_neg (fun z => h z.1), if_neg (fun z => h z.1)]
theorem dv_c {t u : Nat → Int} {len p v : Int} (e : TX t u len) (hp : 0 ≤ p) : dv t len p v = dv u len p v := dvp_c e _ p v hp
/-- how large a number is behind some digits -/
def DB (d v : Int) : Prop := 0 ≤ d ∧ 0 ≤ v ∧ v ≤ 999 ∧ (d ≤ 2 → v ≤ 99) ∧ (d ≤ 1 → v ≤ 9) ∧ (d ≤ 0 → v ≤ 0)
theorem iadd_r {a b : Int} (h0 : -2147483648 ≤ a + b) (h1 : a + b ≤ 2147483647) : o_iadd a b = a + b := by
  unfold o_iadd p_iadd
  rw [← Int32.ofInt_add]
  exact Int32.toInt_ofInt_of_le (by omega) (by omega)
theorem num_tab : ∀ v : Fin 100, ∀ d : Fin 10, o_isub (o_iadd (o_imul (v.val : Int) 10) ((d.val : Int) + 48)) 48 = 10 * (v.val : Int) + (d.val : Int) := by decide +kernel
theorem num_1 {v x : Int} (v0 : 0 ≤ v) (v1 : v ≤ 99) (h : 48 ≤ x ∧ x ≤ 57) : o_isub (o_iadd (o_imul v 10) x) 48 = 10 * v + x - 48 := by
  have t := num_tab ⟨v.toNat, by omega⟩ ⟨(x - 48).toNat, by omega⟩
  dsimp only at t
  rw [show ((v.toNat : Nat) : Int) = v by omega, show (((x - 48).toNat : Nat) : Int) = x - 48 by omega, show x - 48 + 48 = x by omega] at t
  omega
theorem num_n : ∀ (n k : Nat) (l1 l2 : Int) (s : ST), s.1 34 2 ≤ s.1 34 1 → s.1 34 1 - s.1 34 2 < n → ∃ v, f_X3_readNumber_ n k l1 l2 s = (if dg (s.1 1) (s.1 34 1) (s.1 34 2) - l1 ≤ 3 then sI s 34 2 (dg (s.1 1) (s.1 34 1) (s.1 34 2)) else f_X3_blame (sI s 34 2 (dg (s.1 1) (s.1 34 1) (s.1 34 2))) 2 l1, v) ∧ (dg (s.1 1) (s.1 34 1) (s.1 34 2) - l1 ≤ 3 → DB (s.1 34 2 - l1) l2 → v = dv (s.1 1) (s.1 34 1) (s.1 34 2) l2 ∧ 0 ≤ v ∧ v ≤ 999) := by
  intro n
  induction n with
  | zero => intro k l1 l2 s h1 h2; omega
  | succ n ih =>
    intro k l1 l2 s h1 h2
    rw [f_X3_readNumber_]
    simp only [bd]
    by_cases h : s.1 34 2 < s.1 34 1 ∧ (48 ≤ s.1 1 (s.1 34 2).toNat ∧ s.1 1 (s.1 34 2).toNat ≤ 57)
    · have e2 : (sI s 34 2 (s.1 34 2 + 1)).1 34 2 = s.1 34 2 + 1 := sI_eq _ _ _ _
      have e1 : (sI s 34 2 (s.1 34 2 + 1)).1 34 1 = s.1 34 1 := sI_ne (by omega)
      have e0 : (sI s 34 2 (s.1 34 2 + 1)).1 1 = s.1 1 := sI_nc (by omega)
      have h3 := h.1
      rw [if_neg (by omega), isDigit_1 h.2, if_neg (by omega), dg_s h]
      by_cases h4 : 3 ≤ s.1 34 2 - l1
      · rw [if_pos h4]
        obtain ⟨v, e, _⟩ := ih 7 l1 l2 (sI s 34 2 (s.1 34 2 + 1)) (by rw [e1, e2]; omega) (by rw [e1, e2]; omega)
        rw [e0, e1, e2, sI_sI] at e
        refine ⟨v, e, fun z _ => ?_⟩
        have b := (dg_bd (t := s.1 1) (len := s.1 34 1) (p := s.1 34 2 + 1) (by omega)).1
        omega
      · rw [if_neg h4]
        obtain ⟨v, e, f⟩ := ih 7 l1 (o_isub (o_iadd (o_imul l2 10) (s.1 1 (s.1 34 2).toNat)) 48) (sI s 34 2 (s.1 34 2 + 1)) (by rw [e1, e2]; omega) (by rw [e1, e2]; omega)
        rw [e0, e1, e2, sI_sI] at e
        rw [e0, e1, e2] at f
        refine ⟨v, e, fun z w => ?_⟩
        obtain ⟨wd, w0, w1, w2, w3, w4⟩ := w
        have d := h.2
        have q := num_1 w0 (w2 (by omega)) h.2
        rw [q] at f
        rw [dv_s h]
        exact f z ⟨by omega, by omega, by have := w2 (by omega); omega, fun y => by have := w3 (by omega); omega, fun y => by have := w4 (by omega); omega, fun y => by omega⟩
    · rw [dg_z h, sI_same]
      refine ⟨l2, ?_, fun _ w => ⟨(dv_z h).symm, w.2.1, w.2.2.1⟩⟩
      have fin : (if s.1 34 2 - l1 ≤ 3 then ((s, l2) : ST × Int) else (f_X3_blame s 2 l1, l2)) = (if s.1 34 2 - l1 ≤ 3 then s else f_X3_blame s 2 l1, l2) := by split <;> rfl
      by_cases h5 : s.1 34 1 ≤ s.1 34 2
      · rw [if_pos h5]; exact fin
      · rw [if_neg h5, isDigit_0 (fun z => h ⟨by omega, z⟩), if_pos rfl]; exact fin
theorem opn_n : ∀ (n k : Nat) (l1 l2 l5 l6 : Int) (t : ST), l6 ≤ t.1 70 3 → t.1 70 3 - l6 < n → t.1 70 5 = 0 → ∃ v, (f_X8_operand_ n k l1 l2 l5 l6 t = if dg (t.1 72) (t.1 70 3) l6 - t.1 70 4 ≤ 3 then sI (sI t 89 (2 * l1 + l2).toNat v) 70 4 (dg (t.1 72) (t.1 70 3) l6) else sI (sI t 70 5 (2 + 8 * t.1 70 4)) 89 (2 * l1 + l2).toNat v) ∧ (dg (t.1 72) (t.1 70 3) l6 - t.1 70 4 ≤ 3 → v = dv (t.1 72) (t.1 70 3) l6 l5) := by
  intro n
  induction n with
  | zero => intro k l1 l2 l5 l6 t h1 h2; omega
  | succ n ih =>
    intro k l1 l2 l5 l6 t h1 h2 h0
    rw [f_X8_operand_]
    simp only [bd]
    by_cases h : l6 < t.1 70 3 ∧ (48 ≤ t.1 72 l6.toNat ∧ t.1 72 l6.toNat ≤ 57)
    · have h3 := h.1
      rw [if_neg (by omega), isIn_1 h.2, if_neg (by omega), dg_s h]
      by_cases h4 : 4 ≤ l6 - t.1 70 4
      · rw [if_pos h4]
        obtain ⟨v, e, _⟩ := ih 78 l1 l2 l5 (l6 + 1) t (by omega) (by omega) h0
        refine ⟨v, e, fun z => ?_⟩
        have b := (dg_bd (t := t.1 72) (len := t.1 70 3) (p := l6 + 1) (by omega)).1
        omega
      · rw [if_neg h4]
        rw [dv_s h]
        exact ih 78 l1 l2 _ (l6 + 1) t (by omega) (by omega) h0
    · rw [dg_z h]
      refine ⟨l5, ?_, fun _ => (dv_z h).symm⟩
      have fin : (if l6 - t.1 70 4 ≤ 3 then (if f_X8_isGood (sI t 89 (2 * l1 + l2).toNat l5) = 0 then sI t 89 (2 * l1 + l2).toNat l5 else sI (sI t 89 (2 * l1 + l2).toNat l5) 70 4 l6) else (if f_X8_isGood (sI (f_X8_fails t 2) 89 (2 * l1 + l2).toNat l5) = 0 then sI (f_X8_fails t 2) 89 (2 * l1 + l2).toNat l5 else sI (sI (f_X8_fails t 2) 89 (2 * l1 + l2).toNat l5) 70 4 l6)) = if l6 - t.1 70 4 ≤ 3 then sI (sI t 89 (2 * l1 + l2).toNat l5) 70 4 l6 else sI (sI t 70 5 (2 + 8 * t.1 70 4)) 89 (2 * l1 + l2).toNat l5 := by
        by_cases q : l6 - t.1 70 4 ≤ 3
        · rw [if_pos q, if_pos q, good_1 (by rw [sI_ne (by omega)]; exact h0), if_neg (by omega)]
        · rw [if_neg q, if_neg q, fails_0 h0]
          by_cases q2 : (2 + 8 * t.1 70 4) = 0
          · exfalso; omega
          · rw [good_0 (by rw [sI_ne (by omega), sI_eq]; exact q2), if_pos rfl]
      by_cases h5 : t.1 70 3 ≤ l6
      · rw [if_pos h5]; exact fin
      · rw [if_neg h5, isIn_0 (fun z => h ⟨by omega, z⟩), if_pos rfl]; exact fin
theorem nameOf_r (s : ST) (x : Int) : f_X3_nameOf s x = if 97 ≤ x ∧ x ≤ 102 then x - 97 else if 119 ≤ x ∧ x ≤ 122 then 6 + x - 119 else -1 := by
  unfold f_X3_nameOf
  by_cases h1 : x < 97
  · rw [if_pos h1, if_neg (show ¬ (97 ≤ x ∧ x ≤ 102) by omega), if_neg (show ¬ (119 ≤ x ∧ x ≤ 122) by omega)]
  · rw [if_neg h1]
    by_cases h2 : 102 < x
    · rw [if_pos h2, if_neg (show ¬ (97 ≤ x ∧ x ≤ 102) by omega)]
      by_cases h3 : x < 119
      · rw [if_pos h3, if_neg (show ¬ (119 ≤ x ∧ x ≤ 122) by omega)]
      · rw [if_neg h3]
        by_cases h4 : 122 < x
        · rw [if_pos h4, if_neg (show ¬ (119 ≤ x ∧ x ≤ 122) by omega)]
        · rw [if_neg h4, if_pos (show 119 ≤ x ∧ x ≤ 122 by omega)]
    · rw [if_neg h2, if_pos (show 97 ≤ x ∧ x ≤ 102 by omega)]

