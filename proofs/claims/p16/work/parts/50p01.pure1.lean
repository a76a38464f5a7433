/-! THE READERS AS FUNCTIONS, side by side: tokens -/
theorem sI_eq (s : ST) (c j : Nat) (a : Int) : (sI s c j a).1 c j = a := by
  show (if c = c ∧ j = j then a else s.1 c j) = a
  rw [if_pos ⟨rfl, rfl⟩]
theorem sI_ne {s : ST} {c j p q : Nat} {a : Int} (h : ¬ (p = c ∧ q = j)) : (sI s c j a).1 p q = s.1 p q := by
  show (if p = c ∧ q = j then a else s.1 p q) = _
  rw [if_neg h]
theorem sI_nc {s : ST} {c j p : Nat} {a : Int} (h : p ≠ c) : (sI s c j a).1 p = s.1 p := funext fun q => sI_ne (fun z => h z.1)
theorem sI_same (s : ST) (c j : Nat) : sI s c j (s.1 c j) = s := by
  refine Prod.ext (funext fun p => funext fun q => ?_) rfl
  show (if p = c ∧ q = j then s.1 c j else s.1 p q) = s.1 p q
  by_cases h : p = c ∧ q = j
  · rw [if_pos h, h.1, h.2]
  · rw [if_neg h]
theorem sI_sI (s : ST) (c j : Nat) (a b : Int) : sI (sI s c j a) c j b = sI s c j b := by
  refine Prod.ext (funext fun p => funext fun q => ?_) rfl
  show (if p = c ∧ q = j then b else if p = c ∧ q = j then a else s.1 p q) = (if p = c ∧ q = j then b else s.1 p q)
  by_cases h : p = c ∧ q = j
  · rw [if_pos h, if_pos h]
  · rw [if_neg h, if_neg h, if_neg h]
theorem sI_sw {s : ST} {c j c' j' : Nat} {a b : Int} (h : ¬ (c = c' ∧ j = j')) : sI (sI s c j a) c' j' b = sI (sI s c' j' b) c j a := by
  refine Prod.ext (funext fun p => funext fun q => ?_) rfl
  show (if p = c' ∧ q = j' then b else if p = c ∧ q = j then a else s.1 p q) = (if p = c ∧ q = j then a else if p = c' ∧ q = j' then b else s.1 p q)
  by_cases h1 : p = c ∧ q = j
  · by_cases h2 : p = c' ∧ q = j'
    · exact absurd ⟨h1.1.symm.trans h2.1, h1.2.symm.trans h2.2⟩ h
    · rw [if_neg h2, if_pos h1, if_pos h1]
  · rw [if_neg h1, if_neg h1]
/-- where the blanks end; what lies there -/
def skp (t : Nat → Int) (len : Int) : Nat → Int → Int
  | 0, p => p
  | n + 1, p => if p < len ∧ (t p.toNat = 32 ∨ t p.toNat = 10) then skp t len n (p + 1) else p
def sk (t : Nat → Int) (len p : Int) : Int := skp t len (len - p).toNat p
def tok (t : Nat → Int) (len p : Int) : Int := if len ≤ p then -1 else o_iand (t p.toNat) 255
theorem sk_s {t : Nat → Int} {len p : Int} (h : p < len ∧ (t p.toNat = 32 ∨ t p.toNat = 10)) : sk t len p = sk t len (p + 1) := by
  unfold sk
  rw [show (len - p).toNat = (len - (p + 1)).toNat + 1 by omega, skp, if_pos h]
theorem sk_z {t : Nat → Int} {len p : Int} (h : ¬ (p < len ∧ (t p.toNat = 32 ∨ t p.toNat = 10))) : sk t len p = p := by
  unfold sk
  cases e : (len - p).toNat with
  | zero => rfl
  | succ n => rw [skp, if_neg h]
theorem sk_b {t : Nat → Int} {len : Int} : ∀ (n : Nat) {p : Int}, p ≤ len → len - p ≤ n → p ≤ sk t len p ∧ sk t len p ≤ len ∧ ¬ (sk t len p < len ∧ (t (sk t len p).toNat = 32 ∨ t (sk t len p).toNat = 10)) := by
  intro n
  induction n with
  | zero =>
    intro p h1 h2
    have h : ¬ (p < len ∧ (t p.toNat = 32 ∨ t p.toNat = 10)) := fun z => by have := z.1; omega
    rw [sk_z h]
    exact ⟨by omega, h1, h⟩
  | succ n ih =>
    intro p h1 h2
    by_cases h : p < len ∧ (t p.toNat = 32 ∨ t p.toNat = 10)
    · rw [sk_s h]
      have q := ih (p := p + 1) (by have := h.1; omega) (by omega)
      exact ⟨by omega, q.2⟩
    · rw [sk_z h]
      exact ⟨by omega, h1, h⟩
theorem sk_bd {t : Nat → Int} {len p : Int} (h : p ≤ len) : p ≤ sk t len p ∧ sk t len p ≤ len ∧ ¬ (sk t len p < len ∧ (t (sk t len p).toNat = 32 ∨ t (sk t len p).toNat = 10)) := sk_b (len - p).toNat h (by omega)
theorem sk_sk {t : Nat → Int} {len p : Int} (h : p ≤ len) : sk t len (sk t len p) = sk t len p := sk_z (sk_bd h).2.2
/-- both texts agree -/
def TX (t u : Nat → Int) (len : Int) : Prop := ∀ j : Nat, (j : Int) < len → t j = u j
theorem skp_c {t u : Nat → Int} {len : Int} (e : TX t u len) : ∀ (n : Nat) (p : Int), 0 ≤ p → skp t len n p = skp u len n p := by
  intro n
  induction n with
  | zero => intro p _; rfl
  | succ n ih =>
    intro p hp
    rw [skp, skp]
    by_cases h : p < len
    · rw [e p.toNat (by omega), ih (p + 1) (by omega)]
    · rw [if_neg (fun z => h z.1), if_neg (fun z => h z.1)]
theorem sk_c {t u : Nat → Int} {len p : Int} (e : TX t u len) (hp : 0 ≤ p) : sk t len p = sk u len p := skp_c e _ p hp
theorem tok_c {t u : Nat → Int} {len p : Int} (e : TX t u len) (hp : 0 ≤ p) : tok t len p = tok u len p := by
  unfold tok
  by_cases h : len ≤ p
  · rw [if_pos h, if_pos h]
  · rw [if_neg h, if_neg h, e p.toNat (by omega)]
theorem look_s (n k : Nat) (s : ST) : f_X3_look_ (n + 1) k s = if s.1 34 2 < s.1 34 1 ∧ (s.1 1 (s.1 34 2).toNat = 32 ∨ s.1 1 (s.1 34 2).toNat = 10) then f_X3_look_ n 0 (sI s 34 2 (s.1 34 2 + 1)) else (s, tok (s.1 1) (s.1 34 1) (s.1 34 2)) := by
  rw [f_X3_look_]
  simp only [bd, tok]
  by_cases h1 : s.1 34 1 ≤ s.1 34 2
  · rw [if_pos h1, if_pos h1, if_neg (fun z => by have := z.1; omega), if_pos h1]
  · rw [if_neg h1]
    by_cases h2 : s.1 1 (s.1 34 2).toNat = 32
    · rw [if_pos h2, if_pos ⟨by omega, Or.inl h2⟩]
    · rw [if_neg h2]
      by_cases h3 : s.1 1 (s.1 34 2).toNat = 10
      · rw [if_neg (fun z => z h3), if_pos ⟨by omega, Or.inr h3⟩]
      · rw [if_pos h3, if_neg h1, if_neg (fun z => z.2.elim h2 h3), if_neg h1]
theorem look_n : ∀ (n k : Nat) (s : ST), s.1 34 2 ≤ s.1 34 1 → s.1 34 1 - s.1 34 2 < n → f_X3_look_ n k s = (sI s 34 2 (sk (s.1 1) (s.1 34 1) (s.1 34 2)), tok (s.1 1) (s.1 34 1) (sk (s.1 1) (s.1 34 1) (s.1 34 2))) := by
  intro n
  induction n with
  | zero => intro k s h1 h2; omega
  | succ n ih =>
    intro k s h1 h2
    rw [look_s]
    by_cases h : s.1 34 2 < s.1 34 1 ∧ (s.1 1 (s.1 34 2).toNat = 32 ∨ s.1 1 (s.1 34 2).toNat = 10)
    · have e2 : (sI s 34 2 (s.1 34 2 + 1)).1 34 2 = s.1 34 2 + 1 := sI_eq _ _ _ _
      have e1 : (sI s 34 2 (s.1 34 2 + 1)).1 34 1 = s.1 34 1 := sI_ne (by omega)
      have e0 : (sI s 34 2 (s.1 34 2 + 1)).1 1 = s.1 1 := sI_nc (by omega)
      have h3 := h.1
      rw [if_pos h, ih 0 _ (by rw [e1, e2]; omega) (by rw [e1, e2]; omega), e0, e1, e2, sI_sI, ← sk_s h]
    · rw [if_neg h, sk_z h, sI_same]
theorem look_eq {s : ST} (h1 : s.1 34 2 ≤ s.1 34 1) (h2 : 0 ≤ s.1 34 2) (h3 : s.1 34 1 ≤ 500) : f_X3_look s = (sI s 34 2 (sk (s.1 1) (s.1 34 1) (s.1 34 2)), tok (s.1 1) (s.1 34 1) (sk (s.1 1) (s.1 34 1) (s.1 34 2))) := by
  unfold f_X3_look
  exact look_n _ _ s h1 (by omega)
theorem here_t (s : ST) (A : ST × Int) : (if s.1 70 3 ≤ s.1 70 4 then (if s.1 70 3 ≤ s.1 70 4 then ((s, (-1)) : ST × Int) else (s, o_iand (s.1 72 (s.1 70 4).toNat) 255)) else (if s.1 72 (s.1 70 4).toNat = 32 then A else (if ¬ s.1 72 (s.1 70 4).toNat = 10 then (if s.1 70 3 ≤ s.1 70 4 then (s, (-1)) else (s, o_iand (s.1 72 (s.1 70 4).toNat) 255)) else A))) = if s.1 70 4 < s.1 70 3 ∧ (s.1 72 (s.1 70 4).toNat = 32 ∨ s.1 72 (s.1 70 4).toNat = 10) then A else (s, tok (s.1 72) (s.1 70 3) (s.1 70 4)) := by
  unfold tok
  by_cases h1 : s.1 70 3 ≤ s.1 70 4
  · rw [if_pos h1, if_pos h1, if_neg (fun z => by have := z.1; omega), if_pos h1]
  · rw [if_neg h1]
    by_cases h2 : s.1 72 (s.1 70 4).toNat = 32
    · rw [if_pos h2, if_pos ⟨by omega, Or.inl h2⟩]
    · rw [if_neg h2]
      by_cases h3 : s.1 72 (s.1 70 4).toNat = 10
      · rw [if_neg (fun z => z h3), if_pos ⟨by omega, Or.inr h3⟩]
      · rw [if_pos h3, if_neg h1, if_neg (fun z => z.2.elim h2 h3), if_neg h1]
theorem here_s (n k : Nat) (s : ST) : f_X8_here_ (n + 1) k s = if (sI s 70 4 (s.1 70 4 + 1)).1 70 4 < (sI s 70 4 (s.1 70 4 + 1)).1 70 3 ∧ ((sI s 70 4 (s.1 70 4 + 1)).1 72 ((sI s 70 4 (s.1 70 4 + 1)).1 70 4).toNat = 32 ∨ (sI s 70 4 (s.1 70 4 + 1)).1 72 ((sI s 70 4 (s.1 70 4 + 1)).1 70 4).toNat = 10) then f_X8_here_ n 39 (sI s 70 4 (s.1 70 4 + 1)) else ((sI s 70 4 (s.1 70 4 + 1)), tok ((sI s 70 4 (s.1 70 4 + 1)).1 72) ((sI s 70 4 (s.1 70 4 + 1)).1 70 3) ((sI s 70 4 (s.1 70 4 + 1)).1 70 4)) := by
  rw [← here_t, f_X8_here_]
  simp only [bd]
  rw [show (sI s 70 4 (s.1 70 4 + 1)).1 70 4 = s.1 70 4 + 1 from sI_eq _ _ _ _]
theorem here_n : ∀ (n k : Nat) (s : ST), s.1 70 4 < s.1 70 3 → (s.1 72 (s.1 70 4).toNat = 32 ∨ s.1 72 (s.1 70 4).toNat = 10) → s.1 70 3 - s.1 70 4 ≤ n → f_X8_here_ n k s = (sI s 70 4 (sk (s.1 72) (s.1 70 3) (s.1 70 4)), tok (s.1 72) (s.1 70 3) (sk (s.1 72) (s.1 70 3) (s.1 70 4))) := by
  intro n
  induction n with
  | zero => intro k s h1 _ h2; omega
  | succ n ih =>
    intro k s h1 hb h2
    have e2 : (sI s 70 4 (s.1 70 4 + 1)).1 70 4 = s.1 70 4 + 1 := sI_eq _ _ _ _
    have e1 : (sI s 70 4 (s.1 70 4 + 1)).1 70 3 = s.1 70 3 := sI_ne (by omega)
    have e0 : (sI s 70 4 (s.1 70 4 + 1)).1 72 = s.1 72 := sI_nc (by omega)
    rw [here_s, sk_s ⟨h1, hb⟩]
    by_cases h : (sI s 70 4 (s.1 70 4 + 1)).1 70 4 < (sI s 70 4 (s.1 70 4 + 1)).1 70 3 ∧ ((sI s 70 4 (s.1 70 4 + 1)).1 72 ((sI s 70 4 (s.1 70 4 + 1)).1 70 4).toNat = 32 ∨ (sI s 70 4 (s.1 70 4 + 1)).1 72 ((sI s 70 4 (s.1 70 4 + 1)).1 70 4).toNat = 10)
    · rw [if_pos h, ih 39 _ h.1 h.2 (by rw [e1, e2]; omega), e0, e1, e2, sI_sI]
    · rw [if_neg h]
      rw [e0, e1, e2] at h ⊢
      rw [sk_z h]
theorem here_eq {s : ST} (h1 : s.1 70 4 ≤ s.1 70 3) (h2 : 0 ≤ s.1 70 4) (h3 : s.1 70 3 ≤ 500) : f_X8_here s = (sI s 70 4 (sk (s.1 72) (s.1 70 3) (s.1 70 4)), tok (s.1 72) (s.1 70 3) (sk (s.1 72) (s.1 70 3) (s.1 70 4))) := by
  unfold f_X8_here
  simp only [bd]
  rw [here_t]
  by_cases h : s.1 70 4 < s.1 70 3 ∧ (s.1 72 (s.1 70 4).toNat = 32 ∨ s.1 72 (s.1 70 4).toNat = 10)
  · rw [if_pos h, here_n _ _ s h.1 h.2 (by omega)]
  · rw [if_neg h, sk_z h, sI_same]

