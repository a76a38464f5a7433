/-! what the wiring leaves as it was, the entries of procedures aside -/
def WK (c : Nat) (s s' : ST) : Prop := s'.2 = s.2 ∧ ∀ p, p ≠ 42 → p ≠ 43 → p ≠ c + 11 → p ≠ c + 12 → p ≠ c + 13 → p ≠ c + 14 → p ≠ c + 15 → p ≠ c + 1 → s'.1 p = s.1 p
theorem WK.rfl {c : Nat} {s : ST} : WK c s s := ⟨_root_.rfl, fun _ _ _ _ _ _ _ _ _ => _root_.rfl⟩
theorem WK.tr {c : Nat} {s u w : ST} (a : WK c s u) (b : WK c u w) : WK c s w := ⟨b.1.trans a.1, fun p h1 h2 h3 h4 h5 h6 h7 h8 => (b.2 p h1 h2 h3 h4 h5 h6 h7 h8).trans (a.2 p h1 h2 h3 h4 h5 h6 h7 h8)⟩
theorem WK.I {c q j : Nat} {s u : ST} {x : Int} (a : WK c s u) (hq : q = 42 ∨ q = 43 ∨ q = c + 11 ∨ q = c + 12 ∨ q = c + 13 ∨ q = c + 14 ∨ q = c + 15 ∨ q = c + 1) : WK c s (sI u q j x) := ⟨a.1, fun p h1 h2 h3 h4 h5 h6 h7 h8 => (sI_nc (by omega)).trans (a.2 p h1 h2 h3 h4 h5 h6 h7 h8)⟩
theorem WK.b {c : Nat} {s : ST} {k f a own : Int} : WK c s (cWb s c k f a own) := ⟨cWb_r, fun p _ _ h3 h4 h5 h6 h7 _ => cWb_o h3 h4 h5 h6 h7⟩
/-! the ways that the class lays, beside the reference's -/
def en (p x : Int) : Int := if x = -1 then 40 + p else x
theorem en_n {p x : Int} (h : ¬ x = -1) : en p x = x := if_neg h
theorem en_1 {p : Int} : en p (-1) = 40 + p := if_pos rfl
def WQ (t : ST) (S : Int) (EN FI EO BH TB : Int → Int) : Prop := (∀ i, CJ t S i → EN i = if gI t 77 i = 6 then FI (gI t 85 i) else gI t 78 i) ∧ (∀ b, CB t S b → FI b = if gI t 90 b = -1 then EO b else EN (gI t 90 b)) ∧ (∀ b, CB t S b → EO b = if gI t 92 b = -1 then -1 else if gI t 77 (gI t 92 b) = 3 then gI t 78 (gI t 92 b) else BH (gI t 92 b)) ∧ (∀ i, CJ t S i → BH i = if gI t 87 i = -1 then EO (gI t 88 i) else EN (gI t 87 i)) ∧ (∀ b, CB t S b → TB b = if gI t 92 b = -1 then -1 else if gI t 77 (gI t 92 b) = 6 ∧ gI t 85 (gI t 92 b) = b then gI t 92 b else TB (gI t 88 (gI t 92 b))) ∧ (∀ i, CJ t S i → (gI t 77 i = 6 → ¬ gI t 85 i = -1 ∧ ¬ gI t 86 i = -1) ∧ (gI t 77 i = 2 ∨ gI t 77 i = 3 → ¬ gI t 85 i = -1)) ∧ (∀ i, CJ t S i → (gI t 92 (gI t 88 i) = -1 ∧ gI t 80 i = 0) ∨ (CJ t S (gI t 92 (gI t 88 i)) ∧ gI t 92 (gI t 88 i) < i ∧ gI t 80 (gI t 92 (gI t 88 i)) + 1 = gI t 80 i)) ∧ (∀ i, CJ t S i → 0 ≤ gI t 80 i ∧ gI t 80 i ≤ 6)
def CE (t : ST) (FI : Int → Int) (o : Int) : Int := en (gI t 79 o) (FI (gI t 86 o))
def CF (t : ST) (FI BH : Int → Int) (o : Int) : Int := if CE t FI o = en (gI t 79 o) (BH o) then -2 else CE t FI o
def vN (t : ST) (BH : Int → Int) (i : Int) : Int := en (gI t 79 i) (BH i)
def vS (t : ST) (FI BH : Int → Int) (i : Int) : Int := en (gI t 79 i) (if gI t 77 i = 2 ∧ ¬ gI t 86 i = -1 then FI (gI t 86 i) else BH i)
def cA (t : ST) (FI TB : Int → Int) (i : Int) : Int := if TB (gI t 88 i) = -1 then 40 + gI t 79 i else en (gI t 79 i) (FI (gI t 86 (TB (gI t 88 i))))
def vA (t : ST) (FI TB : Int → Int) (i : Int) : Int := if gI t 77 i = 5 then 40 + gI t 79 i else if gI t 77 i = 2 ∨ gI t 77 i = 3 then en (gI t 79 i) (FI (gI t 85 i)) else cA t FI TB i
def vV (t : ST) (TB : Int → Int) (i : Int) : Int := if TB (gI t 88 i) = -1 then -1 else gI t 82 (TB (gI t 88 i))
def vF (t : ST) (FI BH TB : Int → Int) (i : Int) : Int := if TB (gI t 88 i) = -1 then -2 else CF t FI BH (TB (gI t 88 i))
def GV (c : Nat) (t : ST) (S : Int) (FI BH TB : Int → Int) (q : Nat) (j : Int) : Int := if q = 42 then CE t FI (130 * S + j) else if q = 43 then CF t FI BH (130 * S + j) else if q = c + 11 then vN t BH (gI t 93 (40 * S + j)) else if q = c + 12 then vS t FI BH (gI t 93 (40 * S + j)) else if q = c + 13 then vA t FI TB (gI t 93 (40 * S + j)) else if q = c + 14 then vV t TB (gI t 93 (40 * S + j)) else vF t FI BH TB (gI t 93 (40 * S + j))
theorem GV_42 {c : Nat} {t : ST} {S : Int} {FI BH TB : Int → Int} {j : Int} : GV c t S FI BH TB 42 j = CE t FI (130 * S + j) := by unfold GV; rw [if_pos rfl]
theorem GV_43 {c : Nat} {t : ST} {S : Int} {FI BH TB : Int → Int} {j : Int} : GV c t S FI BH TB 43 j = CF t FI BH (130 * S + j) := by unfold GV; rw [if_neg (by decide), if_pos rfl]
theorem GV_11 {c : Nat} {t : ST} {S : Int} {FI BH TB : Int → Int} {j : Int} (hc : c = 2 ∨ c = 18) : GV c t S FI BH TB (c + 11) j = vN t BH (gI t 93 (40 * S + j)) := by unfold GV; rw [if_neg (show ¬ c + 11 = 42 by omega), if_neg (show ¬ c + 11 = 43 by omega), if_pos rfl]
theorem GV_12 {c : Nat} {t : ST} {S : Int} {FI BH TB : Int → Int} {j : Int} (hc : c = 2 ∨ c = 18) : GV c t S FI BH TB (c + 12) j = vS t FI BH (gI t 93 (40 * S + j)) := by unfold GV; rw [if_neg (show ¬ c + 12 = 42 by omega), if_neg (show ¬ c + 12 = 43 by omega), if_neg (show ¬ c + 12 = c + 11 by omega), if_pos rfl]
theorem GV_13 {c : Nat} {t : ST} {S : Int} {FI BH TB : Int → Int} {j : Int} (hc : c = 2 ∨ c = 18) : GV c t S FI BH TB (c + 13) j = vA t FI TB (gI t 93 (40 * S + j)) := by unfold GV; rw [if_neg (show ¬ c + 13 = 42 by omega), if_neg (show ¬ c + 13 = 43 by omega), if_neg (show ¬ c + 13 = c + 11 by omega), if_neg (show ¬ c + 13 = c + 12 by omega), if_pos rfl]
theorem GV_14 {c : Nat} {t : ST} {S : Int} {FI BH TB : Int → Int} {j : Int} (hc : c = 2 ∨ c = 18) : GV c t S FI BH TB (c + 14) j = vV t TB (gI t 93 (40 * S + j)) := by unfold GV; rw [if_neg (show ¬ c + 14 = 42 by omega), if_neg (show ¬ c + 14 = 43 by omega), if_neg (show ¬ c + 14 = c + 11 by omega), if_neg (show ¬ c + 14 = c + 12 by omega), if_neg (show ¬ c + 14 = c + 13 by omega), if_pos rfl]
theorem GV_15 {c : Nat} {t : ST} {S : Int} {FI BH TB : Int → Int} {j : Int} (hc : c = 2 ∨ c = 18) : GV c t S FI BH TB (c + 15) j = vF t FI BH TB (gI t 93 (40 * S + j)) := by unfold GV; rw [if_neg (show ¬ c + 15 = 42 by omega), if_neg (show ¬ c + 15 = 43 by omega), if_neg (show ¬ c + 15 = c + 11 by omega), if_neg (show ¬ c + 15 = c + 12 by omega), if_neg (show ¬ c + 15 = c + 13 by omega), if_neg (show ¬ c + 15 = c + 14 by omega)]
def WW (c q : Nat) : Prop := q = 42 ∨ q = 43 ∨ q = c + 11 ∨ q = c + 12 ∨ q = c + 13 ∨ q = c + 14 ∨ q = c + 15
def PRS (c : Nat) (G : Nat → Int → Int) (X Y : ST) : Prop := ∀ q j, WW c q → 0 ≤ j → X.1 q j.toNat = G q j → Y.1 q j.toNat = G q j
def PRk (c : Nat) (G : Nat → Int → Int) (k : Int) (X Y : ST) : Prop := ∀ q j, WW c q → 0 ≤ j → ¬ ((q = c + 12 ∨ q = c + 13) ∧ j = k) → X.1 q j.toNat = G q j → Y.1 q j.toNat = G q j
theorem PRS.rfl {c : Nat} {G : Nat → Int → Int} {X : ST} : PRS c G X X := fun _ _ _ _ h => h
theorem PRS.tr {c : Nat} {G : Nat → Int → Int} {X Y Z : ST} (a : PRS c G X Y) (b : PRS c G Y Z) : PRS c G X Z := fun q j h0 h1 h => b q j h0 h1 (a q j h0 h1 h)
theorem PRS.k {c : Nat} {G : Nat → Int → Int} {X Y : ST} {k : Int} (a : PRS c G X Y) : PRk c G k X Y := fun q j h0 h1 _ h => a q j h0 h1 h
theorem PRk.tr {c : Nat} {G : Nat → Int → Int} {X Y Z : ST} {k : Int} (a : PRk c G k X Y) (b : PRk c G k Y Z) : PRk c G k X Z := fun q j h0 h1 n h => b q j h0 h1 n (a q j h0 h1 n h)
theorem PRS.I {c q : Nat} {G : Nat → Int → Int} {X Y : ST} {j v : Int} (a : PRS c G X Y) (j0 : 0 ≤ j) (e : v = G q j) : PRS c G X (sI Y q j.toNat v) := by
  intro q' j' hw h0 hx
  by_cases z : q' = q ∧ j' = j
  · rw [z.1, z.2, sI_eq]; exact e
  · rw [sI_ne (by omega)]
    exact a q' j' hw h0 hx
theorem PRk.w {c q : Nat} {G : Nat → Int → Int} {X Y : ST} {k v : Int} (a : PRk c G k X Y) (k0 : 0 ≤ k) (hq : q = c + 12 ∨ q = c + 13) : PRk c G k X (sI Y q k.toNat v) := by
  intro q' j' hw h0 n hx
  rw [sI_ne (fun z => n ⟨by rw [z.1]; exact hq, by have := z.2; omega⟩)]
  exact a q' j' hw h0 n hx
theorem PRk.fin {c : Nat} {G : Nat → Int → Int} {X Y : ST} {k : Int} (a : PRk c G k X Y) (h2 : Y.1 (c + 12) k.toNat = G (c + 12) k) (h3 : Y.1 (c + 13) k.toNat = G (c + 13) k) : PRS c G X Y := by
  intro q j hw h0 hx
  by_cases z : (q = c + 12 ∨ q = c + 13) ∧ j = k
  · rw [z.2]
    rcases z.1 with y | y
    · rw [y]; exact h2
    · rw [y]; exact h3
  · exact a q j hw h0 z hx
def ALLR (c : Nat) (G : Nat → Int → Int) (X : ST) (k : Int) : Prop := X.1 (c + 11) k.toNat = G (c + 11) k ∧ X.1 (c + 12) k.toNat = G (c + 12) k ∧ X.1 (c + 13) k.toNat = G (c + 13) k ∧ X.1 (c + 14) k.toNat = G (c + 14) k ∧ X.1 (c + 15) k.toNat = G (c + 15) k
theorem PRS.all {c : Nat} {G : Nat → Int → Int} {X Y : ST} {k : Int} (a : PRS c G X Y) (k0 : 0 ≤ k) (h : ALLR c G X k) : ALLR c G Y k := ⟨a _ _ (by unfold WW; omega) k0 h.1, a _ _ (by unfold WW; omega) k0 h.2.1, a _ _ (by unfold WW; omega) k0 h.2.2.1, a _ _ (by unfold WW; omega) k0 h.2.2.2.1, a _ _ (by unfold WW; omega) k0 h.2.2.2.2⟩
/-- the items under a block, n levels of them -/
def UD (t : ST) (S : Int) : Nat → Int → Int → Prop
  | 0, _, _ => False
  | n + 1, b, i => (CJ t S i ∧ gI t 88 i = b) ∨ ∃ j, CJ t S j ∧ gI t 88 j = b ∧ (UD t S n (gI t 85 j) i ∨ UD t S n (gI t 86 j) i)
theorem UD.cj {t : ST} {S : Int} : ∀ {n : Nat} {b i : Int}, UD t S n b i → CJ t S i := by
  intro n
  induction n with
  | zero => intro b i h; exact absurd h (fun z => z)
  | succ n ih =>
    intro b i h
    rcases h with h | ⟨j, _, _, h | h⟩
    · exact h.1
    · exact ih h
    · exact ih h
theorem UD.no {t : ST} {S : Int} (S0 : 0 ≤ S) (h : ∀ i, CJ t S i → CB t S (gI t 88 i)) : ∀ {n : Nat} {i : Int}, ¬ UD t S n (-1) i := by
  intro n i
  cases n with
  | zero => exact fun z => z
  | succ n =>
    intro z
    rcases z with z | ⟨j, z1, z2, _⟩
    · have := (h i z.1).1
      have := z.2
      omega
    · have := (h j z1).1
      omega
theorem UD.mono {t : ST} {S : Int} : ∀ {n : Nat} {b i : Int}, UD t S n b i → UD t S (n + 1) b i := by
  intro n
  induction n with
  | zero => intro b i h; exact absurd h (fun z => z)
  | succ n ih =>
    intro b i h
    rcases h with h | ⟨j, h1, h2, h | h⟩
    · exact Or.inl h
    · exact Or.inr ⟨j, h1, h2, Or.inl (ih h)⟩
    · exact Or.inr ⟨j, h1, h2, Or.inr (ih h)⟩
theorem UD.le {t : ST} {S : Int} {n : Nat} {b i : Int} (h : UD t S n b i) : ∀ m : Nat, UD t S (n + m) b i := by
  intro m
  induction m with
  | zero => exact h
  | succ m ih => exact UD.mono ih
theorem UD.step {t : ST} {S : Int} {o i : Int} (ho : gI t 85 o = gI t 88 i ∨ gI t 86 o = gI t 88 i) (hi : CJ t S i) : ∀ {n : Nat} {b : Int}, UD t S n b o → UD t S (n + 1) b i := by
  intro n
  induction n with
  | zero => intro b h; exact absurd h (fun z => z)
  | succ n ih =>
    intro b h
    rcases h with h | ⟨j, h1, h2, h | h⟩
    · refine Or.inr ⟨o, h.1, h.2, ?_⟩
      rcases ho with z | z
      · exact Or.inl (Or.inl ⟨hi, z.symm⟩)
      · exact Or.inr (Or.inl ⟨hi, z.symm⟩)
    · exact Or.inr ⟨j, h1, h2, Or.inl (ih h)⟩
    · exact Or.inr ⟨j, h1, h2, Or.inr (ih h)⟩
/-- the catcher at hand -/
def CAT (t : ST) (S : Int) (TB : Int → Int) (G : Nat → Int → Int) (X : ST) (b a p : Int) : Prop := (TB b = -1 ∧ a = -1) ∨ (CJ t S (TB b) ∧ a = TB b - 130 * S ∧ gI t 77 (TB b) = 6 ∧ gI t 79 (TB b) = p ∧ X.1 42 a.toNat = G 42 a ∧ X.1 43 a.toNat = G 43 a)
theorem CAT.mv {c : Nat} {t : ST} {S : Int} {TB : Int → Int} {G : Nat → Int → Int} {X Y : ST} {b b' a p k : Int} (hc : c = 2 ∨ c = 18) (h : CAT t S TB G X b a p) (hp : PRk c G k X Y) (e : TB b' = TB b) : CAT t S TB G Y b' a p := by
  unfold CAT at *
  rw [e]
  rcases h with h | h
  · exact Or.inl h
  · have a0 : 0 ≤ a := by have := h.1.1; have := h.2.1; omega
    exact Or.inr ⟨h.1, h.2.1, h.2.2.1, h.2.2.2.1, hp 42 a (by unfold WW; omega) a0 (by omega) h.2.2.2.2.1, hp 43 a (by unfold WW; omega) a0 (by omega) h.2.2.2.2.2⟩
def WB (c : Nat) (S : Int) (s t : ST) (FI EO BH TB : Int → Int) (n : Nat) (wb : ST → Int → Int → Int → ST × Int) : Prop := ∀ (X : ST) (b f a p : Int), WK c s X → X.2.2 48 1 = c → (b = -1 ∨ (CB t S b ∧ f = en p (EO b) ∧ CAT t S TB (GV c t S FI BH TB) X b a p ∧ ∀ i, CJ t S i → gI t 88 i = b → gI t 79 i = p ∧ gI t 80 i + n = 7)) → (wb X (lc t S b) f a).2 = (if b = -1 then f else en p (FI b)) ∧ PRS c (GV c t S FI BH TB) X (wb X (lc t S b) f a).1 ∧ (∀ i, UD t S n b i → ¬ gI t 77 i = 6 → ALLR c (GV c t S FI BH TB) (wb X (lc t S b) f a).1 (gI t 78 i)) ∧ WK c s (wb X (lc t S b) f a).1
theorem cWb_v {s : ST} {c : Nat} {k f a own : Int} : (cWb s c k f a own).1 (c + 11) k.toNat = f ∧ (cWb s c k f a own).1 (c + 12) k.toNat = f ∧ (cWb s c k f a own).1 (c + 13) k.toNat = (if 0 ≤ a then s.1 42 a.toNat else 40 + own) ∧ (cWb s c k f a own).1 (c + 14) k.toNat = (if 0 ≤ a then s.1 41 a.toNat else -1) ∧ (cWb s c k f a own).1 (c + 15) k.toNat = (if 0 ≤ a then s.1 43 a.toNat else -2) := by
  unfold cWb
  by_cases z : 0 ≤ a
  · rw [if_pos z, if_pos z, if_pos z, if_pos z]
    refine ⟨?_, ?_, ?_, ?_, ?_⟩
    · rw [sI_nc (p := c + 11) (by omega), sI_nc (p := c + 11) (by omega), sI_nc (p := c + 11) (by omega), sI_nc (p := c + 11) (by omega), sI_eq]
    · rw [sI_nc (p := c + 12) (by omega), sI_nc (p := c + 12) (by omega), sI_nc (p := c + 12) (by omega), sI_eq]
    · rw [sI_nc (p := c + 13) (by omega), sI_nc (p := c + 13) (by omega), sI_eq]
    · rw [sI_nc (p := c + 14) (by omega), sI_eq]
    · rw [sI_eq]
  · rw [if_neg z, if_neg z, if_neg z, if_neg z]
    refine ⟨?_, ?_, ?_, ?_, ?_⟩
    · rw [sI_nc (p := c + 11) (by omega), sI_nc (p := c + 11) (by omega), sI_nc (p := c + 11) (by omega), sI_nc (p := c + 11) (by omega), sI_eq]
    · rw [sI_nc (p := c + 12) (by omega), sI_nc (p := c + 12) (by omega), sI_nc (p := c + 12) (by omega), sI_eq]
    · rw [sI_nc (p := c + 13) (by omega), sI_nc (p := c + 13) (by omega), sI_eq]
    · rw [sI_nc (p := c + 14) (by omega), sI_eq]
    · rw [sI_eq]
theorem cWb_j {s : ST} {c p j : Nat} {k f a own : Int} (h : j ≠ k.toNat) : (cWb s c k f a own).1 p j = s.1 p j := by
  unfold cWb
  split
  · rw [sI_ne (by omega), sI_ne (by omega), sI_ne (by omega), sI_ne (by omega), sI_ne (by omega)]
  · rw [sI_ne (by omega), sI_ne (by omega), sI_ne (by omega), sI_ne (by omega), sI_ne (by omega)]

