/-! the turns of the first reader -/
def cT (s : ST) : ST := if ¬ (f_X3_look s).1.1 34 7 = 0 then (if ¬ (f_X3_look s).2 = 125 then (if ¬ (f_X3_look s).2 = 37 then f_X3_readStatement (f_X3_look s).1 (f_X3_look s).2 else f_X3_readTry (f_X3_look s).1) else f_X3_closeBlock (f_X3_look s).1) else f_X3_readProcedure (f_X3_look s).1
def RT1 (s s' : ST) : Prop := s.1 34 3 = 0 ∧ s' = cT s ∧ (¬ (f_X3_look s).1.1 34 7 = 0 ∨ ¬ (f_X3_look s).2 = -1) ∧ (s'.1 34 3 = 0 → s.1 34 2 < s'.1 34 2 ∧ s'.1 34 2 ≤ 500)
def RUN : Nat → ST → ST → Prop
  | 0, s, s' => s' = s
  | k + 1, s, s' => ∃ s1, RT1 s s1 ∧ RUN k s1 s'
theorem RUN.tr : ∀ {a b : Nat} {s s1 s2 : ST}, RUN a s s1 → RUN b s1 s2 → RUN (a + b) s s2 := by
  intro a
  induction a with
  | zero => intro b s s1 s2 h g; rw [Nat.zero_add]; have h' : s1 = s := h; rw [h'] at g; exact g
  | succ a ih =>
    intro b s s1 s2 h g
    obtain ⟨x, h1, h2⟩ := h
    rw [Nat.succ_add]
    exact ⟨x, h1, ih h2 g⟩
theorem RUN.one {s s' : ST} (h : RT1 s s') : RUN 1 s s' := ⟨s', h, rfl⟩
theorem RUN.bound : ∀ {k : Nat} {s s' : ST}, RUN k s s' → 0 ≤ s.1 34 2 → s.1 34 2 ≤ 500 → (k : Int) ≤ 501 - s.1 34 2 := by
  intro k
  induction k with
  | zero => intro s s' _ h0 h1; omega
  | succ k ih =>
    intro s s' h h0 h1
    obtain ⟨x, a, b⟩ := h
    cases k with
    | zero => omega
    | succ k =>
      have hx : x.1 34 3 = 0 := by obtain ⟨y, c, _⟩ := b; exact c.1
      have q := a.2.2.2 hx
      have := ih b (by omega) q.2
      omega
theorem RUN.bound2 : ∀ {k : Nat} {s s' : ST}, RUN k s s' → s'.1 34 3 = 0 → (k : Int) ≤ s'.1 34 2 - s.1 34 2 := by
  intro k
  induction k with
  | zero => intro s s' h _; have h' : s' = s := h; rw [h']; omega
  | succ k ih =>
    intro s s' h h0
    obtain ⟨x, a, b⟩ := h
    have hx : x.1 34 3 = 0 := by
      cases k with
      | zero => have b' : s' = x := b; rw [← b']; exact h0
      | succ k => obtain ⟨y, c, _⟩ := b; exact c.1
    have q := a.2.2.2 hx
    have := ih b h0
    omega
theorem read_s {n k : Nat} {l : Int} {s : ST} (h0 : s.1 34 3 = 0) (hl : l ≤ 500) (hx : ¬ (f_X3_look s).1.1 34 7 = 0 ∨ ¬ (f_X3_look s).2 = -1) : f_X3_read_ (n + 1) k l s = f_X3_read_ n 14 (l + 1) (cT s) := by
  rw [f_X3_read_]
  simp only [bd, bd2]
  rw [if_neg (show ¬ 500 < l by omega), if_neg (fun z => z h0)]
  unfold cT
  by_cases o : (f_X3_look s).1.1 34 7 = 0
  · have o' : ¬ ¬ (f_X3_look s).1.1 34 7 = 0 := fun z => z o
    rw [if_neg o', if_neg o']
    rcases hx with z | z
    · exact absurd o z
    · rw [if_pos z]
  · rw [if_pos o, if_pos o]
    by_cases p : (f_X3_look s).2 = 125
    · rw [if_neg (fun z => z p), if_neg (fun z => z p)]
    · rw [if_pos p, if_pos p]
      by_cases q : (f_X3_look s).2 = 37
      · rw [if_neg (fun z => z q), if_neg (fun z => z q)]
      · rw [if_pos q, if_pos q]
theorem read_run : ∀ {k n m : Nat} {l : Int} {s s' : ST}, RUN k s s' → l + k ≤ 501 → ∃ m', f_X3_read_ (n + k) m l s = f_X3_read_ n m' (l + k) s' ∧ (k = 0 → m' = m) := by
  intro k
  induction k with
  | zero => intro n m l s s' h _; have h' : s' = s := h; rw [h']; exact ⟨m, by rw [Nat.add_zero, show l + ((0 : Nat) : Int) = l by omega], fun _ => rfl⟩
  | succ k ih =>
    intro n m l s s' h hl
    obtain ⟨x, a, b⟩ := h
    obtain ⟨m', e, _⟩ := ih (n := n) (m := 14) (l := l + 1) b (by omega)
    refine ⟨m', ?_, fun z => by omega⟩
    rw [← Nat.add_assoc, read_s a.1 (by omega) a.2.2.1, ← a.2.1, e]
    rw [show l + 1 + (k : Int) = l + ((k + 1 : Nat) : Int) by omega]
theorem fin_b {s : ST} (h : s.1 34 3 ≠ 0) : f_X3_finish s = s := by
  unfold f_X3_finish
  simp only [bd]
  rw [if_neg h]
theorem read_b {n k : Nat} {l : Int} {s : ST} (h : s.1 34 3 ≠ 0) : f_X3_read_ (n + 1) k l s = (s, s.1 34 3) := by
  rw [f_X3_read_]
  simp only [bd, bd2]
  rw [fin_b h]
  by_cases z : 500 < l
  · rw [if_pos z]
  · rw [if_neg z, if_pos h]
theorem read_e {n k : Nat} {l : Int} {s : ST} (h0 : s.1 34 3 = 0) (hl : l ≤ 500) (h1 : (f_X3_look s).1.1 34 7 = 0) (h2 : (f_X3_look s).2 = -1) : f_X3_read_ (n + 1) k l s = (f_X3_finish (f_X3_look s).1, (f_X3_finish (f_X3_look s).1).1 34 3) := by
  rw [f_X3_read_]
  simp only [bd, bd2]
  rw [if_neg (show ¬ 500 < l by omega), if_neg (fun z => z h0), if_neg (fun z => z h1), if_neg (fun z => z h2)]
/-- a run that ends with a fault: what read brings -/
theorem read_bad {k : Nat} {s s' : ST} (h : RUN k s s') (h0 : 0 ≤ s.1 34 2) (h1 : s.1 34 2 ≤ 500) (hb : s'.1 34 3 ≠ 0) : f_X3_read_ 1522 14 0 s = (s', s'.1 34 3) := by
  have q := h.bound h0 h1
  obtain ⟨m', e, _⟩ := read_run (n := 1522 - k) (m := 14) (l := 0) h (by omega)
  rw [show 1522 = 1522 - k + k by omega, e, show 1522 - k = (1521 - k) + 1 by omega, read_b hb]
theorem read_end {k : Nat} {s s' : ST} (h : RUN k s s') (h0 : 0 ≤ s.1 34 2) (hb : s'.1 34 3 = 0) (hp : s'.1 34 2 ≤ 500) (h1 : (f_X3_look s').1.1 34 7 = 0) (h2 : (f_X3_look s').2 = -1) : f_X3_read_ 1522 14 0 s = (f_X3_finish (f_X3_look s').1, (f_X3_finish (f_X3_look s').1).1 34 3) := by
  have q := h.bound2 hb
  obtain ⟨m', e, _⟩ := read_run (n := 1522 - k) (m := 14) (l := 0) h (by omega)
  rw [show 1522 = 1522 - k + k by omega, e, show 1522 - k = (1521 - k) + 1 by omega, read_e hb (by omega) h1 h2]

