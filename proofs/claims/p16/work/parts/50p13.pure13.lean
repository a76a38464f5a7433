/-! a statement of one turn: set, call, throw, return -/
theorem cNw_34 {s : ST} {c : Nat} {n m o pl kd pr l : Int} (hc : c = 2 ∨ c = 18) {j : Nat} (hj : j ≠ 2) : (cNw s c n m o pl kd pr l).1 34 j = s.1 34 j := by
  unfold cNw
  rw [sI_ne (p := 34) (q := j) (by omega), sI_nc (p := 34) (show 34 ≠ 46 by omega), sI_nc (p := 34) (show 34 ≠ 38 by omega), sI_nc (p := 34) (show 34 ≠ 41 by omega), sI_nc (p := 34) (show 34 ≠ 40 by omega), sI_nc (p := 34) (show 34 ≠ 39 by omega), sI_nc (p := 34) (show 34 ≠ 38 by omega), sI_nc (p := 34) (show 34 ≠ 37 by omega), sI_nc (p := 34) (show 34 ≠ 36 by omega), sI_nc (p := 34) (show 34 ≠ (c + 10) by omega), sI_nc (p := 34) (show 34 ≠ (c + 9) by omega), sI_nc (p := 34) (show 34 ≠ (c + 8) by omega), sI_nc (p := 34) (show 34 ≠ (c + 7) by omega), sI_nc (p := 34) (show 34 ≠ (c + 6) by omega), sI_nc (p := 34) (show 34 ≠ (c + 5) by omega), sI_nc (p := 34) (show 34 ≠ (c + 4) by omega), sI_nc (p := 34) (show 34 ≠ (c + 3) by omega), sI_nc (p := 34) (show 34 ≠ (c + 2) by omega), sI_nc (p := 34) (show 34 ≠ c by omega)]
theorem cNw_2 {s : ST} {c : Nat} {n m o pl kd pr l : Int} (hc : c = 2 ∨ c = 18) : (cNw s c n m o pl kd pr l).1 34 2 = pl + 1 := by
  unfold cNw
  rw [sI_eq]
theorem cNw_1 {s : ST} {c : Nat} {n m o pl kd pr l : Int} (hc : c = 2 ∨ c = 18) : (cNw s c n m o pl kd pr l).1 1 = s.1 1 := by
  unfold cNw
  rw [sI_nc (p := 1) (show 1 ≠ 34 by omega), sI_nc (p := 1) (show 1 ≠ 46 by omega), sI_nc (p := 1) (show 1 ≠ 38 by omega), sI_nc (p := 1) (show 1 ≠ 41 by omega), sI_nc (p := 1) (show 1 ≠ 40 by omega), sI_nc (p := 1) (show 1 ≠ 39 by omega), sI_nc (p := 1) (show 1 ≠ 38 by omega), sI_nc (p := 1) (show 1 ≠ 37 by omega), sI_nc (p := 1) (show 1 ≠ 36 by omega), sI_nc (p := 1) (show 1 ≠ (c + 10) by omega), sI_nc (p := 1) (show 1 ≠ (c + 9) by omega), sI_nc (p := 1) (show 1 ≠ (c + 8) by omega), sI_nc (p := 1) (show 1 ≠ (c + 7) by omega), sI_nc (p := 1) (show 1 ≠ (c + 6) by omega), sI_nc (p := 1) (show 1 ≠ (c + 5) by omega), sI_nc (p := 1) (show 1 ≠ (c + 4) by omega), sI_nc (p := 1) (show 1 ≠ (c + 3) by omega), sI_nc (p := 1) (show 1 ≠ (c + 2) by omega), sI_nc (p := 1) (show 1 ≠ c by omega)]
theorem cNw_r {s : ST} {c : Nat} {n m o pl kd pr l : Int} (hc : c = 2 ∨ c = 18) : (cNw s c n m o pl kd pr l).2.2 = s.2.2 := by
  unfold cNw
  rfl
theorem cNt_34 {s : ST} {m o pl l : Int} {j : Nat} (hj : j ≠ 2) : (cNt s m o pl l).1 34 j = s.1 34 j := by
  unfold cNt
  rw [sI_ne (p := 34) (q := j) (by omega), sI_nc (p := 34) (show 34 ≠ 46 by omega), sI_nc (p := 34) (show 34 ≠ 38 by omega), sI_nc (p := 34) (show 34 ≠ 41 by omega), sI_nc (p := 34) (show 34 ≠ 40 by omega), sI_nc (p := 34) (show 34 ≠ 39 by omega), sI_nc (p := 34) (show 34 ≠ 38 by omega), sI_nc (p := 34) (show 34 ≠ 37 by omega), sI_nc (p := 34) (show 34 ≠ 36 by omega)]
theorem cNt_2 {s : ST} {m o pl l : Int} : (cNt s m o pl l).1 34 2 = pl + 1 := by
  unfold cNt
  rw [sI_eq]
theorem cNt_1 {s : ST} {m o pl l : Int} : (cNt s m o pl l).1 1 = s.1 1 := by
  unfold cNt
  rw [sI_nc (p := 1) (show 1 ≠ 34 by omega), sI_nc (p := 1) (show 1 ≠ 46 by omega), sI_nc (p := 1) (show 1 ≠ 38 by omega), sI_nc (p := 1) (show 1 ≠ 41 by omega), sI_nc (p := 1) (show 1 ≠ 40 by omega), sI_nc (p := 1) (show 1 ≠ 39 by omega), sI_nc (p := 1) (show 1 ≠ 38 by omega), sI_nc (p := 1) (show 1 ≠ 37 by omega), sI_nc (p := 1) (show 1 ≠ 36 by omega)]
theorem cNt_r {s : ST} {m o pl l : Int} : (cNt s m o pl l).2.2 = s.2.2 := by
  unfold cNt
  rfl
theorem cNw_6 {s : ST} {c : Nat} {n m o pl kd pr l : Int} (hc : c = 2 ∨ c = 18) : (cNw s c n m o pl kd pr l).1 (c + 6) n.toNat = -1 := by
  unfold cNw
  rw [sI_nc (p := c + 6) (show c + 6 ≠ 34 by omega), sI_nc (p := c + 6) (show c + 6 ≠ 46 by omega), sI_nc (p := c + 6) (show c + 6 ≠ 38 by omega), sI_nc (p := c + 6) (show c + 6 ≠ 41 by omega), sI_nc (p := c + 6) (show c + 6 ≠ 40 by omega), sI_nc (p := c + 6) (show c + 6 ≠ 39 by omega), sI_nc (p := c + 6) (show c + 6 ≠ 38 by omega), sI_nc (p := c + 6) (show c + 6 ≠ 37 by omega), sI_nc (p := c + 6) (show c + 6 ≠ 36 by omega), sI_nc (p := c + 6) (show c + 6 ≠ (c + 10) by omega), sI_nc (p := c + 6) (show c + 6 ≠ (c + 9) by omega), sI_nc (p := c + 6) (show c + 6 ≠ (c + 8) by omega), sI_nc (p := c + 6) (show c + 6 ≠ (c + 7) by omega), sI_eq]
theorem mC0_70 {t : ST} {S m p d1 at1 nm its b : Int} : (mC0 t S m p d1 at1 nm its b).1 70 = t.1 70 := by
  unfold mC0
  rw [sI_nc (p := 70) (show 70 ≠ 89 by omega), sI_nc (p := 70) (show 70 ≠ 89 by omega), sI_nc (p := 70) (show 70 ≠ 88 by omega), sI_nc (p := 70) (show 70 ≠ 87 by omega), sI_nc (p := 70) (show 70 ≠ 86 by omega), sI_nc (p := 70) (show 70 ≠ 85 by omega), sI_nc (p := 70) (show 70 ≠ 84 by omega), sI_nc (p := 70) (show 70 ≠ 83 by omega), sI_nc (p := 70) (show 70 ≠ 82 by omega), sI_nc (p := 70) (show 70 ≠ 81 by omega), sI_nc (p := 70) (show 70 ≠ 80 by omega), sI_nc (p := 70) (show 70 ≠ 79 by omega), sI_nc (p := 70) (show 70 ≠ 78 by omega), sI_nc (p := 70) (show 70 ≠ 77 by omega), sI_nc (p := 70) (show 70 ≠ 73 by omega)]
theorem mC0_72 {t : ST} {S m p d1 at1 nm its b : Int} : (mC0 t S m p d1 at1 nm its b).1 72 = t.1 72 := by
  unfold mC0
  rw [sI_nc (p := 72) (show 72 ≠ 89 by omega), sI_nc (p := 72) (show 72 ≠ 89 by omega), sI_nc (p := 72) (show 72 ≠ 88 by omega), sI_nc (p := 72) (show 72 ≠ 87 by omega), sI_nc (p := 72) (show 72 ≠ 86 by omega), sI_nc (p := 72) (show 72 ≠ 85 by omega), sI_nc (p := 72) (show 72 ≠ 84 by omega), sI_nc (p := 72) (show 72 ≠ 83 by omega), sI_nc (p := 72) (show 72 ≠ 82 by omega), sI_nc (p := 72) (show 72 ≠ 81 by omega), sI_nc (p := 72) (show 72 ≠ 80 by omega), sI_nc (p := 72) (show 72 ≠ 79 by omega), sI_nc (p := 72) (show 72 ≠ 78 by omega), sI_nc (p := 72) (show 72 ≠ 77 by omega), sI_nc (p := 72) (show 72 ≠ 73 by omega)]
theorem mC1_70 {t : ST} {S n m p d1 at1 nm its b : Int} : (mC1 t S n m p d1 at1 nm its b).1 70 = t.1 70 := by
  unfold mC1 mC0
  rw [sI_nc (p := 70) (show 70 ≠ 75 by omega), sI_nc (p := 70) (show 70 ≠ 93 by omega), sI_nc (p := 70) (show 70 ≠ 78 by omega), sI_nc (p := 70) (show 70 ≠ 89 by omega), sI_nc (p := 70) (show 70 ≠ 89 by omega), sI_nc (p := 70) (show 70 ≠ 88 by omega), sI_nc (p := 70) (show 70 ≠ 87 by omega), sI_nc (p := 70) (show 70 ≠ 86 by omega), sI_nc (p := 70) (show 70 ≠ 85 by omega), sI_nc (p := 70) (show 70 ≠ 84 by omega), sI_nc (p := 70) (show 70 ≠ 83 by omega), sI_nc (p := 70) (show 70 ≠ 82 by omega), sI_nc (p := 70) (show 70 ≠ 81 by omega), sI_nc (p := 70) (show 70 ≠ 80 by omega), sI_nc (p := 70) (show 70 ≠ 79 by omega), sI_nc (p := 70) (show 70 ≠ 78 by omega), sI_nc (p := 70) (show 70 ≠ 77 by omega), sI_nc (p := 70) (show 70 ≠ 73 by omega)]
theorem mC1_72 {t : ST} {S n m p d1 at1 nm its b : Int} : (mC1 t S n m p d1 at1 nm its b).1 72 = t.1 72 := by
  unfold mC1 mC0
  rw [sI_nc (p := 72) (show 72 ≠ 75 by omega), sI_nc (p := 72) (show 72 ≠ 93 by omega), sI_nc (p := 72) (show 72 ≠ 78 by omega), sI_nc (p := 72) (show 72 ≠ 89 by omega), sI_nc (p := 72) (show 72 ≠ 89 by omega), sI_nc (p := 72) (show 72 ≠ 88 by omega), sI_nc (p := 72) (show 72 ≠ 87 by omega), sI_nc (p := 72) (show 72 ≠ 86 by omega), sI_nc (p := 72) (show 72 ≠ 85 by omega), sI_nc (p := 72) (show 72 ≠ 84 by omega), sI_nc (p := 72) (show 72 ≠ 83 by omega), sI_nc (p := 72) (show 72 ≠ 82 by omega), sI_nc (p := 72) (show 72 ≠ 81 by omega), sI_nc (p := 72) (show 72 ≠ 80 by omega), sI_nc (p := 72) (show 72 ≠ 79 by omega), sI_nc (p := 72) (show 72 ≠ 78 by omega), sI_nc (p := 72) (show 72 ≠ 77 by omega), sI_nc (p := 72) (show 72 ≠ 73 by omega)]
theorem mCl_70 {X : ST} {S m at1 b f l : Int} {j : Nat} (hj : j ≠ 4) : (mCl X S m at1 b f l).1 70 j = X.1 70 j := by
  unfold mCl mCn mCf
  split
  · rw [sI_ne (p := 70) (q := j) (by omega), sI_nc (p := 70) (show 70 ≠ 91 by decide), sI_nc (p := 70) (show 70 ≠ 87 by decide)]
  · rw [sI_ne (p := 70) (q := j) (by omega), sI_nc (p := 70) (show 70 ≠ 91 by decide), sI_nc (p := 70) (show 70 ≠ 90 by decide)]
theorem mCl_4 {X : ST} {S m at1 b f l : Int} : (mCl X S m at1 b f l).1 70 4 = at1 + 1 := by
  unfold mCl mCn mCf
  split <;> rw [sI_eq]
theorem mCl_72 {X : ST} {S m at1 b f l : Int} : (mCl X S m at1 b f l).1 72 = X.1 72 := by
  unfold mCl mCn mCf
  split
  · rw [sI_nc (p := 72) (show 72 ≠ 70 by decide), sI_nc (p := 72) (show 72 ≠ 91 by decide), sI_nc (p := 72) (show 72 ≠ 87 by decide)]
  · rw [sI_nc (p := 72) (show 72 ≠ 70 by decide), sI_nc (p := 72) (show 72 ≠ 91 by decide), sI_nc (p := 72) (show 72 ≠ 90 by decide)]
/-- what is left of the items that stood before -/
def KE (S : Int) (t t' : ST) : Prop := gI t 73 S ≤ gI t' 73 S ∧ gI t' 76 S = gI t 76 S ∧ (∀ x, CJ t S x → gI t' 77 x = gI t 77 x ∧ gI t' 78 x = gI t 78 x ∧ gI t' 85 x = gI t 85 x ∧ gI t' 86 x = gI t 86 x) ∧ gI t 74 S ≤ gI t' 74 S ∧ (∀ b, CB t S b → gI t' 92 b = gI t 92 b)
theorem KE.rfl {S : Int} {t : ST} : KE S t t := ⟨Int.le_refl _, _root_.rfl, fun _ _ => ⟨_root_.rfl, _root_.rfl, _root_.rfl, _root_.rfl⟩, Int.le_refl _, fun _ _ => _root_.rfl⟩
theorem KE.tr {S : Int} {t u w : ST} (a : KE S t u) (b : KE S u w) : KE S t w := by
  have a4 := a.2.2.2.1
  refine ⟨by have := a.1; have := b.1; omega, b.2.1.trans a.2.1, fun x hx => ?_, by have := b.2.2.2.1; omega, fun x hx => (b.2.2.2.2 x (by unfold CB at *; omega)).trans (a.2.2.2.2 x hx)⟩
  have q := a.2.2.1 x hx
  have r := b.2.2.1 x (by unfold CJ at *; have := a.1; omega)
  exact ⟨r.1.trans q.1, r.2.1.trans q.2.1, r.2.2.1.trans q.2.2.1, r.2.2.2.trans q.2.2.2⟩
theorem KE.ag {S : Int} {t u : ST} (h : ∀ p j, ¬ (p = 70 ∧ j = 4) → p ≠ 83 → p ≠ 89 → u.1 p j = t.1 p j) : KE S t u := by
  have g : ∀ a i, a ≠ 70 → a ≠ 83 → a ≠ 89 → gI u a i = gI t a i := fun a i h1 h2 h3 => h a _ (fun z => h1 z.1) h2 h3
  refine ⟨by rw [g 73 S (by omega) (by omega) (by omega)]; exact Int.le_refl _, g 76 S (by omega) (by omega) (by omega), fun x _ => ⟨g 77 x (by omega) (by omega) (by omega), g 78 x (by omega) (by omega) (by omega), g 85 x (by omega) (by omega) (by omega), g 86 x (by omega) (by omega) (by omega)⟩, by rw [g 74 S (by omega) (by omega) (by omega)]; exact Int.le_refl _, fun x _ => g 92 x (by omega) (by omega) (by omega)⟩
def ph (S : Int) (s t : ST) : Int := 6 * gI t 73 S - 5 * gI t 75 S - s.1 34 2
/-- a new statement, ahead of what it holds -/
theorem SM.cre {c : Nat} {S d pc n m p nm its f l : Int} {B : Int → Int} {s t : ST} (hc : c = 2 ∨ c = 18) (S0 : 0 ≤ S) (d0 : 0 ≤ d) (h : SM c S (d + 1) pc B s t) (hpl : s.1 34 2 < s.1 34 1) (hn : n = gI t 75 S) (n39 : n ≤ 39) (hm : m = gI t 73 S) (hp : gI t 76 S - 1 = p) (h6 : its ≠ 6) (hf : f = gI t 90 (B d)) (hl : l = gI t 91 (B d)) :
    PS (cNw s c n m (d + 1) (s.1 34 2) its p (s.1 46 (d + 1 - 1).toNat)) (mCl (mC1 t S n m p d (t.1 70 4) nm its (B d)) S m (t.1 70 4) (B d) f l) ∧ RR c S (d + 1) pc B (sI (cNw s c n m (d + 1) (s.1 34 2) its p (s.1 46 (d + 1 - 1).toNat)) (c + 6) n.toNat nm) (mCl (mC1 t S n m p d (t.1 70 4) nm its (B d)) S m (t.1 70 4) (B d) f l) ∧ (mCl (mC1 t S n m p d (t.1 70 4) nm its (B d)) S m (t.1 70 4) (B d) f l).1 70 6 = S ∧ KE S t (mCl (mC1 t S n m p d (t.1 70 4) nm its (B d)) S m (t.1 70 4) (B d) f l) ∧ gI (mCl (mC1 t S n m p d (t.1 70 4) nm its (B d)) S m (t.1 70 4) (B d) f l) 73 S = m + 1 ∧ gI (mCl (mC1 t S n m p d (t.1 70 4) nm its (B d)) S m (t.1 70 4) (B d) f l) 75 S = n + 1 ∧ gI (mCl (mC1 t S n m p d (t.1 70 4) nm its (B d)) S m (t.1 70 4) (B d) f l) 93 (40 * S + n) = 130 * S + m ∧ gI (mCl (mC1 t S n m p d (t.1 70 4) nm its (B d)) S m (t.1 70 4) (B d) f l) 77 (130 * S + m) = its ∧ gI (mCl (mC1 t S n m p d (t.1 70 4) nm its (B d)) S m (t.1 70 4) (B d) f l) 85 (130 * S + m) = -1  ∧ (gI (mCl (mC1 t S n m p d (t.1 70 4) nm its (B d)) S m (t.1 70 4) (B d) f l) 79 (130 * S + m) = pc ∧ gI (mCl (mC1 t S n m p d (t.1 70 4) nm its (B d)) S m (t.1 70 4) (B d) f l) 86 (130 * S + m) = -1) := by
  obtain ⟨hps, hr, hcc, hS, hO⟩ := h
  have hk := hr.1
  have m0 : 0 ≤ m := by have := hk.2.2.2.2.2.1; omega
  have n0 : 0 ≤ n := by have := hk.2.2.2.1; omega
  have hat : s.1 34 2 = t.1 70 4 := hps.2.1
  have cl : ∀ q, q ≠ 70 → q ≠ 87 → q ≠ 90 → q ≠ 91 → gI (mCl (mC1 t S n m p d (t.1 70 4) nm its (B d)) S m (t.1 70 4) (B d) f l) q = gI (mC1 t S n m p d (t.1 70 4) nm its (B d)) q := fun q h1 h2 h3 h4 => mCl_o h1 h2 h3 h4
  have hpp : p = pc := by
    have q := (hr.2.2.2.2.2.2.1.2.2.2.1 (by omega)).1
    omega
  refine ⟨?_, ?_, ?_, ?_, ?_, ?_, ?_, ?_, ?_, ?_⟩
  · obtain ⟨a1, a2, a3, a4, a5, a6, a7, a8⟩ := hps
    unfold PS
    rw [cNw_34 hc (show 1 ≠ 2 by decide), cNw_34 hc (show 3 ≠ 2 by decide), cNw_2 hc, cNw_1 hc, mCl_4, mCl_70 (show 3 ≠ 4 by decide), mCl_70 (show 5 ≠ 4 by decide), mCl_72, mC1_70, mC1_72]
    exact ⟨a1, by rw [a2], by omega, by omega, a5, a6, a7, a8⟩
  · exact RR.cre (kd := its) (pr := p) hc S0 hr (by omega) (by rw [show d + 1 - 1 = d by omega]) hm hn hl hf n39 h6 rfl rfl (by omega) hat hpp
  · rw [mCl_70 (show 6 ≠ 4 by decide), mC1_70]; exact hS
  · refine ⟨?_, ?_, fun x hx => ?_, by rw [cl 74 (by decide) (by decide) (by decide) (by decide), m1_o (q := 74) (by decide) (by decide) (by decide) (by decide) (by decide) (by decide) (by decide) (by decide) (by decide) (by decide) (by decide) (by decide) (by decide) (by decide) (by decide) (by decide)]; exact Int.le_refl _, fun x _ => by rw [cl 92 (by decide) (by decide) (by decide) (by decide), m1_o (q := 92) (by decide) (by decide) (by decide) (by decide) (by decide) (by decide) (by decide) (by decide) (by decide) (by decide) (by decide) (by decide) (by decide) (by decide) (by decide) (by decide)]⟩
    · rw [cl 73 (by decide) (by decide) (by decide) (by decide), m1_73v]; omega
    · rw [cl 76 (by decide) (by decide) (by decide) (by decide), m1_o (q := 76) (by decide) (by decide) (by decide) (by decide) (by decide) (by decide) (by decide) (by decide) (by decide) (by decide) (by decide) (by decide) (by decide) (by decide) (by decide) (by decide)]
    · have x0 : 0 ≤ x := by have := hx.1; omega
      have x1 : x ≠ 130 * S + m := by have := hx.2; omega
      rw [cl 77 (by decide) (by decide) (by decide) (by decide), cl 78 (by decide) (by decide) (by decide) (by decide), cl 85 (by decide) (by decide) (by decide) (by decide), cl 86 (by decide) (by decide) (by decide) (by decide)]
      exact ⟨m1_77 S0 m0 x x0 x1, m1_78 S0 m0 x x0 x1, m1_85 S0 m0 x x0 x1, m1_86 S0 m0 x x0 x1⟩
  · rw [cl 73 (by decide) (by decide) (by decide) (by decide), m1_73v]
  · rw [cl 75 (by decide) (by decide) (by decide) (by decide), m1_75v]
  · rw [cl 93 (by decide) (by decide) (by decide) (by decide), m1_93v]
  · rw [cl 77 (by decide) (by decide) (by decide) (by decide), m1_77v]
  · rw [cl 85 (by decide) (by decide) (by decide) (by decide), m1_85v]
  · rw [cl 79 (by decide) (by decide) (by decide) (by decide), m1_79v, cl 86 (by decide) (by decide) (by decide) (by decide), m1_86v]; exact ⟨hpp, rfl⟩
theorem cNw_op {s : ST} {c : Nat} {n m o pl kd pr l j : Int} (hc : c = 2 ∨ c = 18) (n0 : 0 ≤ n) (j0 : 0 ≤ j) : (cNw s c n m o pl kd pr l).1 (c + 8) j.toNat = (if j = n then -1 else s.1 (c + 8) j.toNat) ∧ (cNw s c n m o pl kd pr l).1 (c + 9) j.toNat = (if j = n then -1 else s.1 (c + 9) j.toNat) ∧ (cNw s c n m o pl kd pr l).1 (c + 10) j.toNat = (if j = n then -1 else s.1 (c + 10) j.toNat) := by
  unfold cNw
  refine ⟨?_, ?_, ?_⟩
  · rw [sI_nc (p := c + 8) (show c + 8 ≠ 34 by omega), sI_nc (p := c + 8) (show c + 8 ≠ 46 by omega), sI_nc (p := c + 8) (show c + 8 ≠ 38 by omega), sI_nc (p := c + 8) (show c + 8 ≠ 41 by omega), sI_nc (p := c + 8) (show c + 8 ≠ 40 by omega), sI_nc (p := c + 8) (show c + 8 ≠ 39 by omega), sI_nc (p := c + 8) (show c + 8 ≠ 38 by omega), sI_nc (p := c + 8) (show c + 8 ≠ 37 by omega), sI_nc (p := c + 8) (show c + 8 ≠ 36 by omega), sI_nc (p := c + 8) (show c + 8 ≠ c + 10 by omega), sI_nc (p := c + 8) (show c + 8 ≠ c + 9 by omega)]
    by_cases z : j = n
    · rw [if_pos z, z, sI_eq]
    · rw [if_neg z, sI_ne (show ¬ (c + 8 = c + 8 ∧ j.toNat = n.toNat) by omega), sI_nc (p := c + 8) (show c + 8 ≠ c + 7 by omega), sI_nc (p := c + 8) (show c + 8 ≠ c + 6 by omega), sI_nc (p := c + 8) (show c + 8 ≠ c + 5 by omega), sI_nc (p := c + 8) (show c + 8 ≠ c + 4 by omega), sI_nc (p := c + 8) (show c + 8 ≠ c + 3 by omega), sI_nc (p := c + 8) (show c + 8 ≠ c + 2 by omega), sI_nc (p := c + 8) (show c + 8 ≠ c by omega)]
  · rw [sI_nc (p := c + 9) (show c + 9 ≠ 34 by omega), sI_nc (p := c + 9) (show c + 9 ≠ 46 by omega), sI_nc (p := c + 9) (show c + 9 ≠ 38 by omega), sI_nc (p := c + 9) (show c + 9 ≠ 41 by omega), sI_nc (p := c + 9) (show c + 9 ≠ 40 by omega), sI_nc (p := c + 9) (show c + 9 ≠ 39 by omega), sI_nc (p := c + 9) (show c + 9 ≠ 38 by omega), sI_nc (p := c + 9) (show c + 9 ≠ 37 by omega), sI_nc (p := c + 9) (show c + 9 ≠ 36 by omega), sI_nc (p := c + 9) (show c + 9 ≠ c + 10 by omega)]
    by_cases z : j = n
    · rw [if_pos z, z, sI_eq]
    · rw [if_neg z, sI_ne (show ¬ (c + 9 = c + 9 ∧ j.toNat = n.toNat) by omega), sI_nc (p := c + 9) (show c + 9 ≠ c + 8 by omega), sI_nc (p := c + 9) (show c + 9 ≠ c + 7 by omega), sI_nc (p := c + 9) (show c + 9 ≠ c + 6 by omega), sI_nc (p := c + 9) (show c + 9 ≠ c + 5 by omega), sI_nc (p := c + 9) (show c + 9 ≠ c + 4 by omega), sI_nc (p := c + 9) (show c + 9 ≠ c + 3 by omega), sI_nc (p := c + 9) (show c + 9 ≠ c + 2 by omega), sI_nc (p := c + 9) (show c + 9 ≠ c by omega)]
  · rw [sI_nc (p := c + 10) (show c + 10 ≠ 34 by omega), sI_nc (p := c + 10) (show c + 10 ≠ 46 by omega), sI_nc (p := c + 10) (show c + 10 ≠ 38 by omega), sI_nc (p := c + 10) (show c + 10 ≠ 41 by omega), sI_nc (p := c + 10) (show c + 10 ≠ 40 by omega), sI_nc (p := c + 10) (show c + 10 ≠ 39 by omega), sI_nc (p := c + 10) (show c + 10 ≠ 38 by omega), sI_nc (p := c + 10) (show c + 10 ≠ 37 by omega), sI_nc (p := c + 10) (show c + 10 ≠ 36 by omega)]
    by_cases z : j = n
    · rw [if_pos z, z, sI_eq]
    · rw [if_neg z, sI_ne (show ¬ (c + 10 = c + 10 ∧ j.toNat = n.toNat) by omega), sI_nc (p := c + 10) (show c + 10 ≠ c + 9 by omega), sI_nc (p := c + 10) (show c + 10 ≠ c + 8 by omega), sI_nc (p := c + 10) (show c + 10 ≠ c + 7 by omega), sI_nc (p := c + 10) (show c + 10 ≠ c + 6 by omega), sI_nc (p := c + 10) (show c + 10 ≠ c + 5 by omega), sI_nc (p := c + 10) (show c + 10 ≠ c + 4 by omega), sI_nc (p := c + 10) (show c + 10 ≠ c + 3 by omega), sI_nc (p := c + 10) (show c + 10 ≠ c + 2 by omega), sI_nc (p := c + 10) (show c + 10 ≠ c by omega)]
theorem mC0_op {t : ST} {S m p d1 at1 nm its b : Int} (S0 : 0 ≤ S) (m0 : 0 ≤ m) : (∀ x, 0 ≤ x → x ≠ 130 * S + m → (mC0 t S m p d1 at1 nm its b).1 83 x.toNat = t.1 83 x.toNat ∧ (mC0 t S m p d1 at1 nm its b).1 89 (2 * x).toNat = t.1 89 (2 * x).toNat ∧ (mC0 t S m p d1 at1 nm its b).1 89 (2 * x + 1).toNat = t.1 89 (2 * x + 1).toNat) ∧ (mC0 t S m p d1 at1 nm its b).1 83 (130 * S + m).toNat = 0 ∧ (mC0 t S m p d1 at1 nm its b).1 89 (2 * (130 * S + m)).toNat = 0 ∧ (mC0 t S m p d1 at1 nm its b).1 89 (2 * (130 * S + m) + 1).toNat = 0 := by
  unfold mC0
  refine ⟨fun x x0 x1 => ⟨?_, ?_, ?_⟩, ?_, ?_, ?_⟩
  · rw [sI_nc (p := 83) (show 83 ≠ 89 by decide), sI_nc (p := 83) (show 83 ≠ 89 by decide), sI_nc (p := 83) (show 83 ≠ 88 by decide), sI_nc (p := 83) (show 83 ≠ 87 by decide), sI_nc (p := 83) (show 83 ≠ 86 by decide), sI_nc (p := 83) (show 83 ≠ 85 by decide), sI_nc (p := 83) (show 83 ≠ 84 by decide), sI_ne (show ¬ (83 = 83 ∧ x.toNat = (130 * S + m).toNat) by omega), sI_nc (p := 83) (show 83 ≠ 82 by decide), sI_nc (p := 83) (show 83 ≠ 81 by decide), sI_nc (p := 83) (show 83 ≠ 80 by decide), sI_nc (p := 83) (show 83 ≠ 79 by decide), sI_nc (p := 83) (show 83 ≠ 78 by decide), sI_nc (p := 83) (show 83 ≠ 77 by decide), sI_nc (p := 83) (show 83 ≠ 73 by decide)]
  · rw [sI_ne (show ¬ (89 = 89 ∧ (2 * x).toNat = (2 * (130 * S + m) + 1).toNat) by omega), sI_ne (show ¬ (89 = 89 ∧ (2 * x).toNat = (2 * (130 * S + m)).toNat) by omega), sI_nc (p := 89) (show 89 ≠ 88 by decide), sI_nc (p := 89) (show 89 ≠ 87 by decide), sI_nc (p := 89) (show 89 ≠ 86 by decide), sI_nc (p := 89) (show 89 ≠ 85 by decide), sI_nc (p := 89) (show 89 ≠ 84 by decide), sI_nc (p := 89) (show 89 ≠ 83 by decide), sI_nc (p := 89) (show 89 ≠ 82 by decide), sI_nc (p := 89) (show 89 ≠ 81 by decide), sI_nc (p := 89) (show 89 ≠ 80 by decide), sI_nc (p := 89) (show 89 ≠ 79 by decide), sI_nc (p := 89) (show 89 ≠ 78 by decide), sI_nc (p := 89) (show 89 ≠ 77 by decide), sI_nc (p := 89) (show 89 ≠ 73 by decide)]
  · rw [sI_ne (show ¬ (89 = 89 ∧ (2 * x + 1).toNat = (2 * (130 * S + m) + 1).toNat) by omega), sI_ne (show ¬ (89 = 89 ∧ (2 * x + 1).toNat = (2 * (130 * S + m)).toNat) by omega), sI_nc (p := 89) (show 89 ≠ 88 by decide), sI_nc (p := 89) (show 89 ≠ 87 by decide), sI_nc (p := 89) (show 89 ≠ 86 by decide), sI_nc (p := 89) (show 89 ≠ 85 by decide), sI_nc (p := 89) (show 89 ≠ 84 by decide), sI_nc (p := 89) (show 89 ≠ 83 by decide), sI_nc (p := 89) (show 89 ≠ 82 by decide), sI_nc (p := 89) (show 89 ≠ 81 by decide), sI_nc (p := 89) (show 89 ≠ 80 by decide), sI_nc (p := 89) (show 89 ≠ 79 by decide), sI_nc (p := 89) (show 89 ≠ 78 by decide), sI_nc (p := 89) (show 89 ≠ 77 by decide), sI_nc (p := 89) (show 89 ≠ 73 by decide)]
  · rw [sI_nc (p := 83) (show 83 ≠ 89 by decide), sI_nc (p := 83) (show 83 ≠ 89 by decide), sI_nc (p := 83) (show 83 ≠ 88 by decide), sI_nc (p := 83) (show 83 ≠ 87 by decide), sI_nc (p := 83) (show 83 ≠ 86 by decide), sI_nc (p := 83) (show 83 ≠ 85 by decide), sI_nc (p := 83) (show 83 ≠ 84 by decide), sI_eq]
  · rw [sI_ne (show ¬ (89 = 89 ∧ (2 * (130 * S + m)).toNat = (2 * (130 * S + m) + 1).toNat) by omega), sI_eq]
  · rw [sI_eq]
/-- a new statement has no operands yet -/
theorem SM.creO {c : Nat} {S d pc n m p nm its f l pl at1 x : Int} {B : Int → Int} {s t : ST} (hc : c = 2 ∨ c = 18) (S0 : 0 ≤ S) (h : SM c S (d + 1) pc B s t) (hn : n = gI t 75 S) (hm : m = gI t 73 S) (hnm : its = 0 ∨ nm = -1) : OPS c S (sI (cNw s c n m (d + 1) pl its p x) (c + 6) n.toNat nm) (mCl (mC1 t S n m p d at1 nm its (B d)) S m at1 (B d) f l) := by
  have hr := h.2.1
  have hk := hr.1
  have m0 : 0 ≤ m := by have := hk.2.2.2.2.2.1; omega
  have n0 : 0 ≤ n := by have := hk.2.2.2.1; omega
  have cl : ∀ q, q ≠ 70 → q ≠ 87 → q ≠ 90 → q ≠ 91 → gI (mCl (mC1 t S n m p d at1 nm its (B d)) S m at1 (B d) f l) q = gI (mC1 t S n m p d at1 nm its (B d)) q := fun q h1 h2 h3 h4 => mCl_o h1 h2 h3 h4
  have c1 : ∀ q, q ≠ 75 → q ≠ 93 → q ≠ 78 → gI (mC1 t S n m p d at1 nm its (B d)) q = gI (mC0 t S m p d at1 nm its (B d)) q := fun q h1 h2 h3 => by
    funext j
    unfold mC1
    rw [gI_nc h1, gI_nc h2, gI_nc h3]
  have mo := mC0_op (t := t) (p := p) (d1 := d) (at1 := at1) (nm := nm) (its := its) (b := B d) S0 m0
  intro k k0 k1
  rw [cl 75 (by decide) (by decide) (by decide) (by decide), m1_75v] at k1
  have co := cNw_op (s := s) (m := m) (o := d + 1) (pl := pl) (kd := its) (pr := p) (l := x) hc n0 k0
  have z6 : ∀ q : Nat, q = 8 ∨ q = 9 ∨ q = 10 → (sI (cNw s c n m (d + 1) pl its p x) (c + 6) n.toNat nm).1 (c + q) k.toNat = (cNw s c n m (d + 1) pl its p x).1 (c + q) k.toNat := fun q hq => sI_ne (by omega)
  show (OV ((sI (cNw s c n m (d + 1) pl its p x) (c + 6) n.toNat nm).1 (c + 9) k.toNat) (gI (mCl (mC1 t S n m p d at1 nm its (B d)) S m at1 (B d) f l) 89 (2 * gI (mCl (mC1 t S n m p d at1 nm its (B d)) S m at1 (B d) f l) 93 (40 * S + k))) ∧ OV ((sI (cNw s c n m (d + 1) pl its p x) (c + 6) n.toNat nm).1 (c + 10) k.toNat) (gI (mCl (mC1 t S n m p d at1 nm its (B d)) S m at1 (B d) f l) 89 (2 * gI (mCl (mC1 t S n m p d at1 nm its (B d)) S m at1 (B d) f l) 93 (40 * S + k) + 1)) ∧ SV ((sI (cNw s c n m (d + 1) pl its p x) (c + 6) n.toNat nm).1 (c + 8) k.toNat) (gI (mCl (mC1 t S n m p d at1 nm its (B d)) S m at1 (B d) f l) 83 (gI (mCl (mC1 t S n m p d at1 nm its (B d)) S m at1 (B d) f l) 93 (40 * S + k)))) ∧ _
  rw [z6 8 (by omega), z6 9 (by omega), z6 10 (by omega), cl 89 (by decide) (by decide) (by decide) (by decide), cl 83 (by decide) (by decide) (by decide) (by decide), cl 93 (by decide) (by decide) (by decide) (by decide), cl 77 (by decide) (by decide) (by decide) (by decide), cl 82 (by decide) (by decide) (by decide) (by decide), c1 89 (by decide) (by decide) (by decide), c1 83 (by decide) (by decide) (by decide), co.1, co.2.1, co.2.2]
  by_cases z : k = n
  · rw [if_pos z, if_pos z, if_pos z, z, m1_93v]
    rw [m1_77v, m1_82v]
    refine ⟨?_, ?_⟩
    · show OV (-1) ((mC0 t S m p d at1 nm its (B d)).1 89 (2 * (130 * S + m)).toNat) ∧ OV (-1) ((mC0 t S m p d at1 nm its (B d)).1 89 (2 * (130 * S + m) + 1).toNat) ∧ SV (-1) ((mC0 t S m p d at1 nm its (B d)).1 83 (130 * S + m).toNat)
      rw [mo.2.1, mo.2.2.1, mo.2.2.2]
      exact ⟨Or.inl ⟨rfl, rfl⟩, Or.inl ⟨rfl, rfl⟩, Or.inl ⟨rfl, rfl⟩⟩
    · rcases hnm with w | w
      · exact Or.inl w
      · exact Or.inr (Or.inr w)
  · rw [if_neg z, if_neg z, if_neg z]
    have e93 : gI (mC1 t S n m p d at1 nm its (B d)) 93 (40 * S + k) = gI t 93 (40 * S + k) := m1_93 S0 n0 _ (by omega) (by omega)
    have q := hr.2.1 k k0 (by omega)
    have q1 := q.1.1
    have q2 := q.1.2
    rw [e93, m1_77 S0 m0 _ (by omega) (by omega), m1_82 S0 m0 _ (by omega) (by omega)]
    have u := mo.1 (gI t 93 (40 * S + k)) (by omega) (by omega)
    refine ⟨?_, (h.2.2.2.2 k k0 (by omega)).2⟩
    show OV (s.1 (c + 9) k.toNat) ((mC0 t S m p d at1 nm its (B d)).1 89 (2 * gI t 93 (40 * S + k)).toNat) ∧ OV (s.1 (c + 10) k.toNat) ((mC0 t S m p d at1 nm its (B d)).1 89 (2 * gI t 93 (40 * S + k) + 1).toNat) ∧ SV (s.1 (c + 8) k.toNat) ((mC0 t S m p d at1 nm its (B d)).1 83 (gI t 93 (40 * S + k)).toNat)
    rw [u.1, u.2.1, u.2.2]
    exact (h.2.2.2.2 k k0 (by omega)).1
/-- behind the words of a statement: both stand where they should, or both blame the same -/
def TQ (c : Nat) (S d pc : Int) (B : Int → Int) (s t s' t' : ST) : Prop := BQ c s' t' ∨ (SM c S d pc B s' t' ∧ s.1 34 2 < s'.1 34 2 ∧ ph S s' t' ≤ ph S s t ∧ KE S t t')
theorem TQ.of {c : Nat} {S d pc n m : Int} {B : Int → Int} {s t s0 t0 s' t' : ST} (hc : c = 2 ∨ c = 18) (S0 : 0 ≤ S) (n0 : 0 ≤ n) (q : QQ c n (130 * S + m) s0 t0 s' t') (hO : OPS c S s0 t0) (h93 : gI t0 93 (40 * S + n) = 130 * S + m) (hr : RR c S d pc B s0 t0) (h6 : t0.1 70 6 = S) (hpl : s.1 34 2 + 1 ≤ s0.1 34 2) (hm : m = gI t 73 S) (hn : n = gI t 75 S) (h73 : gI t0 73 S = m + 1) (h75 : gI t0 75 S = n + 1) (ke : KE S t t0) : TQ c S d pc B s t s' t' := by
  rcases q with q | q
  · right
    have oo := hO.gd hr n0 (by omega) h93.symm S0 q
    obtain ⟨a1, a2, a3, a4, a5, -⟩ := q
    refine ⟨⟨a1, RR.congr hc hr a4 a5, a3, (a5 70 6 (by omega) (by omega) (by omega)).trans h6, oo⟩, by omega, ?_, ke.tr (KE.ag a5)⟩
    have e3 : gI t' 73 S = gI t0 73 S := a5 73 _ (by omega) (by omega) (by omega)
    have e5 : gI t' 75 S = gI t0 75 S := a5 75 _ (by omega) (by omega) (by omega)
    unfold ph
    omega
  · exact Or.inl q
theorem QQ.fin {c : Nat} {s0 t0 s t : ST} {n i : Int} (hc : c = 2 ∨ c = 18) (n0 : 0 ≤ n) (i0 : 0 ≤ i) (e : s.2.2 34 4 = c) (h : QQ c n i s0 t0 s t) : QQ c n i s0 t0 (f_X3_take (sI (f_X3_readOperand s).1 (c + 9) n.toNat (f_X3_readOperand s).2) 59) (f_X8_readEnd t i) := by
  have h1 := QQ.take (a := 59) hc (by omega) (QQ.oper (k := 9) (n := n) (i := i) (q := 0) hc n0 i0 (Or.inl ⟨rfl, rfl⟩) h)
  rewrite [e] at h1
  obtain ⟨fin, kf⟩ : ∃ z, z = f_X8_readEnd t i := ⟨_, rfl⟩
  rewrite [← kf]
  unfold f_X8_readEnd at kf
  rewrite [bd_r, bd_r] at kf
  rewrite [kf]
  exact h1
/-- the call that a set has become -/
theorem RR.cal {c : Nat} {S d pc n m k p : Int} {w : Int64} {B : Int → Int} {s t : ST} (hc : c = 2 ∨ c = 18) (S0 : 0 ≤ S) (n0 : 0 ≤ n) (m0 : 0 ≤ m) (h : RR c S d pc B s t) (n1 : n < gI t 75 S) (hi : gI t 93 (40 * S + n) = 130 * S + m) (z77 : gI t 77 (130 * S + m) = 0) : RR c S d pc B (cCall s c n p k w) (mCall t (130 * S + m) p k) := by
  refine RR.call (n := n) (i := 130 * S + m) (k := k) hc S0 h n0 n1 hi.symm ?_ ?_ ?_ ?_ ?_ ?_ ?_ ?_ ?_ ?_ ?_ z77
  · intro q h1 h2 h3
    funext j
    show gI (sI (sI (sI s 34 2 p) (c + 2) n.toNat 1) (c + 7) n.toNat k) q j = _
    rw [gI_nc h2, gI_nc h1, gI_nc h3]
  · show (sI (sI (sI s 34 2 p) (c + 2) n.toNat 1) (c + 7) n.toNat k).1 34 7 = _
    rw [sI_nc (p := 34) (show 34 ≠ c + 7 by omega), sI_nc (p := 34) (show 34 ≠ c + 2 by omega), sI_ne (p := 34) (q := 7) (by omega)]
  · intro j h0 h1
    show gI (sI (sI (sI s 34 2 p) (c + 2) n.toNat 1) (c + 7) n.toNat k) (c + 2) j = _
    rw [gI_nc (show c + 2 ≠ c + 7 by omega), gI_ni h0 n0 h1, gI_nc (show c + 2 ≠ 34 by omega)]
  · show gI (sI (sI (sI s 34 2 p) (c + 2) n.toNat 1) (c + 7) n.toNat k) (c + 2) n = _
    rw [gI_nc (show c + 2 ≠ c + 7 by omega), gI_eq]
  · intro j h0 h1
    show gI (sI (sI (sI s 34 2 p) (c + 2) n.toNat 1) (c + 7) n.toNat k) (c + 7) j = _
    rw [gI_ni h0 n0 h1, gI_nc (show c + 7 ≠ c + 2 by omega), gI_nc (show c + 7 ≠ 34 by omega)]
  · show gI (sI (sI (sI s 34 2 p) (c + 2) n.toNat 1) (c + 7) n.toNat k) (c + 7) n = _
    rw [gI_eq]
  · intro q h1 h2 h3
    funext j
    unfold mCall
    rw [gI_nc h3, gI_nc h2, gI_nc h1]
  · intro j h0 h1
    unfold mCall
    rw [gI_nc (show 77 ≠ 70 by decide), gI_nc (show 77 ≠ 84 by decide), gI_ni h0 (by omega) h1]
  · unfold mCall
    rw [gI_nc (show 77 ≠ 70 by decide), gI_nc (show 77 ≠ 84 by decide), gI_eq]
  · intro j h0 h1
    unfold mCall
    rw [gI_nc (show 84 ≠ 70 by decide), gI_ni h0 (by omega) h1, gI_nc (show 84 ≠ 77 by decide)]
  · unfold mCall
    rw [gI_nc (show 84 ≠ 70 by decide), gI_eq]

