/-! what the wiring leaves as it was -/
def WL (c : Nat) (s s' : ST) : Prop := s'.2 = s.2 ∧ ∀ p, p ≠ 42 → p ≠ 43 → p ≠ c + 11 → p ≠ c + 12 → p ≠ c + 13 → p ≠ c + 14 → p ≠ c + 15 → s'.1 p = s.1 p
theorem WL.rfl {c : Nat} {s : ST} : WL c s s := ⟨_root_.rfl, fun _ _ _ _ _ _ _ _ => _root_.rfl⟩
theorem WL.tr {c : Nat} {s u w : ST} (a : WL c s u) (b : WL c u w) : WL c s w := ⟨b.1.trans a.1, fun p h1 h2 h3 h4 h5 h6 h7 => (b.2 p h1 h2 h3 h4 h5 h6 h7).trans (a.2 p h1 h2 h3 h4 h5 h6 h7)⟩
theorem WL.I {c q j : Nat} {s u : ST} {x : Int} (a : WL c s u) (hq : q = 42 ∨ q = 43 ∨ q = c + 11 ∨ q = c + 12 ∨ q = c + 13 ∨ q = c + 14 ∨ q = c + 15) : WL c s (sI u q j x) := ⟨a.1, fun p h1 h2 h3 h4 h5 h6 h7 => (sI_nc (by omega)).trans (a.2 p h1 h2 h3 h4 h5 h6 h7)⟩
theorem WL.b {c : Nat} {s : ST} {k f a own : Int} : WL c s (cWb s c k f a own) := ⟨cWb_r, fun p _ _ h3 h4 h5 h6 h7 => cWb_o h3 h4 h5 h6 h7⟩
theorem WL.ws {c : Nat} {wb : ST → Int → Int → Int → ST × Int} (hc : c = 2 ∨ c = 18) (hw : ∀ X l f a, X.2.2 48 1 = c → WL c X (wb X l f a).1) {s : ST} {a2 a3 a4 : Int} (hr : s.2.2 48 1 = c) : WL c s (gWS wb s a2 a3 a4).1 := by
  rw [ws_r (wb := wb) (a2 := a2) (a3 := a3) (a4 := a4) hc hr _root_.rfl _root_.rfl _root_.rfl]
  have b := WL.b (c := c) (s := s) (k := s.1 37 a2.toNat) (f := a3) (a := a4) (own := s.1 (c + 3) (s.1 37 a2.toNat).toNat)
  generalize cWb s c (s.1 37 a2.toNat) a3 a4 (s.1 (c + 3) (s.1 37 a2.toNat).toNat) = X at *
  have xr : X.2.2 48 1 = c := by rw [b.1]; exact hr
  unfold gWk
  split
  · split
    · split
      · exact b
      · have w1 := (b.tr (hw X (X.1 39 a2.toNat) a3 a4 xr)).I (q := c + 13) (j := (s.1 37 a2.toNat).toNat) (x := (wb X (X.1 39 a2.toNat) a3 a4).2) (by omega)
        dsimp only
        generalize sI (wb X (X.1 39 a2.toNat) a3 a4).1 (c + 13) (s.1 37 a2.toNat).toNat (wb X (X.1 39 a2.toNat) a3 a4).2 = Y at *
        have yr : Y.2.2 48 1 = c := by rw [w1.1]; exact hr
        rw [yr]
        exact (w1.tr (hw Y (Y.1 40 a2.toNat) a3 a4 yr)).I (by omega)
    · exact (b.tr (hw X _ _ _ xr)).I (by omega)
  · exact b.I (by omega)
theorem WL.wt {c : Nat} {wb : ST → Int → Int → Int → ST × Int} (hw : ∀ X l f a, X.2.2 48 1 = c → WL c X (wb X l f a).1) {s : ST} {a2 a3 a4 : Int} (hr : s.2.2 48 1 = c) : WL c s (gWT wb s a2 a3 a4).1 := by
  obtain ⟨fin, kf⟩ : ∃ z, z = gWT wb s a2 a3 a4 := ⟨_, _root_.rfl⟩
  rewrite [← kf]
  unfold gWT at kf
  have j1 := bd_e kf _root_.rfl
  have j2 := bd2_e j1 (show ((wb s (s.1 40 a2.toNat) a3 a4).1, (wb s (s.1 40 a2.toNat) a3 a4).2) = wb s (s.1 40 a2.toNat) a3 a4 from _root_.rfl)
  have j3 := bd_e j2 _root_.rfl
  have w1 := (hw s (s.1 40 a2.toNat) a3 a4 hr).I (q := 42) (j := a2.toNat) (x := (wb s (s.1 40 a2.toNat) a3 a4).2) (by omega)
  generalize (wb s (s.1 40 a2.toNat) a3 a4).2 = e at *
  generalize sI (wb s (s.1 40 a2.toNat) a3 a4).1 42 a2.toNat e = Y at *
  by_cases z : e = a3
  · have j4 := if_f j3 (fun q => q z)
    have j5 := bd_e j4 _root_.rfl
    have w2 := w1.I (q := 43) (j := a2.toNat) (x := -2) (by omega)
    generalize sI Y 43 a2.toNat (-2) = Z at *
    rewrite [bd_r, bd2_r] at j5
    rw [j5]
    exact w2.tr (hw Z _ _ _ (by rw [w2.1]; exact hr))
  · have j4 := if_t j3 z
    have j5 := bd_e j4 _root_.rfl
    have w2 := w1.I (q := 43) (j := a2.toNat) (x := e) (by omega)
    generalize sI Y 43 a2.toNat e = Z at *
    rewrite [bd_r, bd2_r] at j5
    rw [j5]
    exact w2.tr (hw Z _ _ _ (by rw [w2.1]; exact hr))
theorem WL.wl {c : Nat} {ws wt : ST → Int → Int → Int → ST × Int} (h1 : ∀ X i f a, X.2.2 48 1 = c → WL c X (ws X i f a).1) (h2 : ∀ X i f a, X.2.2 48 1 = c → WL c X (wt X i f a).1) : ∀ (n : Nat) (a f i k : Int) (s : ST), s.2.2 48 1 = c → WL c s (gWB_ ws wt n a f i k s).1 := by
  intro n
  induction n with
  | zero => intro a f i k s _; exact WL.rfl
  | succ n ih =>
    intro a f i k s hr
    rw [gWB_]
    split
    · exact WL.rfl
    · split
      · exact WL.rfl
      · rewrite [bd_r]
        split
        · rewrite [bd2_r, bd_r]
          have w := h1 s i f a hr
          exact w.tr (ih _ _ _ _ _ (by rw [w.1]; exact hr))
        · rewrite [bd2_r, bd_r]
          have w := h2 s i f a hr
          exact w.tr (ih _ _ _ _ _ (by rw [w.1]; exact hr))
theorem WL.all {c : Nat} (hc : c = 2 ∨ c = 18) : ∀ (n : Nat) (s : ST) (l f a : Int), s.2.2 48 1 = c → WL c s (gW n s l f a).1 := by
  intro n
  induction n with
  | zero => intro s l f a _; exact WL.rfl
  | succ n ih =>
    intro s l f a hr
    have e : gW (n + 1) s l f a = gWB_ (gWS (gW n)) (gWT (gW n)) 403 a f l 0 s := by rw [gW]
    rewrite [e]
    generalize (403 : Nat) = N
    exact WL.wl (fun X i f a hx => WL.ws hc (fun X l f a hx => ih X l f a hx) hx) (fun X i f a hx => WL.wt (fun X l f a hx => ih X l f a hx) hx) N a f l 0 s hr

