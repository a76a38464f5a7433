/-! the turns: a set or a call; a throw or a return; the words of a condition -/
theorem name_s (x y : ST) (v : Int) : f_X3_nameOf x v = f_X3_nameOf y v := by rw [nameOf_r, nameOf_r]
theorem KE.cal {S m p k : Int} {t Y : ST} (S0 : 0 ≤ S) (hm : m = gI t 73 S) (m0 : 0 ≤ m) (h : KE S t Y) : KE S t (mCall Y (130 * S + m) p k) := by
  have g : ∀ a i, a ≠ 70 → a ≠ 77 → a ≠ 84 → gI (mCall Y (130 * S + m) p k) a i = gI Y a i := fun a i h1 h2 h3 => by
    unfold mCall
    rw [gI_nc h1, gI_nc h3, gI_nc h2]
  refine ⟨by rw [g 73 S (by decide) (by decide) (by decide)]; exact h.1, by rw [g 76 S (by decide) (by decide) (by decide)]; exact h.2.1, fun x hx => ?_, by rw [g 74 S (by decide) (by decide) (by decide)]; exact h.2.2.2.1, fun x hx => by rw [g 92 x (by decide) (by decide) (by decide)]; exact h.2.2.2.2 x hx⟩
  have q := h.2.2.1 x hx
  have x0 : 0 ≤ x := by have := hx.1; omega
  have x1 : x ≠ 130 * S + m := by have := hx.2; omega
  rw [g 78 x (by decide) (by decide) (by decide), g 85 x (by decide) (by decide) (by decide), g 86 x (by decide) (by decide) (by decide)]
  refine ⟨?_, q.2⟩
  unfold mCall
  rw [gI_nc (show 77 ≠ 70 by decide), gI_nc (show 77 ≠ 84 by decide), gI_ni x0 (by omega) x1]
  exact q.1
theorem turn_set {c : Nat} {S d pc n m p nm v : Int} {B : Int → Int} {s t : ST} (gT gY : ST → Int → Int → Int → ST) (hc : c = 2 ∨ c = 18) (S0 : 0 ≤ S) (d0 : 0 ≤ d) (h : SM c S (d + 1) pc B s t) (hpl : s.1 34 2 < s.1 34 1) (hn : n = gI t 75 S) (n39 : n ≤ 39) (hm : m = gI t 73 S) (m1 : m < 128) (hp : gI t 76 S - 1 = p) (hk : f_X3_kindBegunBy s v = 0) (hnm : f_X3_nameOf s v = nm) : TQ c S (d + 1) pc B s t (f_X3_readStatement s v) (f_X8_readItem_b_ gT gY 14 70 (B d) p d nm 0 t) := by
  obtain ⟨f, hf⟩ : ∃ f, f = gI t 90 (B d) := ⟨_, rfl⟩
  obtain ⟨l, hl⟩ : ∃ l, l = gI t 91 (B d) := ⟨_, rfl⟩
  have K := h.2.1.1
  have m0 : 0 ≤ m := by have := K.2.2.2.2.2.1; omega
  have n0 : 0 ≤ n := by have := K.2.2.2.1; omega
  have e1 := new_c (v := v) (pr := gI t 76 S) hc (show s.1 c 0 = n from K.1.trans hn.symm) (show s.1 36 0 = m from K.2.2.1.trans hm.symm) h.2.1.2.2.2.2.2.2.2 rfl (show s.1 c 1 = gI t 76 S from K.2.1) h.2.2.1 (by omega) m1 m0 hk (by omega)
  have e2 := new_m gT gY (p := p) (d := d) (nm := nm) (its := 0) (b := B d) (m := m) (n := n) (f := f) (l := l) h.2.2.2.1 hm.symm hn.symm h.1.2.2.2.2.2.2.2 hl.symm hf.symm rfl
  rewrite [hp, if_neg (fun z => z rfl)] at e1
  rewrite [if_neg (show ¬ (0 : Int) = 6 by omega), if_neg (fun z => z rfl)] at e2
  obtain ⟨c1, c2, c3, c4, c5, c6, c7, c8, c9, -⟩ := SM.cre (nm := nm) (its := 0) hc S0 d0 h hpl hn n39 hm hp (by omega) hf hl
  have cO := SM.creO (p := p) (nm := nm) (its := 0) (f := f) (l := l) (pl := s.1 34 2) (at1 := t.1 70 4) (x := s.1 46 (d + 1 - 1).toNat) hc S0 h hn hm (Or.inl rfl)
  rewrite [e1, e2]
  have x2 : (cNw s c n m (d + 1) (s.1 34 2) 0 p (s.1 46 (d + 1 - 1).toNat)).1 34 2 = s.1 34 2 + 1 := cNw_2 hc
  have xr : (cNw s c n m (d + 1) (s.1 34 2) 0 p (s.1 46 (d + 1 - 1).toNat)).2.2 34 4 = c := by rw [cNw_r hc]; exact h.2.2.1
  generalize cNw s c n m (d + 1) (s.1 34 2) 0 p (s.1 46 (d + 1 - 1).toNat) = X at *
  generalize mCl (mC1 t S n m p d (t.1 70 4) nm 0 (B d)) S m (t.1 70 4) (B d) f l = Y at *
  rewrite [show f_X3_nameOf X v = nm from (name_s X s v).trans hnm]
  have y2 : (sI X (c + 6) n.toNat nm).1 34 2 = s.1 34 2 + 1 := by rw [sI_nc (p := 34) (show 34 ≠ c + 6 by omega)]; exact x2
  rcases asg_r (n := n) (i := 130 * S + m) (nm := nm) hc n0 (by omega) c1 xr with q | ⟨p', k, w, w1, w2, w3, w4, q⟩
  · exact TQ.of hc S0 n0 q cO c7 c2 c3 (by omega) hm hn c5 c6 c4
  · have g : ∀ a i, a ≠ 70 → a ≠ 77 → a ≠ 84 → gI (mCall Y (130 * S + m) p' k) a i = gI Y a i := fun a i h1 h2 h3 => by
      unfold mCall
      rw [gI_nc h1, gI_nc h3, gI_nc h2]
    have cc : ∀ a : Nat, a = 8 ∨ a = 9 ∨ a = 10 → gI (cCall (sI X (c + 6) n.toNat nm) c n p' k w) (c + a) = gI (sI X (c + 6) n.toNat nm) (c + a) := fun a ha => by
      funext j
      show gI (sI (sI (sI (sI X (c + 6) n.toNat nm) 34 2 p') (c + 2) n.toNat 1) (c + 7) n.toNat k) (c + a) j = _
      rw [gI_nc (show c + a ≠ c + 7 by omega), gI_nc (show c + a ≠ c + 2 by omega), gI_nc (show c + a ≠ 34 by omega)]
    have cO2 : OPS c S (cCall (sI X (c + 6) n.toNat nm) c n p' k w) (mCall Y (130 * S + m) p' k) := by
      intro x x0 x1
      rw [g 75 S (by decide) (by decide) (by decide)] at x1
      have o := cO x x0 x1
      have i0 := (c2.2.1 x x0 x1).1.1
      rw [g 93 _ (by decide) (by decide) (by decide), g 82 _ (by decide) (by decide) (by decide)]
      refine ⟨?_, ?_⟩
      · show OV (gI (cCall (sI X (c + 6) n.toNat nm) c n p' k w) (c + 9) x) (gI (mCall Y (130 * S + m) p' k) 89 _) ∧ OV (gI (cCall (sI X (c + 6) n.toNat nm) c n p' k w) (c + 10) x) (gI (mCall Y (130 * S + m) p' k) 89 _) ∧ SV (gI (cCall (sI X (c + 6) n.toNat nm) c n p' k w) (c + 8) x) (gI (mCall Y (130 * S + m) p' k) 83 _)
        rw [cc 8 (by omega), cc 9 (by omega), cc 10 (by omega), g 89 _ (by decide) (by decide) (by decide), g 89 _ (by decide) (by decide) (by decide), g 83 _ (by decide) (by decide) (by decide)]
        exact o.1
      · by_cases z : gI Y 93 (40 * S + x) = 130 * S + m
        · rw [z]
          unfold mCall
          rw [gI_nc (show 77 ≠ 70 by decide), gI_nc (show 77 ≠ 84 by decide), gI_eq]
          exact Or.inr (Or.inl rfl)
        · unfold mCall
          rw [gI_nc (show 77 ≠ 70 by decide), gI_nc (show 77 ≠ 84 by decide), gI_ni (by omega) (by omega) z]
          exact o.2
    refine TQ.of hc S0 n0 q cO2 ((g 93 _ (by decide) (by decide) (by decide)).trans c7) (RR.cal hc S0 n0 m0 c2 (by omega) c7 c8) ?_ ?_ hm hn ?_ ?_ (KE.cal S0 hm m0 c4)
    · unfold mCall
      rw [sI_ne (p := 70) (q := 6) (by omega), sI_nc (p := 70) (show 70 ≠ 84 by decide), sI_nc (p := 70) (show 70 ≠ 77 by decide)]
      exact c3
    · have z : (cCall (sI X (c + 6) n.toNat nm) c n p' k w).1 34 2 = p' := by
        show (sI (sI (sI (sI X (c + 6) n.toNat nm) 34 2 p') (c + 2) n.toNat 1) (c + 7) n.toNat k).1 34 2 = p'
        rw [sI_nc (p := 34) (show 34 ≠ c + 7 by omega), sI_nc (p := 34) (show 34 ≠ c + 2 by omega), sI_eq]
      rw [z]
      omega
    · rw [g 73 S (by decide) (by decide) (by decide)]; exact c5
    · rw [g 75 S (by decide) (by decide) (by decide)]; exact c6
theorem turn_end {c : Nat} {S d pc n m p its v : Int} {B : Int → Int} {s t : ST} (gT gY : ST → Int → Int → Int → ST) (hc : c = 2 ∨ c = 18) (S0 : 0 ≤ S) (d0 : 0 ≤ d) (h : SM c S (d + 1) pc B s t) (hpl : s.1 34 2 < s.1 34 1) (hn : n = gI t 75 S) (n39 : n ≤ 39) (hm : m = gI t 73 S) (m1 : m < 128) (hp : gI t 76 S - 1 = p) (hk : f_X3_kindBegunBy s v = its) (hits : its = 4 ∨ its = 5) : TQ c S (d + 1) pc B s t (f_X3_readStatement s v) (f_X8_readItem_b_ gT gY 14 70 (B d) p d (-1) its t) := by
  obtain ⟨f, hf⟩ : ∃ f, f = gI t 90 (B d) := ⟨_, rfl⟩
  obtain ⟨l, hl⟩ : ∃ l, l = gI t 91 (B d) := ⟨_, rfl⟩
  have K := h.2.1.1
  have m0 : 0 ≤ m := by have := K.2.2.2.2.2.1; omega
  have n0 : 0 ≤ n := by have := K.2.2.2.1; omega
  have e1 := new_c (v := v) (pr := gI t 76 S) hc (show s.1 c 0 = n from K.1.trans hn.symm) (show s.1 36 0 = m from K.2.2.1.trans hm.symm) h.2.1.2.2.2.2.2.2.2 rfl (show s.1 c 1 = gI t 76 S from K.2.1) h.2.2.1 (by omega) m1 m0 hk (by omega)
  have e2 := new_m gT gY (p := p) (d := d) (nm := -1) (its := its) (b := B d) (m := m) (n := n) (f := f) (l := l) h.2.2.2.1 hm.symm hn.symm h.1.2.2.2.2.2.2.2 hl.symm hf.symm rfl
  rewrite [hp, if_pos (show ¬ its = 0 by omega), if_neg (show ¬ its = 2 by omega), if_pos (show ¬ its = 3 by omega)] at e1
  rewrite [if_neg (show ¬ its = 6 by omega), if_pos (show ¬ its = 0 by omega), if_neg (show ¬ its = 2 by omega), if_pos (show ¬ its = 3 by omega)] at e2
  obtain ⟨c1, c2, c3, c4, c5, c6, c7, c8, c9, -⟩ := SM.cre (nm := -1) (its := its) hc S0 d0 h hpl hn n39 hm hp (by omega) hf hl
  have cO := SM.creO (p := p) (nm := -1) (its := its) (f := f) (l := l) (pl := s.1 34 2) (at1 := t.1 70 4) (x := s.1 46 (d + 1 - 1).toNat) hc S0 h hn hm (Or.inr rfl)
  rewrite [e1, e2]
  have x2 : (cNw s c n m (d + 1) (s.1 34 2) its p (s.1 46 (d + 1 - 1).toNat)).1 34 2 = s.1 34 2 + 1 := cNw_2 hc
  have xr : (cNw s c n m (d + 1) (s.1 34 2) its p (s.1 46 (d + 1 - 1).toNat)).2.2 34 4 = c := by rw [cNw_r hc]; exact h.2.2.1
  have x6 : sI (cNw s c n m (d + 1) (s.1 34 2) its p (s.1 46 (d + 1 - 1).toNat)) (c + 6) n.toNat (-1) = cNw s c n m (d + 1) (s.1 34 2) its p (s.1 46 (d + 1 - 1).toNat) := by
    have q := sI_same (cNw s c n m (d + 1) (s.1 34 2) its p (s.1 46 (d + 1 - 1).toNat)) (c + 6) n.toNat
    rewrite [cNw_6 hc] at q
    exact q
  rewrite [x6] at c2 cO
  clear x6
  generalize cNw s c n m (d + 1) (s.1 34 2) its p (s.1 46 (d + 1 - 1).toNat) = X at *
  generalize mCl (mC1 t S n m p d (t.1 70 4) (-1) its (B d)) S m (t.1 70 4) (B d) f l = Y at *
  exact TQ.of hc S0 n0 (QQ.fin (n := n) (i := 130 * S + m) hc n0 (by omega) xr (Or.inl (GD.rfl c1 xr))) cO c7 c2 c3 (by omega) hm hn c5 c6 c4
/-- the words of a condition -/
noncomputable def cCo (X : ST) (n : Int) : ST := sI (f_X3_readOperand (f_X3_take (sI (f_X3_readOperand X).1 (X.2.2 34 4 + 9) n.toNat (f_X3_readOperand X).2) 60)).1 ((f_X3_take (sI (f_X3_readOperand X).1 (X.2.2 34 4 + 9) n.toNat (f_X3_readOperand X).2) 60).2.2 34 4 + 10) n.toNat (f_X3_readOperand (f_X3_take (sI (f_X3_readOperand X).1 (X.2.2 34 4 + 9) n.toNat (f_X3_readOperand X).2) 60)).2
noncomputable def mCo (Y : ST) (i : Int) : ST := f_X8_operand (f_X8_must (f_X8_operand Y i 0) 60) i 1
theorem cond_c (X : ST) (n m : Int) : f_X3_readCondition X n m = f_X3_openBlock (cCo X n) m 0 := by
  obtain ⟨fin, kf⟩ : ∃ z, z = f_X3_readCondition X n m := ⟨_, rfl⟩
  rewrite [← kf]
  unfold f_X3_readCondition at kf
  repeat first | rewrite [bd_r] at kf | rewrite [bd2_r] at kf
  rewrite [kf]
  unfold cCo
  rfl
theorem QQ.cond {c : Nat} {s0 t0 X Y : ST} {n i : Int} (hc : c = 2 ∨ c = 18) (n0 : 0 ≤ n) (i0 : 0 ≤ i) (h : QQ c n i s0 t0 X Y) : QQ c n i s0 t0 (cCo X n) (mCo Y i) :=
  QQ.oper (k := 10) (n := n) (i := i) (q := 1) hc n0 i0 (Or.inr ⟨rfl, rfl⟩) (QQ.take (a := 60) hc (by omega) (QQ.oper (k := 9) (n := n) (i := i) (q := 0) hc n0 i0 (Or.inl ⟨rfl, rfl⟩) h))

