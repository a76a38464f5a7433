/-! the reference: what goes through, round after round -/
def TT8 (s : ST) (q b i : Int) : Prop := ib (s.1 108 (6 * q + b).toNat) i
def EQ8 (s s' : ST) : Prop := s'.2 = s.2 ∧ ∀ p j, p ≠ 108 → p ≠ 109 → p ≠ 110 → ¬ (p = 70 ∧ j = 47) → s'.1 p j = s.1 p j
theorem EQ8.rfl {s : ST} : EQ8 s s := ⟨_root_.rfl, fun _ _ _ _ _ _ => _root_.rfl⟩
theorem EQ8.tr {s u w : ST} (a : EQ8 s u) (b : EQ8 u w) : EQ8 s w := ⟨b.1.trans a.1, fun p j h1 h2 h3 h4 => (b.2 p j h1 h2 h3 h4).trans (a.2 p j h1 h2 h3 h4)⟩
theorem EQR.e8 {s s' : ST} (h : EQR s s') : EQ8 s s' := ⟨h.1, fun p j _ h2 h3 h4 => h.2 p j h2 h3 h4⟩
theorem EQ8.I {s : ST} {k : Nat} {v : Int} : EQ8 s (sI s 108 k v) := ⟨_root_.rfl, fun _ _ h _ _ _ => sI_ne (fun w => h w.1)⟩
theorem ior0_tab : ∀ a : Fin 64, o_ior (a.val : Int) 0 = (a.val : Int) := by decide +kernel
theorem ior_z {a : Int} (a0 : 0 ≤ a) (a1 : a < 64) : o_ior a 0 = a := by
  have t := ior0_tab ⟨a.toNat, by omega⟩
  dsimp only at t
  rw [show ((a.toNat : Nat) : Int) = a by omega] at t
  exact t
section L
variable {c : Nat} {S : Int} {F : Nat → Nat → Int}
def RL0 (c : Nat) (F : Nat → Nat → Int) (s : ST) : Prop := RS F s ∧ (∀ y x, 0 ≤ y → y < 585 → 0 ≤ x → x < 585 → (RH s y x ↔ DHc c F y x))
theorem RL0.e {s s' : ST} (h : EQ8 s s') (a : RL0 c F s) : RL0 c F s' := by
  obtain ⟨a1, a2⟩ := a
  refine ⟨fun q j h1 h2 h3 h4 h5 => (h.2 q j h2 h3 h4 h5).trans (a1 q j h1 h2 h3 h4 h5), fun y x y0 y1 x0 x1 => ?_⟩
  unfold RH
  rw [h.2 103 _ (by decide) (by decide) (by decide) (by omega)]
  exact a2 y x y0 y1 x0 x1
/-- between two steps -/
def GI8 (c : Nat) (F : Nat → Nat → Int) (s : ST) : Prop := RL0 c F s ∧ (∀ j : Nat, j < 30 → 0 ≤ s.1 108 j ∧ s.1 108 j < 64) ∧ (∀ p b i, RNG c F p b i → TT8 s p b i → TSM c F p b i) ∧ (∀ p b i, RNG c F p b i → TT8 s p b i → PHI c F (TT8 s) p b i)
noncomputable def CN8 (s : ST) : Nat := cc (fun k => ib (s.1 108 (k / 6)) ((k % 6 : Nat) : Int)) 180
theorem CN8.le (s : ST) : CN8 s ≤ 180 := cc_le _ _
/-- what goes through one procedure, from one of its ends -/
theorem srch (b : BRI c S F) (hS : F 70 6 = S) {s : ST} {p q : Int} (p0 : 0 ≤ p) (p1 : p < F c 1) (q0 : 0 ≤ q) (q1 : q < 6) (rl : RL0 c F s) : EQR s (f_X8_goes_ff2 (f_X8_reach2 (f_X8_empties_x2 s) (13 * (40 + p) + 7 + q)) 0 0) ∧ ∀ i, 0 ≤ i → i < 6 → (RX (f_X8_goes_ff2 (f_X8_reach2 (f_X8_empties_x2 s) (13 * (40 + p) + 7 + q)) 0 0) (13 * (40 + p) + 1 + i) ↔ PHI c F (TT8 s) p q i) := by
  have f := b.2.2.2.2.1
  have p5 := f.2.1
  have em := em_ok s
  have nil := RIV.nil (R := STP c F (TT8 s) 0) (ex := NOx) s
  generalize f_X8_empties_x2 s = t at em nil ⊢
  have ad := RIV.add (fun y z r => (STP.v f r).r f) nil.1 (show 0 ≤ 13 * (40 + p) + 7 + q by omega) (show 13 * (40 + p) + 7 + q < 585 by omega)
  generalize f_X8_reach2 t (13 * (40 + p) + 7 + q) = w at ad ⊢
  have e := em.1.tr ad.2.1
  have rlc : RLC c F (TT8 s) w := by
    have z : RLC c F (TT8 s) s := ⟨rl.1, rl.2, fun _ _ _ _ => Iff.rfl⟩
    exact z.e e
  have X : (fun z => False ∨ z = 13 * (40 + p) + 7 + q) = (fun z => z = 13 * (40 + p) + 7 + q) := funext fun z => propext ⟨fun k => by rcases k with k | k; (exact absurd k id); (exact k), Or.inr⟩
  have r1 := ad.1
  rw [X] at r1
  have g := goesff_ok (T := TT8 s) b hS (s := w) (X0 := fun z => z = 13 * (40 + p) + 7 + q) ⟨EQR.rfl, rlc, r1, ad.2.2.2.2.trans nil.2⟩
  refine ⟨e.tr g.1, fun i i0 i1 => ?_⟩
  exact g.2.2 _ (by omega) (by omega)
/-- a new row of what goes through -/
theorem g8_step (f : CFC c F) {s : ST} {p b v : Int} (p0 : 0 ≤ p) (p1 : p < F c 1) (b0 : 0 ≤ b) (b1 : b < 6) (g : GI8 c F s) {s1 : ST} (e : EQR s s1) (v0 : 0 ≤ v) (v1 : v < 64) (hv : ∀ i, 0 ≤ i → i < 6 → (ib v i ↔ PHI c F (TT8 s) p b i)) : EQ8 s (sI s1 108 (6 * p + b).toNat v) ∧ GI8 c F (sI s1 108 (6 * p + b).toNat v) ∧ CN8 s ≤ CN8 (sI s1 108 (6 * p + b).toNat v) ∧ (v ≠ s.1 108 (6 * p + b).toNat → CN8 s + 1 ≤ CN8 (sI s1 108 (6 * p + b).toNat v)) ∧ (v = s.1 108 (6 * p + b).toNat → (∀ j : Nat, (sI s1 108 (6 * p + b).toNat v).1 108 j = s.1 108 j) ∧ ∀ i, 0 ≤ i → i < 6 → PHI c F (TT8 s) p b i → TT8 s p b i) := by
  obtain ⟨sl, sm, ga, gb⟩ := g
  have p5 := f.2.1
  have i51 : ∀ j : Nat, s1.1 108 j = s.1 108 j := fun j => e.2 108 j (by decide) (by decide) (by omega)
  obtain ⟨k, hk⟩ : ∃ k, k = (6 * p + b).toNat := ⟨_, rfl⟩
  have k30 : k < 30 := by omega
  obtain ⟨s', hs⟩ : ∃ s', s' = sI s1 108 k v := ⟨_, rfl⟩
  rw [← hk, ← hs]
  have r51 : ∀ j : Nat, s'.1 108 j = if j = k then v else s.1 108 j := fun j => by
    rw [hs]
    by_cases z : j = k
    · rw [if_pos z, z, sI_eq]
    · rw [if_neg z, sI_ne (fun w => z w.2), i51]
  have e5 : EQ8 s s' := by
    refine e.e8.tr ?_
    rw [hs]
    exact EQ8.I
  have ix : ∀ q b' i, RNG c F q b' i → ((6 * q + b').toNat = k ↔ q = p ∧ b' = b) := fun q b' i r => by
    obtain ⟨r1, r2, r3, r4, r5, r6⟩ := r
    omega
  have tt : ∀ q b' i, RNG c F q b' i → (TT8 s' q b' i ↔ (q = p ∧ b' = b ∧ PHI c F (TT8 s) p b i) ∨ (¬ (q = p ∧ b' = b) ∧ TT8 s q b' i)) := fun q b' i r => by
    unfold TT8
    rw [r51]
    by_cases z : q = p ∧ b' = b
    · rw [if_pos ((ix q b' i r).mpr z), hv i r.2.2.2.2.1 r.2.2.2.2.2]
      exact ⟨fun h => Or.inl ⟨z.1, z.2, h⟩, fun h => by rcases h with h | h; (exact h.2.2); (exact absurd z h.1)⟩
    · rw [if_neg (fun w => z ((ix q b' i r).mp w))]
      exact ⟨fun h => Or.inr ⟨z, h⟩, fun h => by rcases h with h | h; (exact absurd ⟨h.1, h.2.1⟩ z); (exact h.2)⟩
  have up : ∀ q b' i, RNG c F q b' i → TT8 s q b' i → TT8 s' q b' i := fun q b' i r h => by
    rw [tt q b' i r]
    by_cases z : q = p ∧ b' = b
    · rw [z.1, z.2] at h r
      exact Or.inl ⟨z.1, z.2, gb p b i r h⟩
    · exact Or.inr ⟨z, h⟩
  have pu : ∀ q b' i, PHI c F (TT8 s) q b' i → PHI c F (TT8 s') q b' i := fun q b' i h => PHI.mono f up h
  have bits : ∀ j : Nat, j < 30 → ∀ i, 0 ≤ i → i < 6 → ib (s.1 108 j) i → ib (s'.1 108 j) i := fun j hj i i0 i1 h => by
    rw [r51]
    by_cases z : j = k
    · rw [if_pos z, hv i i0 i1]
      refine gb p b i ⟨p0, p1, b0, b1, i0, i1⟩ ?_
      unfold TT8
      rw [show (6 * p + b).toNat = j by omega]
      exact h
    · rw [if_neg z]; exact h
  refine ⟨e5, ⟨sl.e e5, fun j hj => ?_, fun q b' i r h => ?_, fun q b' i r h => ?_⟩, ?_, fun ne => ?_, fun ev => ⟨fun j => ?_, fun i i0 i1 h => ?_⟩⟩
  · rw [r51]
    by_cases z : j = k
    · rw [if_pos z]; exact ⟨v0, v1⟩
    · rw [if_neg z]; exact sm j hj
  · rcases (tt q b' i r).mp h with ⟨z1, z2, h⟩ | ⟨_, h⟩
    · rw [z1, z2] at r ⊢
      exact TSM.pre f p b i r (PHI.mono f ga h)
    · exact ga q b' i r h
  · rcases (tt q b' i r).mp h with ⟨z1, z2, h⟩ | ⟨_, h⟩
    · rw [z1, z2]; exact pu p b i h
    · exact pu q b' i (gb q b' i r h)
  · exact cc_mono (fun m hm h => bits (m / 6) (by omega) _ (by omega) (by omega) h)
  · have nb : ∃ i, 0 ≤ i ∧ i < 6 ∧ ib v i ∧ ¬ ib (s.1 108 k) i := by
      refine Classical.byContradiction (fun no => ne (ib_inj v0 v1 (sm k k30).1 (sm k k30).2 (fun i i0 i1 => ⟨fun h => Classical.byContradiction (fun w => no ⟨i, i0, i1, h, w⟩), fun h => ?_⟩)))
      have z := bits k k30 i i0 i1 h
      rw [r51, if_pos rfl] at z
      exact z
    obtain ⟨i, i0, i1, h1, h2⟩ := nb
    refine cc_lt (x := 6 * k + i.toNat) (fun m hm h => bits (m / 6) (by omega) _ (by omega) (by omega) h) (by omega) ?_ ?_
    · rw [show (6 * k + i.toNat) / 6 = k by omega, show (((6 * k + i.toNat) % 6 : Nat) : Int) = i by omega]
      exact h2
    · rw [show (6 * k + i.toNat) / 6 = k by omega, show (((6 * k + i.toNat) % 6 : Nat) : Int) = i by omega, r51, if_pos rfl]
      exact h1
  · rw [r51]
    by_cases z : j = k
    · rw [if_pos z, z]; exact ev
    · rw [if_neg z]
  · unfold TT8
    rw [show (6 * p + b).toNat = k by omega, ← ev]
    exact (hv i i0 i1).mpr h
def GR8 (c : Nat) (F : Nat → Nat → Int) (s0 sr s : ST) (v : Int) : Prop := EQ8 s0 s ∧ GI8 c F s ∧ (v = 0 ∨ v = 1) ∧ CN8 sr ≤ CN8 s ∧ (v = 1 → CN8 sr + 1 ≤ CN8 s)
/-- what stands still, of the rows ahead of k -/
def GS8 (c : Nat) (F : Nat → Nat → Int) (s : ST) (k : Int) : Prop := ∀ q b' i, RNG c F q b' i → 6 * q + b' < k → PHI c F (TT8 s) q b' i → TT8 s q b' i
def LF8 (c : Nat) (F : Nat → Nat → Int) (s0 s : ST) : Prop := EQ8 s0 s ∧ GI8 c F s ∧ PRE c F (TT8 s)
theorem lt_n (b : BRI c S F) (hS : F 70 6 = S) {s0 : ST} : ∀ n : Nat,
    (∀ (v x2 x3 x4 : Int) (s : ST), EQ8 s0 s → GI8 c F s → (v = 0 ∨ v = 1) → (v = 0 → PRE c F (TT8 s)) → (v = 1 → 400 * (190 - (CN8 s : Int)) + 350 < (n : Int)) → 1 < (n : Int) → LF8 c F s0 (f_X8_laysThrough2_ n 23 v x2 x3 x4 s)) ∧
    (∀ (v k x3 x4 : Int) (sr s : ST), GR8 c F s0 sr s v → 0 ≤ k → k ≤ 6 * F c 1 → (v = 0 → GS8 c F s k) → 400 * (190 - (CN8 sr : Int)) + 300 - 9 * k < (n : Int) → LF8 c F s0 (f_X8_laysThrough2_ n 31 v k x3 x4 s)) ∧
    (∀ (v k w i : Int) (sr s s1 : ST), GR8 c F s0 sr s v → EQR s s1 → 0 ≤ k → k < 6 * F c 1 → (v = 0 → GS8 c F s k) → 0 ≤ i → i ≤ 6 → 0 ≤ w → w < 64 → (∀ j, 0 ≤ j → j < 6 → (ib w j ↔ j < i ∧ PHI c F (TT8 s) (k / 6) (k % 6) j)) → (∀ j, 0 ≤ j → j < 6 → (RX s1 (13 * (40 + k / 6) + 1 + j) ↔ PHI c F (TT8 s) (k / 6) (k % 6) j)) → 400 * (190 - (CN8 sr : Int)) + 299 - 9 * k - i < (n : Int) → LF8 c F s0 (f_X8_laysThrough2_ n 80 v k w i s1)) := by
  intro n
  have f := b.2.2.2.2.1
  have p5 := f.2.1
  induction n with
  | zero =>
    refine ⟨by intros; omega, fun v k _ _ sr s _ _ _ _ hm => ?_, fun v k w i sr s s1 _ _ _ _ _ _ _ _ _ _ _ hm => ?_⟩
    all_goals
      have := CN8.le sr
      omega
  | succ n ih =>
    refine ⟨fun v x2 x3 x4 s e g v01 pr hm h1 => ?_, fun v k x3 x4 sr s g k0 k1 gs hm => ?_, fun v k w i sr s s1 g e k0 k1 gs i0 i1 w0 w1 hw hx hm => ?_⟩
    · rw [f_X8_laysThrough2_, if_neg (by decide), if_pos rfl]
      by_cases z : v = 0
      · rw [if_pos z]
        exact ⟨e, g, pr z⟩
      · rw [if_neg z]
        have v1 : v = 1 := by omega
        have m := hm v1
        exact ih.2.1 0 0 0 0 s s ⟨e, g, Or.inl rfl, Nat.le_refl _, fun h => absurd h (by decide)⟩ (by omega) (by omega) (fun _ q b' i r h => by have := r.1; have := r.2.2.1; omega) (by omega)
    · have rs := g.2.1.1.1
      rw [f_X8_laysThrough2_, if_neg (by decide), if_neg (by decide), if_pos rfl, bd_r, bd_r, rs.g (q := 70) (j := 6) (by omega), hS, rs.g (q := 76) (by omega), b.2.2.2.1]
      by_cases z : 6 * F c 1 ≤ k
      · rw [if_pos z]
        have cl := CN8.le sr
        refine ih.1 v 0 0 0 s g.1 g.2.1 g.2.2.1 (fun v0 q b' i r h => gs v0 q b' i r ?_ h) (fun v1 => ?_) (by omega)
        · obtain ⟨r1, r2, r3, r4, _, _⟩ := r
          omega
        · have := g.2.2.2.2 v1
          omega
      · rw [if_neg z, bd_r, bd_r, bd_r, bd_r]
        have sc := srch b hS (show 0 ≤ k / 6 by omega) (show k / 6 < F c 1 by omega) (show 0 ≤ k % 6 by omega) (show k % 6 < 6 by omega) g.2.1.1
        rw [show f_X8_procedurePlace_x2 (f_X8_empties_x2 s) (k / 6) (7 + k % 6) = 13 * (40 + k / 6) + 7 + k % 6 by unfold f_X8_procedurePlace_x2; omega]
        generalize f_X8_goes_ff2 (f_X8_reach2 (f_X8_empties_x2 s) (13 * (40 + k / 6) + 7 + k % 6)) 0 0 = s1 at sc ⊢
        exact ih.2.2 v k 0 0 sr s s1 g sc.1 k0 (by omega) gs (by omega) (by omega) (by omega) (by omega) (fun j j0 j1 => ⟨fun h => absurd h ib_0, fun h => by omega⟩) sc.2 (by omega)
    · rw [f_X8_laysThrough2_, if_neg (by decide), if_neg (by decide), if_neg (by decide)]
      by_cases z : 6 ≤ i
      · rw [if_pos z]
        have hv : ∀ j, 0 ≤ j → j < 6 → (ib w j ↔ PHI c F (TT8 s) (k / 6) (k % 6) j) := fun j j0 j1 => (hw j j0 j1).trans ⟨fun h => h.2, fun h => ⟨by omega, h⟩⟩
        have st := g8_step f (show 0 ≤ k / 6 by omega) (show k / 6 < F c 1 by omega) (show 0 ≤ k % 6 by omega) (show k % 6 < 6 by omega) g.2.1 e w0 w1 hv
        rw [show 6 * (k / 6) + k % 6 = k by omega] at st
        obtain ⟨t1, t2, t3, t4, t5⟩ := st
        have o8 : s1.1 108 k.toNat = s.1 108 k.toNat := e.2 108 _ (by decide) (by decide) (by omega)
        have c0 := g.2.2.2.1
        have go1 : (v = 1 ∨ w ≠ s.1 108 k.toNat) → LF8 c F s0 (f_X8_laysThrough2_ n 31 1 (k + 1) 0 0 (sI s1 108 k.toNat w)) := fun hh => by
          refine ih.2.1 1 (k + 1) 0 0 sr _ ⟨g.1.tr t1, t2, Or.inr rfl, by omega, fun _ => ?_⟩ (by omega) (by omega) (fun h => absurd h (by decide)) (by omega)
          rcases hh with hh | hh
          · have := g.2.2.2.2 hh; omega
          · have := t4 hh; omega
        by_cases y : v = 0
        · rw [if_neg (fun q => q y), bd_r, o8]
          by_cases x : w = s.1 108 k.toNat
          · rw [if_pos x, bd_r]
            have s5 := t5 x
            refine ih.2.1 0 (k + 1) 0 0 sr _ ⟨g.1.tr t1, t2, Or.inl rfl, by omega, fun h => absurd h (by decide)⟩ (by omega) (by omega) (fun _ q b' j r hl ph => ?_) (by omega)
            have et : TT8 (sI s1 108 k.toNat w) = TT8 s := by
              funext q b i
              unfold TT8
              rw [s5.1]
            rw [et] at ph ⊢
            by_cases kk : 6 * q + b' = k
            · have eq : q = k / 6 := by have := r.2.2.1; have := r.2.2.2.1; omega
              have eb : b' = k % 6 := by have := r.2.2.1; have := r.2.2.2.1; omega
              rw [eq, eb] at ph ⊢
              exact s5.2 j r.2.2.2.2.1 r.2.2.2.2.2 ph
            · exact gs y q b' j r (by omega) ph
          · rw [if_neg x, bd_r]
            exact go1 (Or.inr x)
        · rw [if_pos y, bd_r]
          exact go1 (Or.inl (by have := g.2.2.1; omega))
      · rw [if_neg z, bd_r, bd_r, show f_X8_procedurePlace_x2 s1 (k / 6) (1 + i) = 13 * (40 + k / 6) + 1 + i by unfold f_X8_procedurePlace_x2; omega]
        have is := isx_r (s := s1) (x := 13 * (40 + k / 6) + 1 + i) (by omega)
        rw [hx i i0 (by omega)] at is
        by_cases y : f_X8_isInSet_x2 s1 (13 * (40 + k / 6) + 1 + i) = 0
        · rw [if_pos y, bd_r, show o_ior w 0 = w from ior_z w0 w1]
          have np := is.mp y
          exact ih.2.2 v k w (i + 1) sr s s1 g e k0 k1 gs (by omega) (by omega) w0 w1 (fun j j0 j1 => by
            rw [hw j j0 j1]
            constructor
            · intro h; exact ⟨by omega, h.2⟩
            · intro h
              by_cases q : j = i
              · rw [q] at h; exact absurd h.2 np
              · exact ⟨by omega, h.2⟩) hx (by omega)
        · rw [if_neg y, bd_r, bd_r]
          have yp := Classical.byContradiction (fun h => y (is.mpr h))
          have r := ior_64 w0 w1 i0 (show i < 6 by omega)
          exact ih.2.2 v k _ (i + 1) sr s s1 g e k0 k1 gs (by omega) (by omega) r.1 r.2 (fun j j0 j1 => by
            rw [ib_or i0 (by omega) j0 (by omega), hw j j0 j1]
            constructor
            · rintro (h | h)
              · exact ⟨by omega, h.2⟩
              · rw [h]; exact ⟨by omega, yp⟩
            · intro h
              by_cases q : j = i
              · exact Or.inr q
              · exact Or.inl ⟨by omega, h.2⟩) hx (by omega)
theorem lz_n {s0 : ST} : ∀ (n : Nat) (l : Int) (s : ST), 0 ≤ l → l ≤ 30 → EQ8 s0 s → (∀ j : Nat, (j : Int) < l → s.1 108 j = 0) → 40 - l < (n : Int) → ∃ m s', f_X8_laysThrough2_ n 2 l 0 0 0 s = f_X8_laysThrough2_ m 23 1 0 0 0 s' ∧ EQ8 s0 s' ∧ (∀ j : Nat, j < 30 → s'.1 108 j = 0) ∧ (n : Int) - 31 + l ≤ (m : Int) := by
  intro n
  induction n with
  | zero => intros; omega
  | succ n ih =>
    intro l s l0 l1 e h hm
    rw [f_X8_laysThrough2_, if_pos rfl]
    by_cases z : 30 ≤ l
    · rw [if_pos z]
      exact ⟨n, s, rfl, e, fun j hj => h j (by omega), by omega⟩
    · rw [if_neg z, bd_r]
      obtain ⟨m, s', e1, e2, e3, e4⟩ := ih (l + 1) (sI s 108 l.toNat 0) (by omega) (by omega) (e.tr EQ8.I) (fun j hj => by
        by_cases k : (j : Int) = l
        · rw [show l.toNat = j by omega, sI_eq]
        · rw [sI_ne (by omega)]
          exact h j (by omega)) (by omega)
      exact ⟨m, s', e1, e2, e3, by omega⟩
theorem lt_ok (b : BRI c S F) (hS : F 70 6 = S) {s : ST} (rl : RL0 c F s) : EQ8 s (f_X8_laysThrough2 s) ∧ ∀ q p i, RNG c F q p i → (ib ((f_X8_laysThrough2 s).1 108 (6 * q + p).toNat) i ↔ TSM c F q p i) := by
  have bb := b
  unfold f_X8_laysThrough2
  have q := BG_le 2000001
  generalize BG 2000001 = N at q ⊢
  obtain ⟨m, s', e1, e2, e3, e4⟩ := lz_n (s0 := s) N 0 s (by omega) (by omega) EQ8.rfl (fun j hj => by omega) (by omega)
  rw [e1]
  have none : ∀ p b i, RNG c F p b i → ¬ TT8 s' p b i := fun p b i rg h => by
    obtain ⟨a1, a2, a3, a4, _, _⟩ := rg
    have p5 := bb.2.2.2.2.1.2.1
    unfold TT8 at h
    rw [e3 _ (by omega)] at h
    exact ib_0 h
  have gi : GI8 c F s' := ⟨rl.e e2, fun j hj => by rw [e3 j hj]; omega, fun p b i rg h => absurd h (none p b i rg), fun p b i rg h => absurd h (none p b i rg)⟩
  have r := (lt_n b hS (s0 := s) m).1 1 0 0 0 s' e2 gi (Or.inr rfl) (fun h => absurd h (by decide)) (fun _ => by have := CN8.le s'; omega) (by omega)
  exact ⟨r.1, fun q p i rg => TSM.of r.2.1.2.2.1 r.2.2 rg⟩
end L
