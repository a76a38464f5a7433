/-! the reference: its searching -/
def RLC (c : Nat) (F : Nat → Nat → Int) (T : Int → Int → Int → Prop) (s : ST) : Prop := RS F s ∧ (∀ y x, 0 ≤ y → y < 585 → 0 ≤ x → x < 585 → (RH s y x ↔ DHc c F y x)) ∧ (∀ q b i, RNG c F q b i → (ib (s.1 108 (6 * q + b).toNat) i ↔ T q b i))
def PEND (s : ST) (y : Int) : Prop := ∃ j, 0 ≤ j ∧ j < s.1 70 47 ∧ s.1 110 j.toNat = y
/-- while it searches: ex is being followed -/
def RIV (R : Int → Int → Prop) (X0 ex : Int → Prop) (s : ST) : Prop := 0 ≤ s.1 70 47 ∧ (∀ y, PEND s y → 0 ≤ y ∧ y < 585 ∧ RX s y) ∧ (∀ x, X0 x → 0 ≤ x ∧ x < 585 ∧ RX s x) ∧ (∀ x, 0 ≤ x → x < 585 → RX s x → CLO R X0 x) ∧ (∀ y, 0 ≤ y → y < 585 → RX s y → ex y ∨ PEND s y ∨ ∀ x, R y x → RX s x)
noncomputable def FI9 (s : ST) : Int := (CN9 s : Int) - s.1 70 47
section R
variable {c : Nat} {S : Int} {F : Nat → Nat → Int} {T : Int → Int → Int → Prop}
theorem RLC.e {s s' : ST} (h : EQR s s') (a : RLC c F T s) : RLC c F T s' := by
  obtain ⟨a1, a2, a3⟩ := a
  refine ⟨fun q j h1 h2 h3 h4 h5 => (h.2 q j h3 h4 h5).trans (a1 q j h1 h2 h3 h4 h5), fun y x y0 y1 x0 x1 => ?_, fun q b i r => ?_⟩
  · unfold RH
    rw [h.2 103 _ (by decide) (by decide) (by omega)]
    exact a2 y x y0 y1 x0 x1
  · rw [h.2 108 _ (by decide) (by decide) (by omega)]
    exact a3 q b i r
theorem RIV.reach1 {R : Int → Int → Prop} (vr : ∀ y x, R y x → 0 ≤ x ∧ x < 585) {X0 X1 ex : Int → Prop} {s : ST} {x : Int} (h : RIV R X0 ex s) (x0 : 0 ≤ x) (x1 : x < 585) (hX : ∀ z, X0 z → X1 z) (hY : ∀ z, X1 z → X0 z ∨ z = x) (cx : CLO R X1 x) : RIV R X1 ex (f_X8_reach2 s x) ∧ EQR s (f_X8_reach2 s x) ∧ (∀ z, 0 ≤ z → z < 585 → RX s z → RX (f_X8_reach2 s x) z) ∧ RX (f_X8_reach2 s x) x ∧ FI9 (f_X8_reach2 s x) = FI9 s := by
  obtain ⟨h1, h2, h3, h4, h5⟩ := h
  obtain ⟨e, rx, w, ol, nw, a1, a2, fi⟩ := reach_ok x0 x1 h1
  generalize f_X8_reach2 s x = t at e rx w ol nw a1 a2 fi ⊢
  have up : ∀ z, 0 ≤ z → z < 585 → RX s z → RX t z := fun z z0 z1 k => (rx z z0 z1).mpr (Or.inl k)
  have pe : ∀ y, PEND s y → PEND t y := fun y ⟨j, j0, j1, k⟩ => ⟨j, j0, by omega, (ol j j0 j1).trans k⟩
  have xt : RX t x := (rx x x0 x1).mpr (Or.inr rfl)
  refine ⟨⟨by omega, fun y ⟨j, j0, j1, k⟩ => ?_, fun z k => ?_, fun z z0 z1 k => ?_, fun y y0 y1 k => ?_⟩, e, up, xt, fi⟩
  · by_cases q : j < s.1 70 47
    · have z := h2 y ⟨j, j0, q, by rw [← ol j j0 q]; exact k⟩
      exact ⟨z.1, z.2.1, up y z.1 z.2.1 z.2.2⟩
    · have z := nw j (by omega) j1
      rw [← k, z]
      exact ⟨x0, x1, xt⟩
  · rcases hY z k with g | g
    · exact ⟨(h3 z g).1, (h3 z g).2.1, up z (h3 z g).1 (h3 z g).2.1 (h3 z g).2.2⟩
    · rw [g]; exact ⟨x0, x1, xt⟩
  · rcases (rx z z0 z1).mp k with g | g
    · exact CLO.mono (fun _ _ r => r) hX (h4 z z0 z1 g)
    · rw [g]; exact cx
  · by_cases g : RX s y
    · rcases h5 y y0 y1 g with q | q | q
      · exact Or.inl q
      · exact Or.inr (Or.inl (pe y q))
      · exact Or.inr (Or.inr (fun z r => up z (vr y z r).1 (vr y z r).2 (q z r)))
    · have g2 := (rx y y0 y1).mp k
      rcases g2 with g2 | g2
      · exact absurd g2 g
      · have nx : ¬ RX s x := by rw [← g2]; exact g
        exact Or.inr (Or.inl ⟨s.1 70 47, h1, by rw [a1 nx]; omega, by rw [nw _ (Int.le_refl _) (by rw [a1 nx]; omega)]; exact g2.symm⟩)
theorem RIV.reach {R : Int → Int → Prop} (vr : ∀ y x, R y x → 0 ≤ x ∧ x < 585) {X0 ex : Int → Prop} {s : ST} {x : Int} (h : RIV R X0 ex s) (x0 : 0 ≤ x) (x1 : x < 585) (cx : CLO R X0 x) : RIV R X0 ex (f_X8_reach2 s x) ∧ EQR s (f_X8_reach2 s x) ∧ (∀ z, 0 ≤ z → z < 585 → RX s z → RX (f_X8_reach2 s x) z) ∧ RX (f_X8_reach2 s x) x ∧ FI9 (f_X8_reach2 s x) = FI9 s := RIV.reach1 vr h x0 x1 (fun _ z => z) (fun _ => Or.inl) cx
theorem RIV.add {R : Int → Int → Prop} (vr : ∀ y x, R y x → 0 ≤ x ∧ x < 585) {X0 ex : Int → Prop} {s : ST} {x : Int} (h : RIV R X0 ex s) (x0 : 0 ≤ x) (x1 : x < 585) : RIV R (fun z => X0 z ∨ z = x) ex (f_X8_reach2 s x) ∧ EQR s (f_X8_reach2 s x) ∧ (∀ z, 0 ≤ z → z < 585 → RX s z → RX (f_X8_reach2 s x) z) ∧ RX (f_X8_reach2 s x) x ∧ FI9 (f_X8_reach2 s x) = FI9 s := RIV.reach1 vr h x0 x1 (fun _ => Or.inl) (fun _ z => z) (CLO.a (Or.inr rfl))
theorem RIV.nil {R : Int → Int → Prop} {ex : Int → Prop} (s : ST) : RIV R (fun _ => False) ex (f_X8_empties_x2 s) ∧ FI9 (f_X8_empties_x2 s) = 0 := by
  obtain ⟨_, a2, a3, a4⟩ := em_ok s
  refine ⟨⟨by omega, fun y ⟨j, j0, j1, _⟩ => by omega, fun x k => absurd k id, fun x x0 x1 k => absurd k (a3 x x0 x1), fun x x0 x1 k => absurd k (a3 x x0 x1)⟩, ?_⟩
  unfold FI9
  rw [a2, a4]
  rfl
theorem icl_r (b : BRI c S F) (hS : F 70 6 = S) {s : ST} (rs : RS F s) {y : Int} (y0 : 0 ≤ y) (y1 : y < 520) : f_X8_isCall_x2 s y = 0 ↔ ¬ (y / 13 < F c 0 ∧ F (c + 2) (y / 13).toNat = 1) := by
  unfold f_X8_isCall_x2
  rw [if_neg (by omega), bd_r, bd_r, rs.g (q := 70) (j := 6) (by omega), hS, rs.g (q := 75) (by omega), b.2.2.1]
  by_cases z : F c 0 ≤ y / 13
  · rw [if_pos z]
    exact ⟨fun _ w => by omega, fun _ => rfl⟩
  · rw [if_neg z, bd_r, kind_r8 rs hS b (by omega) (by omega)]
    by_cases w : F (c + 2) (y / 13).toNat = 1
    · rw [if_neg (fun k => k w)]
      exact ⟨fun k => absurd k (by decide), fun k => absurd ⟨by omega, w⟩ k⟩
    · rw [if_pos w]
      exact ⟨fun _ k => w k.2, fun _ => rfl⟩
theorem icl_p {s : ST} {y : Int} (y1 : 520 ≤ y) : f_X8_isCall_x2 s y = 0 := by
  unfold f_X8_isCall_x2
  rw [if_pos y1]
theorem clee_r (b : BRI c S F) (hS : F 70 6 = S) {s : ST} (rs : RS F s) {u : Int} (u0 : 0 ≤ u) (u1 : u < F c 0) : s.1 84 (f_X8_item2 s u).toNat = F (c + 7) u.toNat := by
  rw [item_r rs hS, rs.g (by omega)]
  exact (b.2.2.2.2.2.1 u u0 u1).2.2.2.2.1
theorem hng_r {s : ST} {y x : Int} (x0 : 0 ≤ x) : f_X8_isHung2 s y x = 0 ↔ ¬ RH s y x := by
  unfold f_X8_isHung2 RH
  rw [bd_r, bd_r, bd_r]
  have h := ib_us (v := s.1 103 (19 * y + x / 32).toNat) (k := x % 32) (by omega) (by omega)
  by_cases z : o_iand (o_iushr (s.1 103 (19 * y + x / 32).toNat) (x % 32)) 1 = 1
  · rw [if_neg (fun w => w z)]
    exact ⟨fun w => absurd w (by decide), fun w => absurd (h.mp z) w⟩
  · rw [if_pos z]
    exact ⟨fun _ w => z (h.mpr w), fun _ => rfl⟩
/-- what a search stands in -/
def SR (c : Nat) (F : Nat → Nat → Int) (T : Int → Int → Int → Prop) (a : Int) (X0 ex : Int → Prop) (s0 s : ST) (g : Int) : Prop := EQR s0 s ∧ RLC c F T s ∧ RIV (STP c F T a) X0 ex s ∧ FI9 s = g
theorem SR.reach (f : CFC c F) {a g x : Int} {X0 ex : Int → Prop} {s0 s : ST} (h : SR c F T a X0 ex s0 s g) (cx : CLO (STP c F T a) X0 x) (vx : VP c F x) : SR c F T a X0 ex s0 (f_X8_reach2 s x) g ∧ (∀ z, 0 ≤ z → z < 585 → RX s z → RX (f_X8_reach2 s x) z) ∧ RX (f_X8_reach2 s x) x := by
  have v := vx.r f
  obtain ⟨r1, r2, r3, r4, r5⟩ := RIV.reach (fun y z r => (STP.v f r).r f) h.2.2.1 v.1 v.2 cx
  exact ⟨⟨h.1.tr r2, h.2.1.e r2, r1, r5.trans h.2.2.2⟩, r3, r4⟩
theorem gu_n (b : BRI c S F) (hS : F 70 6 = S) {a g p k : Int} {X0 ex : Int → Prop} {s0 : ST} {y : Int} (a1 : a = 1) (p0 : 0 ≤ p) (k0 : 0 ≤ k) (k1 : k < 7) (ey : y = 13 * (40 + p) + k) (cy : CLO (STP c F T a) X0 y) : ∀ (n lab : Nat) (l : Int) (s : ST), 0 ≤ l → l ≤ F c 0 → 50 - l < (n : Int) → SR c F T a X0 ex s0 s g → (∀ u, u < l → CAL c F u p → RX s (13 * u + k)) → SR c F T a X0 ex s0 (f_X8_goesUp2_ n lab p k l s) g ∧ (∀ z, 0 ≤ z → z < 585 → RX s z → RX (f_X8_goesUp2_ n lab p k l s) z) ∧ (∀ u, CAL c F u p → RX (f_X8_goesUp2_ n lab p k l s) (13 * u + k)) := by
  intro n
  have f := b.2.2.2.2.1
  have n40 := f.1
  induction n with
  | zero => intros; omega
  | succ n ih =>
    intro lab l s l0 l1 hm h hl
    have rs := h.2.1.1
    rw [f_X8_goesUp2_, bd_r, bd_r, rs.g (q := 70) (j := 6) (by omega), hS, rs.g (q := 75) (by omega), b.2.2.1]
    by_cases z : F c 0 ≤ l
    · rw [if_pos z]
      exact ⟨h, fun _ _ _ q => q, fun u cl => hl u (by have := cl.2.1; omega) cl⟩
    · rw [if_neg z, bd_r, kind_r8 rs hS b l0 (by omega)]
      by_cases w : F (c + 2) l.toNat = 1
      · rw [if_neg (fun q => q w), bd_r, bd_r, clee_r b hS rs l0 (by omega)]
        by_cases v : F (c + 7) l.toNat = p
        · rw [if_neg (fun q => q v), bd_r, bd_r]
          have cl : CAL c F l p := ⟨l0, by omega, w, v⟩
          have st : STP c F T a y (13 * l + k) := Or.inr (Or.inr (Or.inr ⟨a1, l, p, k, cl, k0, k1, ey, rfl⟩))
          have r := h.reach f (CLO.s cy st) (STP.v f st)
          rw [show f_X8_statementPlace2 s l k = 13 * l + k from rfl]
          generalize f_X8_reach2 s (13 * l + k) = t at r ⊢
          obtain ⟨i1, i2, i3⟩ := ih 2 (l + 1) t (by omega) (by omega) (by omega) r.1 (fun u hu cu => by
            by_cases q : u = l
            · rw [q]; exact r.2.2
            · have := cu.1
              have := cu.2.1
              exact r.2.1 _ (by omega) (by omega) (hl u (by omega) cu))
          exact ⟨i1, fun z z0 z1 q => i2 z z0 z1 (r.2.1 z z0 z1 q), i3⟩
        · rw [if_pos v]
          exact ih 2 (l + 1) s (by omega) (by omega) (by omega) h (fun u hu cu => by
            by_cases q : u = l
            · rw [q] at cu; exact absurd cu.2.2.2 v
            · exact hl u (by omega) cu)
      · rw [if_pos w]
        exact ih 2 (l + 1) s (by omega) (by omega) (by omega) h (fun u hu cu => by
          by_cases q : u = l
          · rw [q] at cu; exact absurd cu.2.2.1 w
          · exact hl u (by omega) cu)
/-- after a search -/
def GFN (c : Nat) (F : Nat → Nat → Int) (T : Int → Int → Int → Prop) (a : Int) (X0 : Int → Prop) (s0 s : ST) : Prop := EQR s0 s ∧ s.1 70 47 = 0 ∧ ∀ x, 0 ≤ x → x < 585 → (RX s x ↔ CLO (STP c F T a) X0 x)
def NOx (_ : Int) : Prop := False
theorem pop_ok (f : CFC c F) {a g : Int} {X0 : Int → Prop} {s0 s : ST} (h : SR c F T a X0 NOx s0 s g) (w : ¬ s.1 70 47 ≤ 0) : ∃ y, (sI s 70 47 (s.1 70 47 - 1)).1 110 (s.1 70 47 - 1).toNat = y ∧ 0 ≤ y ∧ y < 585 ∧ RX s y ∧ CLO (STP c F T a) X0 y ∧ SR c F T a X0 (fun z => z = y) s0 (sI s 70 47 (s.1 70 47 - 1)) (g + 1) ∧ ∀ z, RX s z → RX (sI s 70 47 (s.1 70 47 - 1)) z := by
  obtain ⟨e, rl, ⟨h1, h2, h3, h4, h5⟩, fi⟩ := h
  obtain ⟨t, ht⟩ : ∃ t, t = sI s 70 47 (s.1 70 47 - 1) := ⟨_, rfl⟩
  rw [← ht]
  have e47 : t.1 70 47 = s.1 70 47 - 1 := by rw [ht]; exact sI_eq _ _ _ _
  have i : ∀ p, p ≠ 70 → t.1 p = s.1 p := fun p hp => by rw [ht]; exact sI_nc hp
  have er : EQR s t := by
    rw [ht]
    exact ⟨rfl, fun p j _ _ h3 => sI_ne h3⟩
  have rx : ∀ z, RX t z ↔ RX s z := fun z => by
    unfold RX
    rw [i 109 (by decide)]
  obtain ⟨y, hy⟩ : ∃ y, y = s.1 110 (s.1 70 47 - 1).toNat := ⟨_, rfl⟩
  have py := h2 y ⟨s.1 70 47 - 1, by omega, by omega, hy.symm⟩
  refine ⟨y, by rw [i 110 (by decide)]; exact hy.symm, py.1, py.2.1, py.2.2, h4 y py.1 py.2.1 py.2.2, ⟨e.tr er, rl.e er, ⟨by omega, fun z ⟨j, j0, j1, k⟩ => ?_, fun z k => ?_, fun z z0 z1 k => ?_, fun z z0 z1 k => ?_⟩, ?_⟩, fun z k => (rx z).mpr k⟩
  · rw [i 110 (by decide)] at k
    have q := h2 z ⟨j, j0, by omega, k⟩
    exact ⟨q.1, q.2.1, (rx z).mpr q.2.2⟩
  · have q := h3 z k
    exact ⟨q.1, q.2.1, (rx z).mpr q.2.2⟩
  · exact h4 z z0 z1 ((rx z).mp k)
  · rcases h5 z z0 z1 ((rx z).mp k) with q | ⟨j, j0, j1, q⟩ | q
    · exact absurd q id
    · by_cases jl : j = s.1 70 47 - 1
      · rw [jl, ← hy] at q
        exact Or.inl q.symm
      · exact Or.inr (Or.inl ⟨j, j0, by omega, by rw [i 110 (by decide)]; exact q⟩)
    · exact Or.inr (Or.inr (fun x r => (rx x).mpr (q x r)))
  · unfold FI9 at fi ⊢
    have cn : CN9 t = CN9 s := by
      unfold CN9
      exact cc_eq (fun k _ => rx (k : Int))
    rw [cn, e47]
    omega
theorem gz_n (b : BRI c S F) (hS : F 70 6 = S) {a l1 l2 : Int} (u1 : l1 = 0 ↔ ¬ a = 1) (d1 : l2 = 0 ↔ ¬ a = 2) {X0 : Int → Prop} {s0 : ST} : ∀ n : Nat,
    (∀ (x3 x4 x5 x6 x7 g : Int) (s : ST), SR c F T a X0 NOx s0 s g → 700 * (586 - g) + 1 < (n : Int) → GFN c F T a X0 s0 (f_X8_goes2_ n 0 l1 l2 x3 x4 x5 x6 x7 s)) ∧
    (∀ (y x x5 x6 x7 g : Int) (s : ST), SR c F T a X0 (fun z => z = y) s0 s g → 0 ≤ y → y < 585 → CLO (STP c F T a) X0 y → 0 ≤ x → x ≤ 585 → (∀ z, 0 ≤ z → z < x → DHc c F y z → RX s z) → 700 * (586 - g) + 660 - x < (n : Int) → GFN c F T a X0 s0 (f_X8_goes2_ n 30 l1 l2 y x x5 x6 x7 s)) ∧
    (∀ (u k q i x7 g : Int) (s : ST), SR c F T a X0 (fun z => z = 13 * u + k) s0 s g → CAL c F u q → 7 ≤ k → k < 13 → CLO (STP c F T a) X0 (13 * u + k) → 0 ≤ i → i ≤ 6 → (∀ z, DHc c F (13 * u + k) z → RX s z) → (∀ j, 0 ≤ j → j < i → T q (k - 7) j → RX s (13 * u + 1 + j)) → 700 * (586 - g) + 60 - i < (n : Int) → GFN c F T a X0 s0 (f_X8_goes2_ n 117 l1 l2 (13 * u + k) k q i x7 s)) ∧
    (∀ (y x5 x6 g : Int) (s : ST), SR c F T a X0 (fun z => z = y) s0 s g → 0 ≤ y → y < 585 → CLO (STP c F T a) X0 y → (∀ z, STP c F T a y z → RX s z ∨ (a = 1 ∧ S3 c F y z)) → 700 * (586 - g) + 30 < (n : Int) → GFN c F T a X0 s0 (f_X8_goes2_ n 184 l1 l2 y (y % 13) x5 x6 l1 s)) := by
  intro n
  have f := b.2.2.2.2.1
  have n40 := f.1
  have p5 := f.2.1
  have done : ∀ {s : ST} {g y : Int}, SR c F T a X0 (fun z => z = y) s0 s g → (∀ z, STP c F T a y z → RX s z) → SR c F T a X0 NOx s0 s g := fun {s g y} h d => by
    obtain ⟨e1, e2, ⟨i1, i2, i3, i4, i5⟩, e4⟩ := h
    refine ⟨e1, e2, ⟨i1, i2, i3, i4, fun z z0 z1 k => ?_⟩, e4⟩
    rcases i5 z z0 z1 k with q | q | q
    · refine Or.inr (Or.inr ?_)
      have q2 : z = y := q
      rw [q2]
      exact d
    · exact Or.inr (Or.inl q)
    · exact Or.inr (Or.inr q)
  induction n with
  | zero =>
    refine ⟨fun _ _ _ _ _ g s h hm => ?_, fun _ _ _ _ _ g s h _ _ _ _ _ _ hm => ?_, fun _ _ _ _ _ g s h _ _ _ _ _ _ _ _ hm => ?_, fun _ _ _ g s h _ _ _ _ hm => ?_⟩
    all_goals
      have x1 := h.2.2.2
      have x2 := h.2.2.1.1
      have x3 := CN9.le s
      unfold FI9 at x1
      omega
  | succ n ih =>
    refine ⟨fun x3 x4 x5 x6 x7 g s h hm => ?_, fun y x x5 x6 x7 g s h y0 y1 cy z0 z1 hz hm => ?_, fun u k q i x7 g s h cl k0 k1 cy i0 i1 hd hi hm => ?_, fun y x5 x6 g s h y0 y1 cy hs hm => ?_⟩
    · rw [f_X8_goes2_, if_pos rfl, bd_r]
      by_cases w : s.1 70 47 ≤ 0
      · rw [if_pos w]
        obtain ⟨e1, e2, ⟨i1, i2, i3, i4, i5⟩, e4⟩ := h
        refine ⟨e1, by omega, fun x a0 a1 => ⟨i4 x a0 a1, fun cx => ?_⟩⟩
        refine (cx (fun z => 0 ≤ z ∧ z < 585 ∧ RX s z) (fun z k => i3 z k) (fun y z hy r => ?_)).2.2
        have vz := (STP.v f r).r f
        rcases i5 y hy.1 hy.2.1 hy.2.2 with k | ⟨j, j0, j1, _⟩ | k
        · exact absurd k id
        · omega
        · exact ⟨vz.1, vz.2, k z r⟩
      · rw [if_neg w, bd_r, bd_r]
        obtain ⟨y, ey, y0, y1, ry, cy, sr, up⟩ := pop_ok f h w
        rw [ey]
        exact ih.2.1 y 0 0 0 0 (g + 1) _ sr y0 y1 cy (by omega) (by omega) (fun z z0 z1 => by omega) (by omega)
    · rw [f_X8_goes2_, if_neg (by decide), if_pos rfl, bd_r]
      by_cases w : 585 ≤ x
      · rw [if_pos w]
        have dh : ∀ z, DHc c F y z → RX s z := fun z d => by
          have v := (dhc_v f d).r f
          exact hz z v.1 (by omega) d
        by_cases v : 520 ≤ y
        · rw [if_pos v, bd_r, icl_p v, if_pos rfl, show (y - 520) % 13 = y % 13 by omega]
          refine ih.2.2.2 y 0 0 g s h y0 y1 cy (fun z r => ?_) (by omega)
          rcases r with r | ⟨u, q, k, i, cl, _, _, _, _, _, e, _⟩ | ⟨_, u, q, k, cl, _, _, e, _⟩ | r
          · exact Or.inl (dh z r)
          · have := cl.2.1; omega
          · have := cl.2.1; omega
          · exact Or.inr r
        · rw [if_neg v, bd_r]
          have ic := icl_r b hS h.2.1.1 y0 (show y < 520 by omega)
          have no : ¬ (y / 13 < F c 0 ∧ F (c + 2) (y / 13).toNat = 1 ∧ 7 ≤ y % 13) → ∀ z, STP c F T a y z → RX s z ∨ (a = 1 ∧ S3 c F y z) := fun nn z r => by
            rcases r with r | ⟨u, q, k, i, cl, k0, k1, _, _, _, e, _⟩ | ⟨_, u, q, k, cl, k0, k1, e, _⟩ | r
            · exact Or.inl (dh z r)
            · have eu : u = y / 13 := by omega
              rw [eu] at cl
              exact absurd ⟨cl.2.1, cl.2.2.1, by omega⟩ nn
            · have eu : u = y / 13 := by omega
              rw [eu] at cl
              exact absurd ⟨cl.2.1, cl.2.2.1, by omega⟩ nn
            · exact Or.inr r
          by_cases ci : f_X8_isCall_x2 s y = 0
          · rw [if_pos ci]
            exact ih.2.2.2 y 0 0 g s h y0 y1 cy (no (fun k => ic.mp ci ⟨k.1, k.2.1⟩)) (by omega)
          · rw [if_neg ci]
            have cy2 : y / 13 < F c 0 ∧ F (c + 2) (y / 13).toNat = 1 := Classical.byContradiction (fun k => ci (ic.mpr k))
            by_cases k7 : y % 13 < 7
            · rw [if_pos k7]
              exact ih.2.2.2 y 0 0 g s h y0 y1 cy (no (fun k => by have := k.2.2; omega)) (by omega)
            · rw [if_neg k7, bd_r, bd_r, clee_r b hS h.2.1.1 (show 0 ≤ y / 13 by omega) cy2.1]
              have cl : CAL c F (y / 13) (F (c + 7) (y / 13).toNat) := ⟨by omega, cy2.1, cy2.2, rfl⟩
              have ey : 13 * (y / 13) + y % 13 = y := by omega
              have r := ih.2.2.1 (y / 13) (y % 13) (F (c + 7) (y / 13).toNat) 0 0 g s
              rw [ey] at r
              exact r h cl (by omega) (by omega) cy (by omega) (by omega) dh (fun j j0 j1 => by omega) (by omega)
      · rw [if_neg w, bd_r]
        have hr := hng_r (s := s) (y := y) z0
        have rh := h.2.1.2.1 y x y0 y1 z0 (by omega)
        by_cases v : f_X8_isHung2 s y x = 0
        · rw [if_pos v]
          have nd : ¬ DHc c F y x := fun d => hr.mp v (rh.mpr d)
          exact ih.2.1 y (x + 1) 0 0 0 g s h y0 y1 cy (by omega) (by omega) (fun z a0 a1 d => by
            by_cases k : z = x
            · rw [k] at d; exact absurd d nd
            · exact hz z a0 (by omega) d) (by omega)
        · rw [if_neg v, bd_r]
          have d : DHc c F y x := rh.mp (Classical.byContradiction (fun k => v (hr.mpr k)))
          have r := h.reach f (CLO.s cy (Or.inl d)) (dhc_v f d)
          exact ih.2.1 y (x + 1) 0 0 0 g _ r.1 y0 y1 cy (by omega) (by omega) (fun z a0 a1 dz => by
            by_cases k : z = x
            · rw [k]; exact r.2.2
            · exact r.2.1 z a0 (by omega) (hz z a0 (by omega) dz)) (by omega)
    · have qr := cl.q f
      have u0 := cl.1
      have u1 := cl.2.1
      rw [f_X8_goes2_, if_neg (by decide), if_neg (by decide), if_pos rfl, bd_r]
      by_cases w : 6 ≤ i
      · rw [if_pos w]
        have mo : (13 * u + k) % 13 = k := by omega
        have dn : ∀ s', (∀ z, 0 ≤ z → z < 585 → RX s z → RX s' z) → (a = 2 → RX s' (13 * (40 + q) + k)) → ∀ z, STP c F T a (13 * u + k) z → RX s' z ∨ (a = 1 ∧ S3 c F (13 * u + k) z) := fun s' up hq z r => by
          rcases r with r | ⟨u', q', k', j, cl', k0', k1', j0, j1, t, e1, e2⟩ | ⟨a2, u', q', k', cl', k0', k1', e1, e2⟩ | r
          · have v := (dhc_v f r).r f
            exact Or.inl (up z v.1 v.2 (hd z r))
          · have eu : u' = u := by omega
            have ek : k' = k := by omega
            rw [eu] at cl' e2
            have eq : q' = q := cl'.2.2.2.symm.trans cl.2.2.2
            rw [eq, ek] at t
            rw [e2]
            exact Or.inl (up _ (by omega) (by omega) (hi j j0 (by omega) t))
          · have eu : u' = u := by omega
            have ek : k' = k := by omega
            rw [eu] at cl'
            have eq : q' = q := cl'.2.2.2.symm.trans cl.2.2.2
            rw [e2, eq, ek]
            exact Or.inl (hq a2)
          · exact Or.inr r
        have l184 := ih.2.2.2 (13 * u + k) 0 0 g
        rw [mo] at l184
        by_cases v : l2 = 0
        · rw [if_pos v]
          exact l184 s h (by omega) (by omega) cy (dn s (fun _ _ _ k => k) (fun a2 => absurd a2 (d1.mp v))) (by omega)
        · rw [if_neg v, bd_r, bd_r]
          have a2 : a = 2 := Classical.byContradiction (fun k => v (d1.mpr k))
          have st : STP c F T a (13 * u + k) (13 * (40 + q) + k) := Or.inr (Or.inr (Or.inl ⟨a2, u, q, k, cl, k0, k1, rfl, rfl⟩))
          have r := h.reach f (CLO.s cy st) (STP.v f st)
          rw [show f_X8_procedurePlace2 s q k = 13 * (40 + q) + k by unfold f_X8_procedurePlace2; omega]
          exact l184 _ r.1 (by omega) (by omega) cy (dn _ r.2.1 (fun _ => r.2.2)) (by omega)
      · rw [if_neg w, bd_r, bd_r, bd_r, show 6 * q + k - 7 = 6 * q + (k - 7) by omega]
        have bi := ib_sr (v := s.1 108 (6 * q + (k - 7)).toNat) (k := i) i0 (by omega)
        have tb := h.2.1.2.2 q (k - 7) i ⟨qr.1, qr.2, by omega, by omega, i0, by omega⟩
        by_cases v : o_iand (o_ishr (s.1 108 (6 * q + (k - 7)).toNat) i) 1 = 1
        · rw [if_neg (fun k => k v), bd_r]
          have t : T q (k - 7) i := tb.mp (bi.mp v)
          have st : STP c F T a (13 * u + k) (13 * u + 1 + i) := Or.inr (Or.inl ⟨u, q, k, i, cl, k0, k1, i0, by omega, t, rfl, rfl⟩)
          have r := h.reach f (CLO.s cy st) (STP.v f st)
          rw [show 13 * u + k - k + 1 + i = 13 * u + 1 + i by omega]
          exact ih.2.2.1 u k q (i + 1) 0 g _ r.1 cl k0 k1 cy (by omega) (by omega) (fun z d => by
            have v := (dhc_v f d).r f
            exact r.2.1 z v.1 v.2 (hd z d)) (fun j j0 j1 t => by
            by_cases e : j = i
            · rw [e]; exact r.2.2
            · exact r.2.1 _ (by omega) (by omega) (hi j j0 (by omega) t)) (by omega)
        · rw [if_pos v]
          exact ih.2.2.1 u k q (i + 1) 0 g s h cl k0 k1 cy (by omega) (by omega) hd (fun j j0 j1 t => by
            by_cases e : j = i
            · rw [e] at t; exact absurd (bi.mpr (tb.mpr t)) v
            · exact hi j j0 (by omega) t) (by omega)
    · rw [f_X8_goes2_, if_neg (by decide), if_neg (by decide), if_neg (by decide), bd_r]
      by_cases w : l1 = 0
      · rw [if_pos w]
        exact ih.1 0 0 0 0 0 g s (done h (fun z r => by
          rcases hs z r with k | k
          · exact k
          · exact absurd k.1 (u1.mp w))) (by omega)
      · rw [if_neg w]
        have a1 : a = 1 := Classical.byContradiction (fun k => w (u1.mpr k))
        by_cases v : y < 520
        · rw [if_pos v]
          exact ih.1 0 0 0 0 0 g s (done h (fun z r => by
            rcases hs z r with k | ⟨_, u, q, k, cl, k0, k1, e, _⟩
            · exact k
            · have := cl.q f; omega)) (by omega)
        · rw [if_neg v]
          by_cases k7 : 7 ≤ y % 13
          · rw [if_pos k7]
            exact ih.1 0 0 0 0 0 g s (done h (fun z r => by
              rcases hs z r with k | ⟨_, u, q, k, cl, k0, k1, e, _⟩
              · exact k
              · omega)) (by omega)
          · rw [if_neg k7, bd_r]
            unfold f_X8_goesUp2
            obtain ⟨r1, r2, r3⟩ := gu_n (T := T) (ex := fun z => z = y) (s0 := s0) (g := g) (y := y) b hS a1 (show 0 ≤ (y - 520) / 13 by omega) (show 0 ≤ y % 13 by omega) (by omega) (by omega) cy 139 2 0 s (by omega) f.1.1 (by omega) h (fun u hu cu => by have := cu.1; omega)
            exact ih.1 0 0 0 0 0 g _ (done r1 (fun z r => by
              rcases hs z r with k | ⟨_, u, q, k, cl, k0, k1, e1, e2⟩
              · have v := (STP.v f r).r f
                exact r2 z v.1 v.2 k
              · have eq : q = (y - 520) / 13 := by omega
                have ek : k = y % 13 := by omega
                rw [eq] at cl
                rw [e2, ek]
                exact r3 u cl)) (by omega)
/-- a search of the reference -/
theorem goes_ok (b : BRI c S F) (hS : F 70 6 = S) {a l1 l2 : Int} (u1 : l1 = 0 ↔ ¬ a = 1) (d1 : l2 = 0 ↔ ¬ a = 2) {X0 : Int → Prop} {s : ST} (h : SR c F T a X0 NOx s s 0) : GFN c F T a X0 s (f_X8_goes2 s l1 l2) := by
  unfold f_X8_goes2
  have q := BG_le 2200001
  exact (gz_n b hS u1 d1 (BG 2200001)).1 0 0 0 0 0 0 s h (by omega)
theorem ff_e : ∀ (n lab : Nat) (l3 l4 l5 l6 s0 : Int) (s : ST), f_X8_goes_ff2_ n lab 0 0 l3 l4 l5 l6 s0 s = f_X8_goes2_ n lab 0 0 l3 l4 l5 l6 0 s := by
  intro n
  induction n with
  | zero => intros; rfl
  | succ n ih =>
    intro lab l3 l4 l5 l6 s0 s
    rw [f_X8_goes_ff2_, f_X8_goes2_]
    simp only [ih]
    by_cases a : lab = 0
    · rw [if_pos a, if_pos a]
    · rw [if_neg a, if_neg a]
      by_cases b : lab = 30
      · rw [if_pos b, if_pos b]
        rfl
      · rw [if_neg b, if_neg b]
        by_cases d : lab = 117
        · rw [if_pos d, if_pos d, if_pos True.intro]
        · rw [if_neg d, if_neg d, if_pos True.intro]
theorem goesff_ok (b : BRI c S F) (hS : F 70 6 = S) {X0 : Int → Prop} {s : ST} (h : SR c F T 0 X0 NOx s s 0) : GFN c F T 0 X0 s (f_X8_goes_ff2 s 0 0) := by
  unfold f_X8_goes_ff2
  rw [ff_e]
  have q := BG_le 2200001
  exact (gz_n b hS ⟨fun _ => by decide, fun _ => rfl⟩ ⟨fun _ => by decide, fun _ => rfl⟩ (BG 2200001)).1 0 0 0 0 0 0 s h (by omega)
end R
