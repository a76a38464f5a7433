/-- the half at hand shows the tree that was read -/
theorem HISC.win {s T : ST} {S P : Int} {FG : FN} {FI BH TB : Int → Int} (S0 : 0 ≤ S) (hT : T.1 70 6 = S) (bg : BRG FG T S P FI BH TB) (h : ∀ (q j : Nat), 73 ≤ q → q ≤ 102 → wd q * S ≤ (j : Int) → (j : Int) < wd q * S + wd q → s.1 q j = (FG q j).toInt) (h73 : gI T 73 S ≤ 130) (h74 : gI T 74 S ≤ 280) (h75 : gI T 75 S ≤ 40) : WIN T (sI s 70 6 S) S := by
  have e : ∀ (q : Nat) (i : Int), 73 ≤ q → q ≤ 94 → 0 ≤ i → wd q * S ≤ i → i < wd q * S + wd q → gI (sI s 70 6 S) q i = gI T q i := fun q i q1 q2 i0 i1 i2 => by
    have y : gI (sI s 70 6 S) q i = s.1 q i.toNat := congrFun (sI_nc (by omega)) _
    rw [y, h q i.toNat q1 (by omega) (by omega) (by omega), ← bg.1 q i q1 q2]
    rfl
  refine ⟨by rw [sI_eq, hT], fun q i q1 q2 hi => ?_, fun q b q1 q2 hb => ?_, fun k k0 k1 => ?_, fun q q1 q2 => ?_⟩
  · have w : wd q = 130 := by
      have : q = 77 ∨ q = 78 ∨ q = 79 ∨ q = 80 ∨ q = 81 ∨ q = 82 ∨ q = 83 ∨ q = 84 ∨ q = 85 ∨ q = 86 ∨ q = 87 ∨ q = 88 := by omega
      rcases this with rfl | rfl | rfl | rfl | rfl | rfl | rfl | rfl | rfl | rfl | rfl | rfl <;> rfl
    unfold CJ at hi
    exact e q i (by omega) (by omega) (by omega) (by rw [w]; omega) (by rw [w]; omega)
  · have w : wd q = 280 := by
      have : q = 90 ∨ q = 91 ∨ q = 92 := by omega
      rcases this with rfl | rfl | rfl <;> rfl
    unfold CB at hb
    exact e q b (by omega) (by omega) (by omega) (by rw [w]; omega) (by rw [w]; omega)
  · exact e 93 _ (by omega) (by omega) (by omega) (by rw [show wd 93 = 40 from rfl]; omega) (by rw [show wd 93 = 40 from rfl]; omega)
  · have w : wd q = 1 := by
      have : q = 73 ∨ q = 74 ∨ q = 75 ∨ q = 76 := by omega
      rcases this with rfl | rfl | rfl | rfl <;> rfl
    exact e q S q1 (by omega) S0 (by rw [w]; omega) (by rw [w]; omega)
/-- what is shown now: the code in the cells of the class, the tree in the half of the reference -/
theorem HISC.all {s : ST} {c : Nat} {S : Int} (b74 : ∀ j, s.1 74 j ≤ 280) (h : HISC s c S) : ∃ (P : Int) (B : Int → Int) (sm T Y : ST) (FG : FN), (c = 2 ∨ c = 18) ∧ 0 ≤ S ∧ CDF c S P B sm T Y FG ∧ CL c Y ∧ WIN T (sI s 70 6 S) S ∧ (∀ p j, c ≤ p → p ≤ c + 15 → s.1 p j = Y.1 p j ∧ s.2.1 p j = Y.2.1 p j) ∧ (∀ (q j : Nat), 73 ≤ q → q ≤ 102 → wd q * S ≤ (j : Int) → (j : Int) < wd q * S + wd q → s.1 q j = (FG q j).toInt) ∧ 0 ≤ gI T 75 S ∧ gI T 75 S ≤ 40 ∧ SN T S ∧ (∀ k, 0 ≤ k → k < gI T 75 S → CJ T S (gI T 93 (40 * S + k))) ∧ (∀ i, CJ T S i → 0 ≤ gI T 79 i) := by
  obtain ⟨s0, t, a, FL, FG, g, l, al, h4, h5⟩ := h
  obtain ⟨P, B, sm, _, cdf⟩ := prog_full g l al
  have hc := g.1
  have S0 := g.2.1
  have tt := cdf.1
  have k1 := tt.1.1
  have bg := cdf.2.2.2.2.1
  have x73 : gI (f_X8_readAll t) 73 S ≤ 130 := by
    have f := l.2.1
    obtain ⟨F, f⟩ := f
    have A := read_all (s := s0) hc S0 g.2.2.1 g.2.2.2.1 g.2.2.2.2.1 g.2.2.2.2.2.1 g.2.2.2.2.2.2.1 g.2.2.2.2.2.2.2.1 g.2.2.2.2.2.2.2.2.1 g.2.2.2.2.2.2.2.2.2.1 g.2.2.2.2.2.2.2.2.2.2.1 g.2.2.2.2.2.2.2.2.2.2.2.1 g.2.2.2.2.2.2.2.2.2.2.2.2
    rcases A with A | ⟨_, _, _, _, _, _, _, _, h128⟩
    · exact absurd l.1 A.1
    · omega
  have x74 : gI (f_X8_readAll t) 74 S ≤ 280 := by
    have y := h5 74 S.toNat (by omega) (by omega) (by rw [show wd 74 = 1 from rfl]; omega) (by rw [show wd 74 = 1 from rfl]; omega)
    have z := b74 S.toNat
    rw [← bg.1 74 S (by omega) (by omega)]
    show (FG 74 S.toNat).toInt ≤ 280
    omega
  have cl : CL c (f_X3_read s0 a c).1 := cl_X3_read hc
  refine ⟨P, B, sm, f_X8_readAll t, (f_X3_read s0 a c).1, FG, hc, S0, cdf, cl, HISC.win S0 cdf.2.2.2.1 bg h5 x73 x74 k1.2.2.2.2.1, h4, h5, k1.2.2.2.1, k1.2.2.2.2.1, fun i hi n => ?_, fun k k0 k2 => (tt.1.2.1 k k0 k2).1, fun i hi => ?_⟩
  · have hi2 := hi
    unfold CJ at hi2
    have q := (tt.1.2.2.1 (i - 130 * S) (by omega) (by omega)).2.1
    unfold K3a at q
    rw [show 130 * S + (i - 130 * S) = i by omega] at q
    rcases q with q | q
    · exact absurd q.2 n
    · exact ⟨q.1, q.2.1, q.2.2.2⟩
  · have h80 := tt.2.2.1
    clear cl
    have key : ∀ (m : Nat) (i : Int), CJ (f_X8_readAll t) S i → i.toNat < m → 0 ≤ gI (f_X8_readAll t) 79 i := by
      intro m
      induction m with
      | zero => intro i _ h; omega
      | succ m ih =>
        intro i hi hm
        have hi2 := hi
        unfold CJ at hi2
        have q := tt.1.2.2.2.2.2.2.1.2.1 (i - 130 * S) (by omega) (by omega)
        rw [show 130 * S + (i - 130 * S) = i by omega] at q
        rcases q with q | ⟨y1, y2, -⟩
        · exact q.2.1
        · have lt : gI (f_X8_readAll t) 92 (gI (f_X8_readAll t) 88 i) < i := by
            rcases (h80.2.1 i hi).2 with a | a
            · have y := y1
              rw [a.1] at y
              unfold CJ at y
              omega
            · exact a.2.1
          rw [← y2]
          have w := y1
          unfold CJ at w
          exact ih _ y1 (by omega)
    exact key _ i hi (Nat.lt_succ_self _)
