/-! of: the same answers -/
theorem isin_r {s : ST} {a lo hi : Int} : f_X8_isIn s a lo hi = if lo ≤ a ∧ a ≤ hi then 1 else 0 := by
  unfold f_X8_isIn
  by_cases z : a < lo
  · rw [if_pos z, if_neg (show ¬ (lo ≤ a ∧ a ≤ hi) by omega)]
  · rw [if_neg z]
    by_cases y : hi < a
    · rw [if_pos y, if_neg (show ¬ (lo ≤ a ∧ a ≤ hi) by omega)]
    · rw [if_neg y, if_pos (show lo ≤ a ∧ a ≤ hi by omega)]
theorem ist7 {s : ST} {c : Nat} {a n : Int} (r3 : s.2.2 0 3 = c) (h0 : s.1 c 0 = n) : f_X7_isStatement s a = if 0 ≤ a ∧ a < n then 1 else 0 := by
  unfold f_X7_isStatement
  repeat rewrite [bd_r]
  rw [r3, h0]
  by_cases z : a < 0
  · rw [if_pos z, if_neg (show ¬ (0 ≤ a ∧ a < n) by omega)]
  · rw [if_neg z]
    by_cases y : n ≤ a
    · rw [if_pos y, if_neg (show ¬ (0 ≤ a ∧ a < n) by omega)]
    · rw [if_neg y, if_pos (show 0 ≤ a ∧ a < n by omega)]
theorem ist8 {s : ST} {S a n : Int} (h30 : s.1 70 30 = 1) (h29 : s.1 70 29 = S) (h75 : gI s 75 S = n) : f_X8_isStatement_x s a = if 0 ≤ a ∧ a < n then 1 else 0 := by
  unfold f_X8_isStatement_x
  repeat rewrite [bd_r]
  rw [h30, if_neg (by decide), h29, show s.1 75 S.toNat = n from h75, isin_r]
  by_cases y : 0 ≤ a ∧ a < n
  · rw [if_pos (show 0 ≤ a ∧ a ≤ n - 1 by omega), if_neg (by decide), if_pos y]
  · rw [if_neg (show ¬ (0 ≤ a ∧ a ≤ n - 1) by omega), if_pos rfl, if_neg y]
theorem ist80 {s : ST} {a : Int} (h30 : s.1 70 30 = 0) : f_X8_isStatement_x s a = 0 := by
  unfold f_X8_isStatement_x
  repeat rewrite [bd_r]
  rw [if_pos h30]
/-- the half at hand shows the tree that was read -/
theorem HISC.win {s T : ST} {S P : Int} {FG : FN} {FI BH TB : Int → Int} (S0 : 0 ≤ S) (hT : T.1 70 6 = S) (bg : BRG FG T S P FI BH TB) (h : ∀ (q j : Nat), 73 ≤ q → q ≤ 102 → wd q * S ≤ (j : Int) → (j : Int) < wd q * S + wd q → s.1 q j = (FG q j).toInt) (h73 : gI T 73 S ≤ 130) (h74 : gI T 74 S ≤ 280) (h75 : gI T 75 S ≤ 40) : WIN T (sI s 70 6 S) S := by
  have e : ∀ (q : Nat) (i : Int), 73 ≤ q → q ≤ 94 → 0 ≤ i → wd q * S ≤ i → i < wd q * S + wd q → gI (sI s 70 6 S) q i = gI T q i := fun q i q1 q2 i0 i1 i2 => by
    have y : gI (sI s 70 6 S) q i = s.1 q i.toNat := congrFun (sI_nc (by omega)) _
    rw [y, h q i.toNat q1 (by omega) (by omega) (by omega), ← bg.1 q i q1 q2]
    rfl
  refine ⟨by rw [sI_eq, hT], fun q i q1 q2 hi => ?_, fun q b q1 q2 hb => ?_, fun k k0 k1 => ?_, fun q q1 q2 => ?_⟩
  · have w : wd q = 130 := by
      have : q = 77 ∨ q = 78 ∨ q = 79 ∨ q = 80 ∨ q = 81 ∨ q = 82 ∨ q = 83 ∨ q = 84 ∨ q = 85 ∨ q = 86 ∨ q = 87 ∨ q = 88 := by omega
      rcases this with rfl | rfl | rfl | rfl | rfl | rfl | rfl | rfl | rfl | rfl | rfl | rfl <;> rfl
    unfold CJ at hi
    exact e q i (by omega) (by omega) (by omega) (by rw [w]; omega) (by rw [w]; omega)
  · have w : wd q = 280 := by
      have : q = 90 ∨ q = 91 ∨ q = 92 := by omega
      rcases this with rfl | rfl | rfl <;> rfl
    unfold CB at hb
    exact e q b (by omega) (by omega) (by omega) (by rw [w]; omega) (by rw [w]; omega)
  · exact e 93 _ (by omega) (by omega) (by omega) (by rw [show wd 93 = 40 from rfl]; omega) (by rw [show wd 93 = 40 from rfl]; omega)
  · have w : wd q = 1 := by
      have : q = 73 ∨ q = 74 ∨ q = 75 ∨ q = 76 := by omega
      rcases this with rfl | rfl | rfl | rfl <;> rfl
    exact e q S q1 (by omega) S0 (by rw [w]; omega) (by rw [w]; omega)
/-- what is shown now: the code in the cells of the class, the tree in the half of the reference -/
theorem HISC.all {s : ST} {c : Nat} {S : Int} (b74 : ∀ j, s.1 74 j ≤ 280) (h : HISC s c S) : ∃ (P : Int) (B : Int → Int) (sm T Y : ST) (FG : FN), (c = 2 ∨ c = 18) ∧ 0 ≤ S ∧ CDF c S P B sm T Y FG ∧ CL c Y ∧ WIN T (sI s 70 6 S) S ∧ (∀ p j, c ≤ p → p ≤ c + 15 → s.1 p j = Y.1 p j ∧ s.2.1 p j = Y.2.1 p j) ∧ (∀ (q j : Nat), 73 ≤ q → q ≤ 102 → wd q * S ≤ (j : Int) → (j : Int) < wd q * S + wd q → s.1 q j = (FG q j).toInt) ∧ 0 ≤ gI T 75 S ∧ gI T 75 S ≤ 40 ∧ SN T S ∧ (∀ k, 0 ≤ k → k < gI T 75 S → CJ T S (gI T 93 (40 * S + k))) ∧ (∀ i, CJ T S i → 0 ≤ gI T 79 i) := by
  obtain ⟨s0, t, a, FL, FG, g, l, al, h4, h5⟩ := h
  obtain ⟨P, B, sm, _, cdf⟩ := prog_full g l al
  have hc := g.1
  have S0 := g.2.1
  have tt := cdf.1
  have k1 := tt.1.1
  have bg := cdf.2.2.2.2.1
  have x73 : gI (f_X8_readAll t) 73 S ≤ 130 := by
    have f := l.2.1
    obtain ⟨F, f⟩ := f
    have A := read_all (s := s0) hc S0 g.2.2.1 g.2.2.2.1 g.2.2.2.2.1 g.2.2.2.2.2.1 g.2.2.2.2.2.2.1 g.2.2.2.2.2.2.2.1 g.2.2.2.2.2.2.2.2.1 g.2.2.2.2.2.2.2.2.2.1 g.2.2.2.2.2.2.2.2.2.2.1 g.2.2.2.2.2.2.2.2.2.2.2.1 g.2.2.2.2.2.2.2.2.2.2.2.2
    rcases A with A | ⟨_, _, _, _, _, _, _, _, h128⟩
    · exact absurd l.1 A.1
    · omega
  have x74 : gI (f_X8_readAll t) 74 S ≤ 280 := by
    have y := h5 74 S.toNat (by omega) (by omega) (by rw [show wd 74 = 1 from rfl]; omega) (by rw [show wd 74 = 1 from rfl]; omega)
    have z := b74 S.toNat
    rw [← bg.1 74 S (by omega) (by omega)]
    show (FG 74 S.toNat).toInt ≤ 280
    omega
  have cl : CL c (f_X3_read s0 a c).1 := cl_X3_read hc
  refine ⟨P, B, sm, f_X8_readAll t, (f_X3_read s0 a c).1, FG, hc, S0, cdf, cl, HISC.win S0 cdf.2.2.2.1 bg h5 x73 x74 k1.2.2.2.2.1, h4, h5, k1.2.2.2.1, k1.2.2.2.2.1, fun i hi n => ?_, fun k k0 k2 => (tt.1.2.1 k k0 k2).1, fun i hi => ?_⟩
  · have hi2 := hi
    unfold CJ at hi2
    have q := (tt.1.2.2.1 (i - 130 * S) (by omega) (by omega)).2.1
    unfold K3a at q
    rw [show 130 * S + (i - 130 * S) = i by omega] at q
    rcases q with q | q
    · exact absurd q.2 n
    · exact ⟨q.1, q.2.1, q.2.2.2⟩
  · have h80 := tt.2.2.1
    clear cl
    have key : ∀ (m : Nat) (i : Int), CJ (f_X8_readAll t) S i → i.toNat < m → 0 ≤ gI (f_X8_readAll t) 79 i := by
      intro m
      induction m with
      | zero => intro i _ h; omega
      | succ m ih =>
        intro i hi hm
        have hi2 := hi
        unfold CJ at hi2
        have q := tt.1.2.2.2.2.2.2.1.2.1 (i - 130 * S) (by omega) (by omega)
        rw [show 130 * S + (i - 130 * S) = i by omega] at q
        rcases q with q | ⟨y1, y2, -⟩
        · exact q.2.1
        · have lt : gI (f_X8_readAll t) 92 (gI (f_X8_readAll t) 88 i) < i := by
            rcases (h80.2.1 i hi).2 with a | a
            · have y := y1
              rw [a.1] at y
              unfold CJ at y
              omega
            · exact a.2.1
          rw [← y2]
          have w := y1
          unfold CJ at w
          exact ih _ y1 (by omega)
    exact key _ i hi (Nat.lt_succ_self _)
theorem of_same {s : ST} {a b : Int} (b74 : ∀ j, s.1 74 j ≤ 280) (b01 : ∀ q j, q = 101 ∨ q = 102 → 0 ≤ s.1 q j ∧ s.1 q j ≤ 1) (h : HIS s) : f_X7_of s a b = (f_X8_of2 s a b).2 := by
  obtain ⟨c, d, cd, r3, r4, h⟩ := h
  obtain ⟨fin, kf⟩ : ∃ z, z = f_X8_of2 s a b := ⟨_, rfl⟩
  rw [← kf]
  unfold f_X8_of2 at kf
  have k1 := bd_e kf rfl
  have k2 := bd_e k1 rfl
  rcases h with h | ⟨h30, h⟩
  · have i7 : f_X7_isStatement s a = 0 := by rw [ist7 r3 h.2.1]; exact if_neg (by omega)
    have i8 : f_X8_isStatement_x (sI s 70 6 (s.1 70 29)) a = 0 := ist80 (by rw [sI_ne (show ¬ ((70 : Nat) = 70 ∧ (30 : Nat) = 6) by omega)]; exact h.1)
    have k3 := bd_e k2 i8
    have k4 := if_f k3 (fun z => z rfl)
    rw [k4]
    unfold f_X7_of
    rewrite [bd_r]
    rw [i7]
    exact if_neg (fun z => z rfl)
  · obtain ⟨S, eS⟩ : ∃ S, S = s.1 70 29 := ⟨_, rfl⟩
    rw [← eS] at h k2
    obtain ⟨P, B, sm, T, Y, FG, hc, S0, cdf, cl, win, hp, hw, n0, n40, sn, s93, h79⟩ := HISC.all b74 h
    obtain ⟨tt, hP, P1, hT, bg, cs, keep, wy, fl, nf⟩ := cdf
    obtain ⟨X, eX⟩ : ∃ X, X = sI s 70 6 S := ⟨_, rfl⟩
    rw [← eX] at win k2
    have c0 : s.1 c 0 = gI T 75 S := (hp c 0 (by omega) (by omega)).1.trans cs.1
    have x30 : X.1 70 30 = 1 := by rw [eX, sI_ne (show ¬ ((70 : Nat) = 70 ∧ (30 : Nat) = 6) by omega)]; exact h30
    have x29 : X.1 70 29 = S := by rw [eX, sI_ne (show ¬ ((70 : Nat) = 70 ∧ (29 : Nat) = 6) by omega)]; exact eS.symm
    have i7 := ist7 (a := a) r3 c0
    have i8 := ist8 (a := a) x30 x29 (win.2.2.2.2 75 (by omega) (by omega))
    have k3 := bd_e k2 i8
    unfold f_X7_of
    rewrite [bd_r]
    rw [i7]
    by_cases ia : 0 ≤ a ∧ a < gI T 75 S
    · rw [if_pos ia] at k3 ⊢
      have k4 := if_t k3 (by decide)
      rw [if_pos (by decide)]
      have it := item_w win hT ia.1 ia.2
      have k5 := bd_e k4 it
      obtain ⟨i, ei⟩ : ∃ i, i = gI T 93 (40 * S + a) := ⟨_, rfl⟩
      rw [← ei] at k5
      have ci : CJ T S i := by rw [ei]; exact s93 a ia.1 ia.2
      have kk := tt.1.2.1 a ia.1 ia.2
      rw [← ei] at kk
      have xi : ∀ q, 77 ≤ q → q ≤ 88 → X.1 q i.toNat = gI T q i := fun q q1 q2 => win.2.1 q i q1 q2 ci
      have cc : ∀ q, 2 ≤ q → q ≤ 7 → s.1 (c + q) a.toNat = sm.1 (c + q) a.toNat := fun q q1 q2 => (hp (c + q) a.toNat (by omega) (by omega)).1.trans (keep (c + q) a.toNat (by omega) (by omega) (by omega) (by omega) (by omega) (by omega) (by omega) (by omega) (by omega))
      by_cases b0 : b = 0
      · rw [if_pos b0]
        have k6 := if_t k5 b0
        have k7 := bd_e k6 (xi 77 (by omega) (by omega))
        rw [k7]
        repeat rewrite [bd_r]
        rw [r3, cc 2 (by omega) (by omega)]
        exact kk.2.2.1
      rw [if_neg b0]
      have k6 := if_f k5 b0
      clear k5
      by_cases b1 : b = 1
      · rw [if_pos b1]
        have k7 := bd_e (if_t k6 b1) (xi 79 (by omega) (by omega))
        rw [k7]
        repeat rewrite [bd_r]
        rw [r3, cc 3 (by omega) (by omega)]
        exact kk.2.2.2.1
      rw [if_neg b1]
      have k5 := if_f k6 b1
      clear k6
      by_cases b2 : b = 2
      · rw [if_pos b2]
        have k7 := bd_e (if_t k5 b2) (xi 80 (by omega) (by omega))
        rw [k7]
        repeat rewrite [bd_r]
        rw [r3, cc 4 (by omega) (by omega)]
        exact kk.2.2.2.2.1
      rw [if_neg b2]
      have k6 := if_f k5 b2
      clear k5
      by_cases b3 : b = 3
      · rw [if_pos b3]
        have k7 := bd_e (if_t k6 b3) (xi 77 (by omega) (by omega))
        repeat rewrite [bd_r]
        rw [r3]
        have y7 := (hp (c + 7) a.toNat (by omega) (by omega)).1
        rw [y7]
        by_cases k77 : gI T 77 i = 1
        · have k8 := if_f k7 (fun z => z k77)
          have k9 := bd_e k8 (xi 84 (by omega) (by omega))
          rw [k9]
          have z := (cs.2.2.1 a ia.1 ia.2).2.1
          rw [← ei] at z
          exact z
        · have k8 := if_t k7 k77
          rw [k8]
          refine cl.2.2.1 a ia.1 (by rw [cs.1]; exact ia.2) ?_
          have z := (cs.2.2.1 a ia.1 ia.2).1
          rw [← ei] at z
          rw [z]
          exact k77
      rw [if_neg b3]
      have k5 := if_f k6 b3
      clear k6
      by_cases b4 : b = 4
      · rw [if_pos b4]
        have k7 := bd_e (if_t k5 b4) (xi 81 (by omega) (by omega))
        rw [k7]
        repeat rewrite [bd_r]
        rw [r3, cc 5 (by omega) (by omega)]
        exact kk.2.2.2.2.2.1
      rw [if_neg b4]
      have k6 := if_f k5 b4
      clear k5
      by_cases b5 : b = 5
      · rw [if_pos b5]
        have k7 := bd_e (if_t k6 b5) ((cat_w S0 hT win tt.2.2.1 sn tt.2.1 s93 ia.1 ia.2).trans (cat_ok S0 hT tt.2.1 tt.2.2.1 sn n40 h79 (s93 a ia.1 ia.2)))
        rw [k7]
        repeat rewrite [bd_r]
        rw [r3, (hp (c + 15) a.toNat (by omega) (by omega)).1, (wy a ia.1 ia.2).2.2.2.2, GV_15 hc]
      rw [if_neg b5]
      have k5 := if_f k6 b5
      clear k6
      by_cases b6 : b = 6
      · rw [if_pos b6]
        have k7 := if_t k5 b6
        have z2 := (cs.2.2.1 a ia.1 ia.2).1
        have z7 := (cs.2.2.1 a ia.1 ia.2).2.1
        rw [← ei] at z2 z7
        have s2 : s.1 (c + 2) a.toNat = gI T 77 i := (hp (c + 2) a.toNat (by omega) (by omega)).1.trans z2
        have s7 : s.1 (c + 7) a.toNat = gI T 84 i := (hp (c + 7) a.toNat (by omega) (by omega)).1.trans z7
        have s4 : s.1 c 4 = Y.1 c 4 := (hp c 4 (by omega) (by omega)).1
        have kx : f_X8_kindAt X a = gI T 77 i := by
          unfold f_X8_kindAt
          repeat rewrite [bd_r]
          rw [it, ← ei]
          exact xi 77 (by omega) (by omega)
        have n6 : ¬ gI T 77 i = 6 := by
          have y := kk.2.1
          intro q
          have hi2 := ci
          unfold CJ at hi2
          have y3 := (tt.1.2.2.1 (i - 130 * S) (by omega) (by omega)).2.1
          unfold K3a at y3
          rw [show 130 * S + (i - 130 * S) = i by omega] at y3
          rcases y3 with y3 | y3
          · omega
          · exact y3.2.2.1 q
        have r77 := tt.2.2.2.1 i ci n6
        have thr : gI T 77 i = 1 → (f_X8_isThrowing_x X a = 0 ↔ ¬ FB (Y.1 c 4) (gI T 84 i)) := fun k77 => by
          have p84 := tt.2.2.2.2.1 i ci k77
          have P5 := tt.2.2.2.2.2.2.2.1
          have y102 : s.1 102 (5 * S + gI T 84 i).toNat = V FG 102 (5 * S + gI T 84 i) := hw 102 _ (by omega) (by omega) (by rw [show wd 102 = 5 from rfl]; omega) (by rw [show wd 102 = 5 from rfl]; omega)
          have x102 : X.1 102 (5 * S + gI T 84 i).toNat = V FG 102 (5 * S + gI T 84 i) := by
            rw [eX, sI_nc (show (102 : Nat) ≠ 70 by omega)]
            exact y102
          have r102 := b01 102 (5 * S + gI T 84 i).toNat (Or.inr rfl)
          rw [y102] at r102
          have x6 : X.1 70 6 = S := win.1.trans hT
          unfold f_X8_isThrowing_x
          repeat rewrite [bd_r]
          rw [kx, if_neg (fun z => z k77), it, ← ei, xi 84 (by omega) (by omega), x6, x102]
          have f := (fl (gI T 84 i) p84.1 p84.2).2
          by_cases v : V FG 102 (5 * S + gI T 84 i) = 0
          · rw [if_pos v]
            exact ⟨fun _ z => by have := f.mp z; omega, fun _ => rfl⟩
          · rw [if_neg v]
            exact ⟨fun z => absurd z (by decide), fun z => absurd (f.mpr (by omega)) z⟩
        have d7 : f_X0_decides s c a = 0 ↔ (gI T 77 i = 0 ∨ (gI T 77 i = 1 ∧ ¬ FB (Y.1 c 4) (gI T 84 i))) := by
          unfold f_X0_decides
          repeat rewrite [bd_r]
          rw [s2, s7, s4]
          by_cases k77 : gI T 77 i = 1
          · rw [if_neg (fun z => z k77)]
            have p84 := tt.2.2.2.2.1 i ci k77
            have P5 := tt.2.2.2.2.2.2.2.1
            have r := flag_r (s := s) cs.2.2.2.2.2.1 cs.2.2.2.2.2.2 p84.1 (show gI T 84 i < 5 by omega)
            rw [r]
            exact ⟨fun z => Or.inr ⟨k77, z⟩, fun z => z.elim (fun y => absurd y (by omega)) (fun y => y.2)⟩
          · rw [if_pos k77]
            by_cases k0 : gI T 77 i = 0
            · rw [if_pos k0]
              exact ⟨fun _ => Or.inl k0, fun _ => rfl⟩
            · rw [if_neg k0]
              exact ⟨fun z => absurd z (by decide), fun z => z.elim (fun y => absurd y k0) (fun y => absurd y.1 k77)⟩
        have d8 : f_X8_decides_x X a = 0 ↔ (gI T 77 i = 0 ∨ (gI T 77 i = 1 ∧ ¬ FB (Y.1 c 4) (gI T 84 i))) := by
          unfold f_X8_decides_x
          repeat rewrite [bd_r]
          rw [kx]
          by_cases q2 : gI T 77 i = 2
          · rw [if_pos q2]; exact ⟨fun z => absurd z (by decide), fun z => by omega⟩
          rw [if_neg q2]
          by_cases q3 : gI T 77 i = 3
          · rw [if_pos q3]; exact ⟨fun z => absurd z (by decide), fun z => by omega⟩
          rw [if_neg q3]
          by_cases q5 : gI T 77 i = 5
          · rw [if_pos q5]; exact ⟨fun z => absurd z (by decide), fun z => by omega⟩
          rw [if_neg q5]
          by_cases q4 : gI T 77 i = 4
          · rw [if_pos q4]; exact ⟨fun z => absurd z (by decide), fun z => by omega⟩
          rw [if_neg q4]
          by_cases k77 : gI T 77 i = 1
          · have y := thr k77
            by_cases v : f_X8_isThrowing_x X a = 0
            · rw [if_pos v]
              exact ⟨fun _ => Or.inr ⟨k77, y.mp v⟩, fun _ => rfl⟩
            · rw [if_neg v]
              exact ⟨fun z => absurd z (by decide), fun z => z.elim (fun q => by omega) (fun q => absurd (y.mpr q.2) v)⟩
          · have v : f_X8_isThrowing_x X a = 0 := by
              unfold f_X8_isThrowing_x
              rewrite [bd_r]
              rw [kx, if_pos k77]
            rw [if_pos v]
            exact ⟨fun _ => Or.inl (by omega), fun _ => rfl⟩
        have k8 := bd_e k7 rfl
        repeat rewrite [bd_r]
        rw [r3]
        by_cases v : f_X0_decides s c a = 0
        · rw [if_pos v]
          have k9 := if_t k8 (d8.mpr (d7.mp v))
          rw [k9]
        · rw [if_neg v]
          have k9 := if_f k8 (fun z => v (d7.mpr (d8.mp z)))
          rw [k9]
      rw [if_neg b6]
      have k6 := if_f k5 b6
      rw [k6]
    · rw [if_neg ia] at k3 ⊢
      have k4 := if_f k3 (fun z => z rfl)
      rw [k4]
      exact if_neg (fun z => z rfl)
