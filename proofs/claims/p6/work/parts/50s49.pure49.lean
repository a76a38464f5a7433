/-! count: the same answers -/
theorem bsum_0 {f : Nat → Bool} {n : Nat} : ∀ m, (∀ k, n ≤ k → k < n + m → f k = false) → bsum f (n + m) = bsum f n := by
  intro m
  induction m with
  | zero => intro _; rfl
  | succ m ih =>
    intro h
    show bsum f (n + m) + (f (n + m)).toNat = _
    rw [ih (fun k a b => h k a (by omega)), h (n + m) (by omega) (by omega)]
    rfl
theorem calls_n {X : ST} {S n : Int} {f : Nat → Bool} (x29 : X.1 70 29 = S) (x75 : gI X 75 S = n) (n0 : 0 ≤ n) (n40 : n ≤ 40) (hf : ∀ k : Int, 0 ≤ k → k < 64 → (f k.toNat = true ↔ k < n ∧ f_X8_kindAt X k = 1)) : ∀ (N m : Nat) (l1 l2 : Int), 0 ≤ l2 → l2 ≤ n → n - l2 < N → l1 = (bsum f l2.toNat : Nat) → f_X8_calls_ N m l1 l2 X = (bsum f 64 : Nat) := by
  intro N
  induction N with
  | zero => intro m l1 l2 h0 h1 h2; omega
  | succ N ih =>
    intro m l1 l2 h0 h1 h2 h3
    rw [f_X8_calls_]
    repeat rewrite [bd_r]
    rw [x29, show X.1 75 S.toNat = n from x75]
    by_cases z : n ≤ l2
    · rw [if_pos z, h3]
      have e : l2 = n := by omega
      have q := bsum_0 (f := f) (n := n.toNat) (64 - n.toNat) (fun k a b => by
        have w := hf (k : Int) (by omega) (by omega)
        have y : ((k : Int)).toNat = k := by omega
        rw [y] at w
        cases hk : f k with
        | false => rfl
        | true => exact absurd (w.mp hk).1 (by omega))
      rw [show n.toNat + (64 - n.toNat) = 64 by omega] at q
      rw [e, q]
    · rw [if_neg z]
      have w := hf l2 h0 (by omega)
      have st_ : bsum f (l2 + 1).toNat = bsum f l2.toNat + (f l2.toNat).toNat := by
        rw [show (l2 + 1).toNat = l2.toNat + 1 by omega]
        rfl
      have bl := bsum_le f l2.toNat
      by_cases k1 : f_X8_kindAt X l2 = 1
      · rw [if_neg (fun y => y k1)]
        have ft : f l2.toNat = true := w.mpr ⟨by omega, k1⟩
        rw [iadd_r (by omega) (by omega)]
        refine ih 4 _ _ (by omega) (by omega) (by omega) ?_
        rw [st_, ft, h3]
        rfl
      · rw [if_pos k1]
        have ft : f l2.toNat = false := by
          cases hk : f l2.toNat with
          | false => rfl
          | true => exact absurd (w.mp hk).2 k1
        refine ih 4 _ _ (by omega) (by omega) (by omega) ?_
        rw [st_, ft, h3]
        show ((bsum f l2.toNat : Nat) : Int) + 0 = ((bsum f l2.toNat + 0 : Nat) : Int)
        omega
theorem fb_tab : ∀ v w : Fin 32, (∀ q : Fin 5, v.val.testBit q.val = w.val.testBit q.val) → v = w := by decide +kernel
theorem fb_eq {v w : Int} (v0 : 0 ≤ v) (v1 : v < 32) (w0 : 0 ≤ w) (w1 : w < 32) (h : ∀ q, 0 ≤ q → q < 5 → (FB v q ↔ FB w q)) : v = w := by
  have t := fb_tab ⟨v.toNat, by omega⟩ ⟨w.toNat, by omega⟩ (fun q => by
    have z := h (q.val : Int) (by omega) (by have := q.isLt; omega)
    unfold FB at z
    rw [show ((q.val : Int)).toNat = q.val by omega] at z
    exact Bool.eq_iff_iff.mpr z)
  have e := congrArg Fin.val t
  have e2 : v.toNat = w.toNat := e
  omega
theorem or0_tab : ∀ v : Fin 32, o_ior (v.val : Int) 0 = (v.val : Int) := by decide +kernel
theorem or0_r {v : Int} (v0 : 0 ≤ v) (v1 : v < 32) : o_ior v 0 = v := by
  have t := or0_tab ⟨v.toNat, by omega⟩
  dsimp only at t
  rw [show ((v.toNat : Nat) : Int) = v by omega] at t
  exact t
theorem may_n {X : ST} {cc : Nat} {S P : Int} {g : Int → Prop} (x29 : X.1 70 29 = S) (x76 : gI X 76 S = P) (P0 : 0 ≤ P) (P5 : P ≤ 5) (hg : ∀ q, 0 ≤ q → q < P → (¬ X.1 cc (5 * S + q).toNat = 0 ↔ g q)) : ∀ (N m : Nat) (l2 l3 : Int), 0 ≤ l3 → l3 ≤ P → P - l3 < N → 0 ≤ l2 → l2 < 32 → (∀ q, 0 ≤ q → q < 5 → (FB l2 q ↔ q < l3 ∧ g q)) → 0 ≤ f_X8_may_ N m cc l2 l3 X ∧ f_X8_may_ N m cc l2 l3 X < 32 ∧ ∀ q, 0 ≤ q → q < 5 → (FB (f_X8_may_ N m cc l2 l3 X) q ↔ q < P ∧ g q) := by
  intro N
  induction N with
  | zero => intro m l2 l3 h0 h1 h2; omega
  | succ N ih =>
    intro m l2 l3 h0 h1 h2 v0 v1 hf
    rw [f_X8_may_]
    repeat rewrite [bd_r]
    rw [x29, show X.1 76 S.toNat = P from x76]
    by_cases z : P ≤ l3
    · rw [if_pos z]
      have e : l3 = P := by omega
      rw [← e]
      exact ⟨v0, v1, hf⟩
    · rw [if_neg z]
      have w := hg l3 h0 (by omega)
      by_cases y : X.1 cc (5 * S + l3).toNat = 0
      · rw [if_pos y, or0_r v0 v1]
        refine ih 4 _ _ (by omega) (by omega) (by omega) v0 v1 (fun q q0 q1 => ?_)
        rw [hf q q0 q1]
        constructor
        · exact fun a => ⟨by omega, a.2⟩
        · intro a
          refine ⟨?_, a.2⟩
          by_cases k : q = l3
          · rw [k] at a
            exact absurd y (w.mpr a.2)
          · omega
      · rw [if_neg y]
        have r := or_r v0 v1 h0 (show l3 < 5 by omega)
        refine ih 4 _ _ (by omega) (by omega) (by omega) r.1 r.2.1 (fun q q0 q1 => ?_)
        rw [r.2.2 q q0 q1, hf q q0 q1]
        constructor
        · intro a
          rcases a with a | a
          · exact ⟨by omega, a.2⟩
          · rw [a]; exact ⟨by omega, w.mp y⟩
        · intro a
          by_cases k : q = l3
          · exact Or.inr k
          · exact Or.inl ⟨by omega, a.2⟩
theorem count_same {s : ST} {a : Int} (b74 : ∀ j, s.1 74 j ≤ 280) (b01 : ∀ q j, q = 101 ∨ q = 102 → 0 ≤ s.1 q j ∧ s.1 q j ≤ 1) (tp : s.1 0 1 = s.1 70 2) (h : HIS s) : f_X7_count s a = (f_X8_count2 s a).2 := by
  obtain ⟨c, d, cd, r3, r4, h⟩ := h
  obtain ⟨X, eX⟩ : ∃ X, X = sI s 70 6 (s.1 70 29) := ⟨_, rfl⟩
  obtain ⟨fin, kf⟩ : ∃ z, z = f_X8_count2 s a := ⟨_, rfl⟩
  rw [← kf]
  unfold f_X8_count2 at kf
  have k1 := bd_e kf rfl
  have k2 := bd_e k1 eX.symm
  have xj : ∀ j, j ≠ 6 → X.1 70 j = s.1 70 j := fun j hj => by rw [eX, sI_ne (show ¬ ((70 : Nat) = 70 ∧ j = 6) by omega)]
  have x2 := xj 2 (by omega)
  have x30 := xj 30 (by omega)
  have x29 := xj 29 (by omega)
  have vv : ∃ n P w3 w4 cl : Int, s.1 c 0 = n ∧ s.1 c 1 = P ∧ s.1 c 4 = w4 ∧ s.1 c 3 = w3 ∧ f_J13_bitCount_95d88 s (s.2.1 c 2) = cl ∧ (if X.1 70 30 = 0 then (X, (0 : Int)) else (X, gI X 75 (X.1 70 29))) = (X, n) ∧ (if X.1 70 30 = 0 then (X, (0 : Int)) else (X, gI X 76 (X.1 70 29))) = (X, P) ∧ (if X.1 70 30 = 0 then (X, (0 : Int)) else (X, f_X8_calls X)) = (X, cl) ∧ (if X.1 70 30 = 0 then (X, (0 : Int)) else (X, f_X8_may X 102)) = (X, w4) ∧ (if X.1 70 30 = 0 then (X, (0 : Int)) else (X, f_X8_may X 101)) = (X, w3) := by
    rcases h with h | ⟨h30, h⟩
    · have z : X.1 70 30 = 0 := x30.trans h.1
      refine ⟨0, 0, 0, 0, 0, h.2.1, h.2.2.1, h.2.2.2.2.1, h.2.2.2.1, ?_, if_pos z, if_pos z, if_pos z, if_pos z, if_pos z⟩
      rw [h.2.2.2.2.2]
      rw [bit_count]; decide +kernel
    · obtain ⟨S, eS⟩ : ∃ S, S = s.1 70 29 := ⟨_, rfl⟩
      rw [← eS] at h eX x29
      obtain ⟨P, B, sm, T, Y, FG, hc, S0, cdf, cl, win, hp, hw, n0, n40, sn, s93, h79⟩ := HISC.all b74 h
      obtain ⟨tt, hP, P1, hT, bg, cs, keep, wy, fl, nf⟩ := cdf
      rw [← eX] at win
      have P5 := tt.2.2.2.2.2.2.2.1
      have z : ¬ X.1 70 30 = 0 := by rw [x30, h30]; decide
      have c0 : s.1 c 0 = gI T 75 S := (hp c 0 (by omega) (by omega)).1.trans cs.1
      have c1 : s.1 c 1 = P := (hp c 1 (by omega) (by omega)).1.trans cs.2.1
      have x75 : gI X 75 S = gI T 75 S := win.2.2.2.2 75 (by omega) (by omega)
      have x76 : gI X 76 S = P := (win.2.2.2.2 76 (by omega) (by omega)).trans hP.symm
      have flag : ∀ q, q = 101 ∨ q = 102 → ∀ p, 0 ≤ p → p < P → X.1 q (5 * S + p).toNat = V FG q (5 * S + p) ∧ 0 ≤ V FG q (5 * S + p) ∧ V FG q (5 * S + p) ≤ 1 := fun q hq p p0 p1 => by
        have wq : wd q = 5 := by rcases hq with rfl | rfl <;> rfl
        have y : s.1 q (5 * S + p).toNat = V FG q (5 * S + p) := hw q _ (by omega) (by omega) (by rw [wq]; omega) (by rw [wq]; omega)
        have r := b01 q (5 * S + p).toNat hq
        rw [y] at r
        refine ⟨?_, r.1, r.2⟩
        rw [eX, sI_nc (show q ≠ 70 by omega)]
        exact y
      refine ⟨gI T 75 S, P, Y.1 c 3, Y.1 c 4, _, c0, c1, (hp c 4 (by omega) (by omega)).1, (hp c 3 (by omega) (by omega)).1, rfl, ?_, ?_, ?_, ?_, ?_⟩
      · rw [if_neg z, x29, x75]
      · rw [if_neg z, x29, x76]
      · rw [if_neg z, bit_count, (hp c 2 (by omega) (by omega)).2]
        refine congrArg (Prod.mk X) ?_
        have kd : ∀ k, 0 ≤ k → k < gI T 75 S → f_X8_kindAt X k = Y.1 (c + 2) k.toNat := fun k k0 k1 => by
          unfold f_X8_kindAt
          repeat rewrite [bd_r]
          rw [item_w win hT k0 k1, (cs.2.2.1 k k0 k1).1]
          exact win.2.1 77 _ (by omega) (by omega) (s93 k k0 k1)
        have y := cl.2.2.2
        rw [cs.1] at y
        refine calls_n x29 x75 n0 n40 (fun k k0 k1 => ?_) 139 4 0 0 (by omega) n0 (by omega) rfl
        have w : ((nb (Y.2.1 c 2)).testBit k.toNat = true) ↔ _ := y k k0 k1
        rw [w]
        constructor
        · exact fun q => ⟨q.1, (kd k k0 q.1).trans q.2⟩
        · exact fun q => ⟨q.1, (kd k k0 q.1).symm.trans q.2⟩
      · rw [if_neg z]
        refine congrArg (Prod.mk X) ?_
        have r := may_n (cc := 102) (g := fun q => V FG 102 (5 * S + q) = 1) x29 x76 (by omega) P5 (fun q q0 q1 => by
          have f := flag 102 (Or.inr rfl) q q0 q1
          rw [f.1]
          omega) 34 4 0 0 (by omega) (by omega) (by omega) (by omega) (by omega) (fun q q0 q1 => ⟨fun y => absurd y (FB_0 q), fun y => absurd y.1 (by omega)⟩)
        refine fb_eq r.1 r.2.1 cs.2.2.2.2.2.1 cs.2.2.2.2.2.2 (fun q q0 q1 => ?_)
        refine (r.2.2 q q0 q1).trans ?_
        by_cases y : q < P
        · rw [(fl q q0 y).2]
          exact ⟨fun w => w.2, fun w => ⟨y, w⟩⟩
        · exact ⟨fun w => absurd w.1 y, fun w => absurd w (nf q (by omega) q1 q0).2⟩
      · rw [if_neg z]
        refine congrArg (Prod.mk X) ?_
        have r := may_n (cc := 101) (g := fun q => V FG 101 (5 * S + q) = 1) x29 x76 (by omega) P5 (fun q q0 q1 => by
          have f := flag 101 (Or.inl rfl) q q0 q1
          rw [f.1]
          omega) 34 4 0 0 (by omega) (by omega) (by omega) (by omega) (by omega) (fun q q0 q1 => ⟨fun y => absurd y (FB_0 q), fun y => absurd y.1 (by omega)⟩)
        refine fb_eq r.1 r.2.1 cs.2.2.2.2.1.1 cs.2.2.2.2.1.2 (fun q q0 q1 => ?_)
        refine (r.2.2 q q0 q1).trans ?_
        by_cases y : q < P
        · rw [(fl q q0 y).1]
          exact ⟨fun w => w.2, fun w => ⟨y, w⟩⟩
        · exact ⟨fun w => absurd w.1 y, fun w => absurd w (nf q (by omega) q1 q0).1⟩
  obtain ⟨n, P, w3, w4, cl, v0, v1, v4, v3, vb, u0, u1, u2, u4, u3⟩ := vv
  unfold f_X7_count
  repeat rewrite [bd_r]
  repeat rewrite [bd_r] at k2
  rw [r3, v0, v1, v4, v3, vb]
  by_cases a0 : a = 0
  · rw [if_pos a0]
    rw [if_t k2 a0]
    exact (congrArg Prod.snd u0).symm
  rw [if_neg a0]
  have k3 := if_f k2 a0
  by_cases a1 : a = 1
  · rw [if_pos a1, if_t k3 a1]
    exact (congrArg Prod.snd u1).symm
  rw [if_neg a1]
  have k4 := if_f k3 a1
  by_cases a2 : a = 2
  · rw [if_pos a2, if_t k4 a2]
    exact (congrArg Prod.snd u2).symm
  rw [if_neg a2]
  have k5 := if_f k4 a2
  by_cases a3 : a = 3
  · rw [if_pos a3, if_t k5 a3]
    exact (congrArg Prod.snd u4).symm
  rw [if_neg a3]
  have k6 := if_f k5 a3
  by_cases a4 : a = 4
  · rw [if_pos a4, if_t k6 a4]
    exact (congrArg Prod.snd u3).symm
  rw [if_neg a4]
  have k7 := if_f k6 a4
  by_cases a5 : a = 5
  · rw [if_pos a5, if_t k7 a5]
    show s.1 0 1 = X.1 70 2
    rw [x2]
    exact tp
  rw [if_neg a5, if_f k7 a5]
