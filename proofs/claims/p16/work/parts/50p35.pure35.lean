/-! the walks, round by round -/
theorem TT.top {c : Nat} {S P : Int} {B : Int → Int} {s t : ST} {EN FI EO BH TB : Int → Int} (h : TT c S P B s t EN FI EO BH TB) {p : Int} (p0 : 0 ≤ p) (p1 : p < P) : ∀ y, CJ t S y → gI t 88 y = gI t 94 (5 * S + p) → gI t 79 y = p := fun i hi e => by
  have k5 := h.1.2.2.2.2.1 p p0 p1
  have S0 := h.2.2.2.2.2.2.1
  have k := h.1.2.2.2.2.2.2.1.2.1 (i - 130 * S) (by have := hi.1; omega) (by have := hi.2; omega)
  rw [show 130 * S + (i - 130 * S) = i by omega, e, k5.2.2] at k
  rcases k with k | k
  · rcases k.2.2 with y | y
    · rcases Int.lt_trichotomy (gI t 79 i) p with v | v | v
      · exact absurd y.2 (h.1.2.2.2.2.2.2.1.2.2.2.2.2.2.2.1 _ _ k.2.1 v p1)
      · exact v
      · exact absurd y.2.symm (h.1.2.2.2.2.2.2.1.2.2.2.2.2.2.2.1 _ _ p0 v y.1)
    · have := y.2.1
      omega
  · have := k.1.1
    omega
theorem walk_w {c : Nat} {S P : Int} {B : Int → Int} {s t X : ST} {EN FI EO BH TB : Int → Int} (h : TT c S P B s t EN FI EO BH TB) {p : Int} (p0 : 0 ≤ p) (p1 : p < P) (hX : CS c S P t FI BH TB X) :
    (CS c S P t FI BH TB (f_X0_walk X c p) ∧ KF c P X (f_X0_walk X c p)) ∧ (∀ R T : Int → Prop, PFX t S P FI BH TB R T → FSB c X R T → FSB c (f_X0_walk X c p) R T) ∧ ((f_X0_walk X c p).1 c 3 = X.1 c 3 → (f_X0_walk X c p).1 c 4 = X.1 c 4 → (CTA t S FI BH TB (FB (X.1 c 3)) (FB (X.1 c 4)) p 0 → FB (X.1 c 3) p) ∧ (CTA t S FI BH TB (FB (X.1 c 3)) (FB (X.1 c 4)) p 1 → FB (X.1 c 4) p)) := by
  have P5 := h.2.2.2.2.2.2.2.1
  have S0 := h.2.2.2.2.2.2.1
  have k40 : gI t 75 S ≤ 40 := h.1.1.2.2.2.2.1
  have k75 : 0 ≤ gI t 75 S := h.1.1.2.2.2.1
  have k5 := h.1.2.2.2.2.1 p p0 p1
  unfold f_X0_walk
  repeat rewrite [bd_r]
  rw [hX.2.2.2.1 p p0 p1]
  obtain ⟨r, hr⟩ : ∃ r, r = f_X7_bit X (en p (FI (gI t 94 (5 * S + p)))) := ⟨_, rfl⟩
  rw [← hr]
  have tg := (TG.all S0 h.1 h.2.1 h.2.2.1 (fun x => bt r x)).2.1 _ k5.2.1 (Or.inl k5.2.2) (130 * S - 1) (Or.inl k5.2.2) (fun y hy _ => by have := hy.1; omega)
  have pv := (PV.all h).2.1 _ k5.2.1 p ⟨h.top p0 p1, fun z => by rw [k5.2.2] at z; have := z.1; omega⟩
  have rg : (FI (gI t 94 (5 * S + p)) = -1 ∧ en p (FI (gI t 94 (5 * S + p))) = 40 + p) ∨ (0 ≤ FI (gI t 94 (5 * S + p)) ∧ FI (gI t 94 (5 * S + p)) < gI t 75 S ∧ en p (FI (gI t 94 (5 * S + p))) = FI (gI t 94 (5 * S + p))) := by
    rcases tg with z | z
    · exact Or.inl ⟨z, by rw [z]; exact en_1⟩
    · exact Or.inr ⟨z.1, z.2.1, en_n (by have := z.1; omega)⟩
  have bits : ∀ j, 0 ≤ j → (bt r j ↔ j = en p (FI (gI t 94 (5 * S + p)))) := fun j hj => by rw [hr, bit_r (by omega) (by omega) hj]
  have J : JJ t S FI p r := by
    refine ⟨fun j j0 bj => ?_, (bits _ (by omega)).mpr rfl⟩
    have e := (bits j j0).mp bj
    rcases rg with z | z
    · exact Or.inr (by omega)
    · rw [z.2.2] at e
      rcases tg with y | y
      · omega
      · rw [e]
        refine Or.inl ⟨y.2.1, y.2.2.1, ?_⟩
        rcases pv with u | u
        · omega
        · exact u
  have W := walk_ok h p0 p1 139 13 r 0 X hX (by omega) (by omega) (by omega) J
  refine ⟨W.1, fun R T pf hf => W.2.1 R T pf hf ⟨fun C hc c0 j j0 j1 bj => ?_, fun bj => ?_⟩, fun w3 w4 => W.2.2 w3 w4 (fun j j0 j1 => by omega)⟩
  · have e := (bits j j0).mp bj
    rcases rg with z | z
    · omega
    · rw [e, z.2.2]
      exact c0 z.1
  · have e := (bits _ (by omega)).mp bj
    rcases rg with z | z
    · exact Or.inl ⟨z.1, rfl⟩
    · omega
def cnN (v : Nat) : Nat := (v.testBit 0).toNat + (v.testBit 1).toNat + (v.testBit 2).toNat + (v.testBit 3).toNat + (v.testBit 4).toNat
def cnF (v : Int) : Int := (cnN v.toNat : Int)
theorem cn_tab : ∀ v w : Fin 32, (∀ q : Fin 5, v.val.testBit q.val = true → w.val.testBit q.val = true) → cnN v.val ≤ cnN w.val ∧ (¬ v = w → cnN v.val < cnN w.val) := by decide +kernel
theorem cn_hi : ∀ v : Fin 32, cnN v.val ≤ 5 := by decide +kernel
theorem cn_r {v w : Int} (v0 : 0 ≤ v) (v1 : v < 32) (w0 : 0 ≤ w) (w1 : w < 32) (h : ∀ q, 0 ≤ q → q < 5 → FB v q → FB w q) : cnF v ≤ cnF w ∧ (¬ v = w → cnF v < cnF w) ∧ cnF w ≤ 5 := by
  have t := cn_tab ⟨v.toNat, by omega⟩ ⟨w.toNat, by omega⟩ (fun q hq => by
    have u := h (q.val : Int) (by omega) (by have := q.isLt; omega)
    unfold FB at u
    rw [show ((q.val : Int)).toNat = q.val by omega] at u
    exact u hq)
  have t2 := cn_hi ⟨w.toNat, by omega⟩
  dsimp only at t t2
  unfold cnF
  refine ⟨by have := t.1; omega, fun z => ?_, by omega⟩
  have := t.2 (fun y => z (by have := congrArg Fin.val y; dsimp only at this; omega))
  omega
/-- what settling brings -/
def SE (c : Nat) (S P : Int) (t : ST) (FI BH TB : Int → Int) (X Y : ST) : Prop := CS c S P t FI BH TB Y ∧ KF c P X Y ∧ (∀ R T : Int → Prop, PFX t S P FI BH TB R T → FSB c X R T → FSB c Y R T) ∧ PFX t S P FI BH TB (FB (Y.1 c 3)) (FB (Y.1 c 4))
set_option maxHeartbeats 4000000 in
theorem settle_n {c : Nat} {S P : Int} {B : Int → Int} {s t : ST} {EN FI EO BH TB : Int → Int} (h : TT c S P B s t EN FI EO BH TB) (P0 : 0 ≤ P) : ∀ n : Nat, (∀ (l1 l2 l3 l4 l5 : Int) (X : ST), CS c S P t FI BH TB X → 0 ≤ l2 → l2 ≤ 11 → 8 * (11 - l2) + 1 < n → (l1 = 0 → PFX t S P FI BH TB (FB (X.1 c 3)) (FB (X.1 c 4))) → (¬ l1 = 0 → l2 ≤ cnF (X.1 c 3) + cnF (X.1 c 4)) → SE c S P t FI BH TB X (f_X0_settleEnds_ n 4 c l1 l2 l3 l4 l5 X)) ∧ (∀ (l1 l2 l3 l4 l5 : Int) (X : ST), CS c S P t FI BH TB X → 0 ≤ l2 → l2 ≤ 10 → 0 ≤ l5 → l5 ≤ P → 8 * (10 - l2) + 2 + (P - l5) < n → (0 ≤ l3 ∧ l3 < 32) → (0 ≤ l4 ∧ l4 < 32) → (∀ q, 0 ≤ q → q < 5 → (FB l3 q → FB (X.1 c 3) q) ∧ (FB l4 q → FB (X.1 c 4) q)) → l2 ≤ cnF l3 + cnF l4 → (X.1 c 3 = l3 → X.1 c 4 = l4 → ∀ p, 0 ≤ p → p < l5 → (CTA t S FI BH TB (FB l3) (FB l4) p 0 → FB l3 p) ∧ (CTA t S FI BH TB (FB l3) (FB l4) p 1 → FB l4 p)) → SE c S P t FI BH TB X (f_X0_settleEnds_ n 28 c l1 l2 l3 l4 l5 X)) := by
  have P5 := h.2.2.2.2.2.2.2.1
  intro n
  induction n with
  | zero => exact ⟨fun l1 l2 l3 l4 l5 X _ _ _ hn => by omega, fun l1 l2 l3 l4 l5 X _ _ _ _ _ hn => by omega⟩
  | succ n ih =>
    refine ⟨fun l1 l2 l3 l4 l5 X hX l20 l21 hn cl gr => ?_, fun l1 l2 l3 l4 l5 X hX l20 l21 l50 l51 hn b3 b4 sub gr cl => ?_⟩
    · have x3 := hX.2.2.2.2.1
      have x4 := hX.2.2.2.2.2
      have c3 := cn_r x3.1 x3.2 x3.1 x3.2 (fun _ _ _ z => z)
      have c4 := cn_r x4.1 x4.2 x4.1 x4.2 (fun _ _ _ z => z)
      rw [f_X0_settleEnds_]
      repeat rewrite [bd_r]
      rw [if_pos rfl]
      have done : PFX t S P FI BH TB (FB (X.1 c 3)) (FB (X.1 c 4)) → SE c S P t FI BH TB X X := fun pf => ⟨hX, KF.rfl, fun _ _ _ z => z, pf⟩
      by_cases z : l1 = 0
      · by_cases y : 10 < l2
        · rw [if_pos y]; exact done (cl z)
        · rw [if_neg y, if_pos z]; exact done (cl z)
      · have g := gr z
        have c35 := c3.2.2
        have c45 := c4.2.2
        rw [if_neg (show ¬ 10 < l2 by omega), if_neg z]
        refine ih.2 0 l2 _ _ 0 X hX l20 (by omega) (by omega) P0 (by omega) x3 x4 (fun q _ _ => ⟨fun y => y, fun y => y⟩) g (fun _ _ p p0 p1 => by omega)
    · have x3 := hX.2.2.2.2.1
      have x4 := hX.2.2.2.2.2
      have c3 := cn_r b3.1 b3.2 x3.1 x3.2 (fun q q0 q1 => (sub q q0 q1).1)
      have c4 := cn_r b4.1 b4.2 x4.1 x4.2 (fun q q0 q1 => (sub q q0 q1).2)
      rw [f_X0_settleEnds_]
      repeat rewrite [bd_r]
      rw [if_neg (show ¬ (28 : Nat) = 4 by decide), hX.2.1]
      by_cases z : P ≤ l5
      · rw [if_pos z]
        by_cases e3 : l3 = X.1 c 3
        · rw [if_neg (fun y => y e3)]
          by_cases e4 : l4 = X.1 c 4
          · rw [if_pos e4]
            refine ih.1 0 (l2 + 1) 0 0 0 X hX (by omega) (by omega) (by omega) (fun _ => ?_) (fun y => absurd rfl y)
            rw [← e3, ← e4]
            exact fun p p0 p1 => cl e3.symm e4.symm p p0 (by omega)
          · rw [if_neg e4]
            refine ih.1 1 (l2 + 1) 0 0 0 X hX (by omega) (by omega) (by omega) (fun y => by omega) (fun _ => ?_)
            have := c4.2.1 e4
            have := c3.1
            omega
        · rw [if_pos e3]
          refine ih.1 1 (l2 + 1) 0 0 0 X hX (by omega) (by omega) (by omega) (fun y => by omega) (fun _ => ?_)
          have := c3.2.1 e3
          have := c4.1
          omega
      · rw [if_neg z]
        have W := walk_w h l50 (by omega) hX
        generalize f_X0_walk X c l5 = Y at W ⊢
        have y3 := W.1.1.2.2.2.2.1
        have y4 := W.1.1.2.2.2.2.2
        have gy := W.1.2.2.2.1
        have R := ih.2 0 l2 l3 l4 (l5 + 1) Y W.1.1 l20 l21 (by omega) (by omega) (by omega) b3 b4 (fun q q0 q1 => ⟨fun y => (gy q q0 q1).1 ((sub q q0 q1).1 y), fun y => (gy q q0 q1).2 ((sub q q0 q1).2 y)⟩) gr (fun e3 e4 p p0 p1 => by
          have f3 : X.1 c 3 = l3 := flag_eq x3.1 x3.2 b3.1 b3.2 (fun q q0 q1 => ⟨fun y => by have := (gy q q0 q1).1 y; rw [e3] at this; exact this, (sub q q0 q1).1⟩)
          have f4 : X.1 c 4 = l4 := flag_eq x4.1 x4.2 b4.1 b4.2 (fun q q0 q1 => ⟨fun y => by have := (gy q q0 q1).2 y; rw [e4] at this; exact this, (sub q q0 q1).2⟩)
          by_cases v : p = l5
          · have u := W.2.2 (e3.trans f3.symm) (e4.trans f4.symm)
            rw [f3, f4] at u
            rw [v]
            exact u
          · exact cl f3 f4 p p0 (by omega))
        exact ⟨R.1, W.1.2.tr R.2.1, fun Q T pf hf => R.2.2.1 Q T pf (W.2.1 Q T pf hf), R.2.2.2⟩
theorem settle_ok {c : Nat} {S P : Int} {B : Int → Int} {s t X : ST} {EN FI EO BH TB : Int → Int} (h : TT c S P B s t EN FI EO BH TB) (P0 : 0 ≤ P) (hX : CS c S P t FI BH TB X) : SE c S P t FI BH TB X (f_X0_settleEnds X c) := by
  unfold f_X0_settleEnds
  have x3 := hX.2.2.2.2.1
  have x4 := hX.2.2.2.2.2
  exact (settle_n h P0 325).1 1 0 0 0 0 X hX (by omega) (by omega) (by omega) (fun y => by omega) (fun _ => by unfold cnF; omega)
/-- whether all may end -/
theorem ends_r {c : Nat} {S P : Int} {t Y : ST} {FI BH TB : Int → Int} (hY : CS c S P t FI BH TB Y) (P0 : 0 ≤ P) (P5 : P ≤ 5) (nf : ∀ q, P ≤ q → q < 5 → 0 ≤ q → ¬ FB (Y.1 c 3) q ∧ ¬ FB (Y.1 c 4) q) : f_X0_allMayEnd Y c = 0 ↔ ¬ ∀ q, 0 ≤ q → q < P → FB (Y.1 c 3) q ∨ FB (Y.1 c 4) q := by
  have x3 := hY.2.2.2.2.1
  have x4 := hY.2.2.2.2.2
  have e := end_r x3.1 x3.2 x4.1 x4.2 P0 P5 (fun q q0 q1 => nf q q0 q1 (by omega))
  unfold f_X0_allMayEnd
  repeat rewrite [bd_r]
  rw [hY.2.1, ← e]
  by_cases z : o_ior (Y.1 c 3) (Y.1 c 4) = o_isub (o_ishl 1 P) 1
  · rw [if_neg (fun y => y z)]
    exact ⟨fun y => absurd y (by decide), fun y => absurd z y⟩
  · rw [if_pos z]
    exact ⟨fun _ => z, fun _ => rfl⟩

