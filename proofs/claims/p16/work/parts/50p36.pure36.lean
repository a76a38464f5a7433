/-! the reference's ways satisfy the equations -/
theorem try_s {F : FN} {S : Int} {t : ST} (hV : ∀ (c : Nat) (i : Int), t.1 c i.toNat = V F c i) (ht : TR F S) (S0 : 0 ≤ S) (h80 : ∀ i, 0 ≤ V F 80 i) : ∀ (n k k' : Nat) (b : Int), BB F S b → (V F 92 b = -1 → 1 ≤ n) → (0 ≤ V F 92 b → V F 80 (V F 92 b) + 2 ≤ (n : Int)) → f_X8_tryOf_ (n + 1) k b t = f_X8_tryOf_ n k' b t := by
  intro n
  induction n with
  | zero =>
    intro k k' b hb h1 h2
    exfalso
    rcases (ht.2.2.2.2.2.1 b hb).2.2.1 with z | z
    · have := h1 z; omega
    · have := z.1; have := h2 (by omega); have := h80 (V F 92 b); omega
  | succ n ih =>
    intro k k' b hb h1 h2
    rw [f_X8_tryOf_, f_X8_tryOf_]
    repeat rewrite [bd_r]
    rw [hV]
    by_cases z : V F 92 b = -1
    · rw [if_pos z, if_pos z]
    · rw [if_neg z, if_neg z]
      rcases (ht.2.2.2.2.2.1 b hb).2.2.1 with y | y
      · exact absurd y z
      · have t2 := ht.2.2.1 _ y
        have q := h2 (by have := y.1; omega)
        have rc1 : f_X8_tryOf_ (n + 1) 7 (V F 88 (V F 92 b)) t = f_X8_tryOf_ n 7 (V F 88 (V F 92 b)) t := ih 7 7 _ t2.1 (fun w => by have := h80 (V F 92 b); omega) (fun w => by
          rcases t2.2 with v | v
          · omega
          · have := v.2.2.1; omega)
        rw [hV 77, hV 88, hV 85]
        by_cases z6 : V F 77 (V F 92 b) = 6
        · rw [if_neg (show ¬ ¬ V F 77 (V F 92 b) = 6 from fun w => w z6), if_neg (show ¬ ¬ V F 77 (V F 92 b) = 6 from fun w => w z6)]
          by_cases z5 : V F 85 (V F 92 b) = b
          · rw [if_neg (show ¬ ¬ V F 85 (V F 92 b) = b from fun w => w z5), if_neg (show ¬ ¬ V F 85 (V F 92 b) = b from fun w => w z5)]
          · rw [if_pos z5, if_pos z5]; exact rc1
        · rw [if_pos z6, if_pos z6]; exact rc1
theorem try_n {F : FN} {S : Int} {t : ST} (hV : ∀ (c : Nat) (i : Int), t.1 c i.toNat = V F c i) (ht : TR F S) (S0 : 0 ≤ S) (h80 : ∀ i, 0 ≤ V F 80 i) (h86 : ∀ i, V F 80 i ≤ 6) (b : Int) (hb : BB F S b) : ∀ m : Nat, f_X8_tryOf_ (8 + m) 7 b t = f_X8_tryOf_ 8 7 b t := by
  intro m
  induction m with
  | zero => rfl
  | succ m ih =>
    rw [← ih, show 8 + (m + 1) = (8 + m) + 1 from rfl]
    exact try_s hV ht S0 h80 (8 + m) 7 7 b hb (fun _ => by omega) (fun _ => by have := h86 (V F 92 b); omega)
theorem try_eq {F : FN} {S : Int} {t : ST} (hV : ∀ (c : Nat) (i : Int), t.1 c i.toNat = V F c i) (ht : TR F S) (S0 : 0 ≤ S) (h80 : ∀ i, 0 ≤ V F 80 i) (h86 : ∀ i, V F 80 i ≤ 6) (b : Int) (hb : BB F S b) : f_X8_tryOf_ 805 7 b t = if V F 92 b = -1 then -1 else if V F 77 (V F 92 b) = 6 ∧ V F 85 (V F 92 b) = b then V F 92 b else f_X8_tryOf_ 805 7 (V F 88 (V F 92 b)) t := by
  have a : ∀ b, BB F S b → f_X8_tryOf_ 805 7 b t = f_X8_tryOf_ 8 7 b t := fun b hb => try_n hV ht S0 h80 h86 b hb 797
  have a9 : ∀ b, BB F S b → f_X8_tryOf_ 9 7 b t = f_X8_tryOf_ 8 7 b t := fun b hb => try_n hV ht S0 h80 h86 b hb 1
  obtain ⟨M, hM⟩ : ∃ M : Nat, M = 8 := ⟨8, rfl⟩
  rw [a b hb, ← a9 b hb, show (9 : Nat) = M + 1 by omega, f_X8_tryOf_]
  repeat rewrite [bd_r]
  rw [hV]
  by_cases z : V F 92 b = -1
  · rw [if_pos z, if_pos z]
  · rw [if_neg z, if_neg z]
    rcases (ht.2.2.2.2.2.1 b hb).2.2.1 with y | y
    · exact absurd y z
    · have t2 := ht.2.2.1 _ y
      rw [hV 77, hV 88, hV 85, a _ t2.1, hM]
      by_cases z6 : V F 77 (V F 92 b) = 6
      · rw [if_neg (fun w => w z6)]
        by_cases z5 : V F 85 (V F 92 b) = b
        · rw [if_neg (fun w => w z5), if_pos ⟨z6, z5⟩]
        · rw [if_pos z5, if_neg (fun w => z5 w.2)]
      · rw [if_pos z6, if_neg (fun w => z6 w.1)]
theorem WQ.of {F : FN} {S : Int} {t : ST} (hV : ∀ (c : Nat) (i : Int), t.1 c i.toNat = V F c i) (ht : TR F S) (hc : CN F S (130 * S) 0) (S0 : 0 ≤ S) (h80 : ∀ i, 0 ≤ V F 80 i) (h86 : ∀ i, V F 80 i ≤ 6) (h73 : V F 73 S ≤ 130) : WQ t S (f_X8_entryOf t) (f_X8_firstOf t) (f_X8_endOf t) (f_X8_behind t) (fun b => f_X8_tryOf_ 805 7 b t) := by
  obtain ⟨m1, m2, m3, m4⟩ := mw_eq hV ht hc S0 h80 h86 h73
  have e : ∀ (c : Nat) (i : Int), gI t c i = V F c i := hV
  unfold WQ CJ CB
  simp only [e]
  refine ⟨m1, m2, m3, m4, fun b hb => try_eq hV ht S0 h80 h86 b hb, fun i hi => ?_, fun i hi => ?_, fun i hi => ⟨h80 i, h86 i⟩⟩
  · have cc := (hc i hi.1 hi.2).2
    refine ⟨fun z => ?_, fun z => ?_⟩
    · have := (cc.1 z).2.2; omega
    · have := cc.2 z; omega
  · have t2 := (ht.2.2.1 i hi).2
    rcases t2 with z | z
    · exact Or.inl z
    · exact Or.inr ⟨⟨z.1, by have := hi.2; have := z.2.1; omega⟩, z.2.1, z.2.2.1⟩
theorem TXR.of {F : FN} {S : Int} {t : ST} (hV : ∀ (c : Nat) (i : Int), t.1 c i.toNat = V F c i) (ht : TR F S) (hc : CN F S (130 * S) 0) (S0 : 0 ≤ S) (h80 : ∀ i, 0 ≤ V F 80 i) (h86 : ∀ i, V F 80 i ≤ 6) : TXR t S := by
  have e : ∀ (c : Nat) (i : Int), gI t c i = V F c i := hV
  unfold TXR CJ CB
  simp only [e]
  refine ⟨fun i hi => ?_, fun i hi => ⟨(ht.2.2.1 i hi).1, ?_⟩, fun b hb => ⟨(ht.2.2.2.2.2.1 b hb).1, (ht.2.2.2.2.2.1 b hb).2.2.1⟩, fun i hi => ht.2.2.2.2.1 i hi, fun i hi => ?_, fun i hi => ⟨h80 i, h86 i⟩⟩
  · rcases ht.2.1 i hi with z | z
    · exact Or.inl z
    · exact Or.inr ⟨z.1, ⟨by have := hi.1; have := z.1; omega, z.2.1⟩, z.2.2⟩
  · rcases (ht.2.2.1 i hi).2 with z | z
    · exact Or.inl z
    · exact Or.inr ⟨⟨z.1, by have := hi.2; have := z.2.1; omega⟩, z.2.1, z.2.2.1, z.2.2.2⟩
  · have cc := (hc i hi.1 hi.2).2
    refine ⟨fun z => ?_, fun z => ?_⟩
    · have := (cc.1 z).2.2; omega
    · have := cc.2 z; omega
/-! the class's last steps -/
/-- the least flags -/
def LFR (t : ST) (S P : Int) (FI BH TB : Int → Int) (p : Int) : Prop := ∀ R T : Int → Prop, PFX t S P FI BH TB R T → R p
def LFT (t : ST) (S P : Int) (FI BH TB : Int → Int) (p : Int) : Prop := ∀ R T : Int → Prop, PFX t S P FI BH TB R T → T p
theorem FB_0 (q : Int) : ¬ FB 0 q := by
  unfold FB
  rw [show (0 : Int).toNat = 0 from rfl, Nat.zero_testBit]
  decide
theorem wire_ok {c : Nat} {S P : Int} {B : Int → Int} {s t : ST} {EN FI EO BH TB : Int → Int} (h : TT c S P B s t EN FI EO BH TB) (h128 : gI t 73 S ≤ 128) (hP : P = gI t 76 S) : CS c S P t FI BH TB (f_X6_wire s c) ∧ WK c (sR s 48 1 c) (f_X6_wire s c) ∧ (f_X6_wire s c).1 c 3 = 0 ∧ (f_X6_wire s c).1 c 4 = 0 ∧ (∀ k, 0 ≤ k → k < gI t 75 S → ALLR c (GV c t S FI BH TB) (f_X6_wire s c) k) := by
  have hc := h.2.2.2.2.2.2.2.2
  have S0 := h.2.2.2.2.2.2.1
  have P5 := h.2.2.2.2.2.2.2.1
  have P0 : 0 ≤ P := by have := h.1.1.2.2.2.2.2.2.2.1; omega
  have hr : RR c S 0 P B (sR s 48 1 c) t := RR.congr hc h.1 (fun _ _ _ _ _ _ => rfl) (fun _ _ _ _ _ => rfl)
  have rs : (sR s 48 1 c).2.2 48 1 = c := by show (if 48 = 48 ∧ 1 = 1 then c else s.2.2 48 1) = c; rw [if_pos ⟨rfl, rfl⟩]
  unfold f_X6_wire
  repeat rewrite [bd_r]
  have W := wire_n hc S0 hr h.2.1 h128 hP rs 34 7 0 (sR s 48 1 c) (by omega) P0 (by omega) WK.rfl (fun i hi _ h9 => by have := (UD.seven S0 hr h.2.1 i hi).2.1; omega) (fun p p0 p1 => by omega)
  generalize f_X6_wire_ 34 7 0 (sR s 48 1 c) = X at W ⊢
  obtain ⟨wk, wd1, wd2⟩ := W
  have k1 := hr.1
  have x3 : X.1 c 3 = 0 := by rw [wk.g (by omega)]; exact k1.2.2.2.2.2.2.2.2.2.1
  have x4 : X.1 c 4 = 0 := by rw [wk.g (by omega)]; exact k1.2.2.2.2.2.2.2.2.2.2
  refine ⟨⟨by rw [wk.g (by omega)]; exact k1.1, by rw [wk.g (by omega), hP]; exact k1.2.1, fun k k0 k2 => ?_, wd2, by omega, by omega⟩, wk, x3, x4, wd1⟩
  have q := hr.2.1 k k0 k2
  have a := wd1 k k0 k2
  refine ⟨by rw [wk.g (by omega)]; exact q.2.2.1, by rw [wk.g (by omega)]; exact q.2.2.2.2.2.2.2, ?_, ?_, ?_⟩
  · rw [a.2.1, GV_12 hc]
  · rw [a.2.2.1, GV_13 hc]
  · rw [a.2.2.2.1, GV_14 hc]
/-- what stands when all is settled -/
theorem done_ok {c : Nat} {S P : Int} {B : Int → Int} {s t : ST} {EN FI EO BH TB : Int → Int} (h : TT c S P B s t EN FI EO BH TB) (h128 : gI t 73 S ≤ 128) (hP : P = gI t 76 S) : CS c S P t FI BH TB (f_X0_settleEnds (f_X6_wire s c) c) ∧ KF c P (f_X6_wire s c) (f_X0_settleEnds (f_X6_wire s c) c) ∧ (∀ q, 0 ≤ q → q < P → (FB ((f_X0_settleEnds (f_X6_wire s c) c).1 c 3) q ↔ LFR t S P FI BH TB q) ∧ (FB ((f_X0_settleEnds (f_X6_wire s c) c).1 c 4) q ↔ LFT t S P FI BH TB q)) ∧ (f_X0_allMayEnd (f_X0_settleEnds (f_X6_wire s c) c) c = 0 ↔ ¬ ∀ q, 0 ≤ q → q < P → LFR t S P FI BH TB q ∨ LFT t S P FI BH TB q) := by
  have P5 := h.2.2.2.2.2.2.2.1
  have P0 : 0 ≤ P := by have := h.1.1.2.2.2.2.2.2.2.1; omega
  have w := wire_ok h h128 hP
  generalize f_X6_wire s c = X at w ⊢
  obtain ⟨cs, -, x3, x4, -⟩ := w
  have e := settle_ok h P0 cs
  generalize f_X0_settleEnds X c = Y at e ⊢
  have fl : ∀ q, 0 ≤ q → q < P → (FB (Y.1 c 3) q ↔ LFR t S P FI BH TB q) ∧ (FB (Y.1 c 4) q ↔ LFT t S P FI BH TB q) := fun q q0 q1 => by
    have low : ∀ R T : Int → Prop, PFX t S P FI BH TB R T → FSB c Y R T := fun R T pf => e.2.2.1 R T pf (fun q _ _ => by rw [x3, x4]; exact ⟨fun z => absurd z (FB_0 q), fun z => absurd z (FB_0 q)⟩)
    exact ⟨⟨fun z R T pf => (low R T pf q q0 (by omega)).1 z, fun z => z _ _ e.2.2.2⟩, ⟨fun z R T pf => (low R T pf q q0 (by omega)).2 z, fun z => z _ _ e.2.2.2⟩⟩
  refine ⟨e.1, e.2.1, fl, ?_⟩
  rw [ends_r e.1 P0 P5 (fun q q0 q1 q2 => ⟨fun z => FB_0 q (by have y := (e.2.1.2.2.2 q q0 q1 q2).1 z; rw [x3] at y; exact y), fun z => FB_0 q (by have y := (e.2.1.2.2.2 q q0 q1 q2).2 z; rw [x4] at y; exact y)⟩)]
  constructor
  · intro z y
    exact z (fun q q0 q1 => by
      rcases y q q0 q1 with v | v
      · exact Or.inl ((fl q q0 q1).1.mpr v)
      · exact Or.inr ((fl q q0 q1).2.mpr v))
  · intro z y
    exact z (fun q q0 q1 => by
      rcases y q q0 q1 with v | v
      · exact Or.inl ((fl q q0 q1).1.mp v)
      · exact Or.inr ((fl q q0 q1).2.mp v))
/-- the fault that finish tells -/
theorem fin_ok {c : Nat} {S P : Int} {B : Int → Int} {s t : ST} {EN FI EO BH TB : Int → Int} (h : TT c S P B s t EN FI EO BH TB) (hm : SM c S 0 P B s t) (h128 : gI t 73 S ≤ 128) (hP : P = gI t 76 S) : (f_X8_isTold t = 0 → (f_X3_finish s).1 34 3 = 5 + 8 * s.1 34 1) ∧ (¬ f_X8_isTold t = 0 → (¬ (∀ q, 0 ≤ q → q < P → LFR t S P FI BH TB q ∨ LFT t S P FI BH TB q) → (f_X3_finish s).1 34 3 = 6 + 8 * s.1 34 1) ∧ ((∀ q, 0 ≤ q → q < P → LFR t S P FI BH TB q ∨ LFT t S P FI BH TB q) → f_X3_finish s = f_X0_settleEnds (f_X6_wire s c) c ∧ (f_X3_finish s).1 34 3 = 0 ∧ (f_X3_finish s).1 c 0 = gI t 75 S)) := by
  have hc := h.2.2.2.2.2.2.2.2
  have f0 : s.1 34 3 = 0 := hm.1.2.2.2.2.2.2.1
  have cc := hm.2.2.1
  have told := told_r h.1 hm.2.2.2.1
  obtain ⟨fin, kf⟩ : ∃ z, z = f_X3_finish s := ⟨_, rfl⟩
  rewrite [← kf]
  unfold f_X3_finish at kf
  have j1 := bd_e kf f0
  have j2 := if_t j1 rfl
  have j3 := bd_e j2 cc
  have j4 := bd_e j3 told
  refine ⟨fun z => ?_, fun z => ?_⟩
  · have j5 := if_f j4 (fun y => y z)
    have j6 := bd_e j5 rfl
    rewrite [bd_r] at j6
    rw [j6, blame_0 f0, sI_eq]
  · have j5 := if_t j4 z
    have j6 := bd_e j5 cc
    have w := wire_ok h h128 hP
    have d := done_ok h h128 hP
    have j7 := bd_e j6 rfl
    have r34 : (f_X6_wire s c).2.2 34 4 = c := by
      rw [w.2.1.1]
      show (if 34 = 48 ∧ 4 = 1 then c else s.2.2 34 4) = c
      rw [if_neg (by omega)]
      exact cc
    have j8 := bd_e j7 r34
    have j9 := bd_e j8 rfl
    have e34 : ∀ j, (f_X0_settleEnds (f_X6_wire s c) c).1 34 j = s.1 34 j := fun j => by
      rw [d.2.1.2.1 34 j (by omega), w.2.1.g (by omega)]
      rfl
    have j10 := bd_e j9 (show (f_X0_settleEnds (f_X6_wire s c) c).2.2 34 4 = c by rw [d.2.1.1]; exact r34)
    have j11 := bd_e j10 rfl
    refine ⟨fun y => ?_, fun y => ?_⟩
    · have e0 := d.2.2.2.mpr y
      have j12 := if_f j11 (fun x => x e0)
      have j13 := bd_e j12 (e34 1)
      rewrite [bd_r] at j13
      rw [j13, blame_0 ((e34 3).trans f0), sI_eq]
    · have e0 : ¬ f_X0_allMayEnd (f_X0_settleEnds (f_X6_wire s c) c) c = 0 := fun x => d.2.2.2.mp x y
      have j12 := if_t j11 e0
      rw [j12]
      exact ⟨rfl, (e34 3).trans f0, d.1.1⟩

