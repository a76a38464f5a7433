/-! the class's code beside the reference's tree, in one state -/
theorem prog_full2 {c : Nat} {S a : Int} {s t : ST} {FL FG : FN} (g : PGI c S a s t) (l : PgL t S FL FG) (all : PgAll FG S (gI (f_X8_readAll t) 76 S)) : ∃ (P : Int) (B : Int → Int) (sm : ST), (f_X3_read s a c).2 = 0 ∧ CDF c S P B sm (f_X8_readAll t) (f_X3_read s a c).1 FG ∧ OPS c S sm (f_X8_readAll t) := by
  obtain ⟨hc, S0, a0, a5, hS, t3, t4, t5, tx, t73, t74, t75, t76⟩ := g
  have A := read_all (s := s) hc S0 a0 a5 hS t3 t4 t5 tx t73 t74 t75 t76
  obtain ⟨z0, ⟨F, f⟩, tl, td, hl, kx, ls, fx, v76, v75⟩ := l
  rcases A with A | ⟨sm, B, P, e, hm, hP, P1, pl, h128⟩
  · exact absurd z0 A.1
  · have tt := TT.of hc S0 hm.2.1 hP f h128 (by rw [hP]; exact td)
    have k1 := hm.2.1.1
    have P5 := tt.2.2.2.2.2.2.2.1
    have bg := BRG.of S0 hm.2.2.2.1 hP (by omega) P5 k1.2.2.2.1 k1.2.2.2.2.1 hl
    have rf := ref_ok tt bg hP kx ls (by rw [hP]; exact fx)
    have d := done_ok tt h128 hP
    have w := wire_ok tt h128 hP
    have fo := (fin_ok tt hm h128 hP).2 tl
    have al : ∀ q, 0 ≤ q → q < P → LFR (f_X8_readAll t) S P (f_X8_firstOf (f_X8_readAll t)) (f_X8_behind (f_X8_readAll t)) (fun b => f_X8_tryOf_ 805 7 b (f_X8_readAll t)) q ∨ LFT (f_X8_readAll t) S P (f_X8_firstOf (f_X8_readAll t)) (f_X8_behind (f_X8_readAll t)) (fun b => f_X8_tryOf_ 805 7 b (f_X8_readAll t)) q := fun q q0 q1 => by
      rcases all q q0 (by rw [← hP]; exact q1) with v | v
      · exact Or.inl ((rf q q0 q1).1.mp v)
      · exact Or.inr ((rf q q0 q1).2.mp v)
    have r := fo.2 al
    have eY : (f_X3_read s a c).1 = f_X0_settleEnds (f_X6_wire sm c) c := by rw [e]; exact r.1
    have e2 : (f_X3_read s a c).2 = 0 := by rw [e]; exact r.2.1
    refine ⟨P, B, sm, e2, ?_, hm.2.2.2.2⟩
    rw [eY]
    refine ⟨tt, hP, P1, hm.2.2.2.1, bg.kx kx, d.1, fun p j n1 n2 n3 n4 n5 n6 n7 n8 n9 => ?_, fun k k0 k2 => ?_, fun q q0 q1 => ?_, fun q q0 q1 q2 => ?_⟩
    · rw [d.2.1.2.1 p j n9, w.2.1.2 p n1 n2 n3 n4 n5 n6 n7 n8]
      rfl
    · have x := w.2.2.2.2 k k0 k2
      have kf : ∀ q, 11 ≤ q → (f_X0_settleEnds (f_X6_wire sm c) c).1 (c + q) k.toNat = (f_X6_wire sm c).1 (c + q) k.toNat := fun q h => d.2.1.2.1 (c + q) _ (by omega)
      unfold ALLR at x ⊢
      rw [kf 11 (by omega), kf 12 (by omega), kf 13 (by omega), kf 14 (by omega), kf 15 (by omega)]
      exact x
    · have y := d.2.2.1 q q0 q1
      have z := rf q q0 q1
      exact ⟨y.1.trans z.1.symm, y.2.trans z.2.symm⟩
    · have y := d.2.1.2.2.2 q q0 q1 q2
      refine ⟨fun z => ?_, fun z => ?_⟩
      · have u := y.1 z
        rw [w.2.2.1] at u
        exact FB_0 q u
      · have u := y.2 z
        rw [w.2.2.2.1] at u
        exact FB_0 q u
/-- where ways go, from any item -/
theorem TT.tgt {c : Nat} {S P : Int} {B : Int → Int} {s t : ST} {EN FI EO BH TB : Int → Int} (h : TT c S P B s t EN FI EO BH TB) {Q : Int → Prop} {i : Int} (hi : CJ t S i) (ha : HA t Q i) : (TG t S Q i (BH i) ∧ PV t S (gI t 79 i) (BH i)) ∧ (PV t S (gI t 79 i) (TH t FI TB i) ∧ (TH t FI TB i = -1 ∨ (0 ≤ TH t FI TB i ∧ TH t FI TB i < gI t 75 S))) ∧ (¬ gI t 77 i = 3 → TG t S Q i (OT t FI BH i)) ∧ (PV t S (gI t 79 i) (OT t FI BH i) ∧ (OT t FI BH i = -1 ∨ (0 ≤ OT t FI BH i ∧ OT t FI BH i < gI t 75 S))) ∧ (gI t 77 i = 2 ∨ gI t 77 i = 3 → PV t S (gI t 79 i) (FI (gI t 85 i)) ∧ (FI (gI t 85 i) = -1 ∨ (0 ≤ FI (gI t 85 i) ∧ FI (gI t 85 i) < gI t 75 S))) := by
  have S0 := h.2.2.2.2.2.2.1
  have w := h.2.1
  have X := h.2.2.1
  obtain ⟨v1, v2, v3, v4⟩ := PV.all h
  have lo : ∀ {R : Int → Prop} {x v : Int}, TG t S R x v → v = -1 ∨ (0 ≤ v ∧ v < gI t 75 S) := fun z => by
    rcases z with z | z
    · exact Or.inl z
    · exact Or.inr ⟨z.1, z.2.1⟩
  have bh : ∀ Q : Int → Prop, HA t Q i → TG t S Q i (BH i) ∧ PV t S (gI t 79 i) (BH i) := fun Q ha => ⟨(TG.all S0 h.1 w X Q).2.2.2 i i hi (XG.self hi) ha, v4 i i hi (XG.self hi)⟩
  have blk : ∀ (Q : Int → Prop) b o, CB t S b → gI t 92 b = o → CJ t S o → HA t Q o → (gI t 77 o = 3 → Q (gI t 78 o)) → XG t S o i → (∀ y, CJ t S y → gI t 88 y = b → i < y) → gI t 79 o = gI t 79 i → TG t S Q i (FI b) ∧ PV t S (gI t 79 i) (FI b) := fun Q b o hb e ho a3 a4 a5 a6 a7 => by
    refine ⟨(TG.all S0 h.1 w X Q).2.1 b hb (Or.inr ⟨by rw [e]; exact a4, by rw [e]; exact a3⟩) i (Or.inr (by rw [e]; exact a5)) a6, v2 b hb _ ⟨fun y hy e' => ((sub_it S0 h.1 w ho e y hy e').1).trans a7, fun _ => by rw [e]; exact a7⟩⟩
  have own : ∀ b, gI t 92 b = i → ∀ y, CJ t S y → gI t 88 y = b → i < y := fun b e y hy e' => by
    rcases (X.2.1 y hy).2 with z | z
    · rw [e', e] at z; have := hi.1; omega
    · rw [e', e] at z; exact z.2.1
  have tr := HA.tt t i
  have ot : ∀ Q : Int → Prop, HA t Q i → (gI t 77 i = 3 → Q (gI t 78 i)) → TG t S Q i (OT t FI BH i) ∧ PV t S (gI t 79 i) (OT t FI BH i) := fun Q ha hq => by
    unfold OT
    by_cases z : gI t 86 i = -1
    · rw [if_pos z]; exact bh Q ha
    · rw [if_neg z]
      rcases (X.2.2.2.1 i hi).2 with y | y
      · exact absurd y z
      · exact blk Q _ i y.1 y.2 hi ha hq (XG.self hi) (own _ y.2) rfl
  have ot1 := ot (fun _ => True) tr (fun _ => True.intro)
  refine ⟨bh Q ha, ?_, fun n3 => (ot Q ha (fun z => absurd z n3)).1, ⟨ot1.2, lo ot1.1⟩, fun z => ?_⟩
  · unfold TH
    by_cases z : TB (gI t 88 i) = -1
    · rw [if_pos z]; exact ⟨Or.inl rfl, Or.inl rfl⟩
    · rw [if_neg z]
      have u := tb_up S0 h.1 w X (fun _ => True) (i := i) (i - 130 * S + 1).toNat i hi (by have := hi.1; omega) (XG.self hi) tr z
      rcases (X.2.2.2.1 _ u.1).2 with y | y
      · exact absurd y ((X.2.2.2.2.1 _ u.1).1 u.2.1).2
      · have q := blk (fun _ => True) _ _ y.1 y.2 u.1 u.2.2.1 (fun q => True.intro) u.2.2.2.1 u.2.2.2.2.2 u.2.2.2.2.1
        exact ⟨q.2, lo q.1⟩
  · rcases (X.2.2.2.1 i hi).1 with y | y
    · exact absurd y ((X.2.2.2.2.1 i hi).2 z)
    · have q := blk (fun _ => True) _ i y.1 y.2 hi tr (fun _ => True.intro) (XG.self hi) (own _ y.2) rfl
      exact ⟨q.2, lo q.1⟩
/-- of statement k: what both sides hold -/
def BRk (c : Nat) (S : Int) (F : Nat → Nat → Int) (k i j o : Int) : Prop := 0 ≤ i ∧ F 77 i.toNat = F (c + 2) k.toNat ∧ F 79 i.toNat = o ∧ F 82 i.toNat = F (c + 6) k.toNat ∧ F 84 i.toNat = F (c + 7) k.toNat ∧ OV (F (c + 9) k.toNat) (F 89 (2 * i).toNat) ∧ OV (F (c + 10) k.toNat) (F 89 (2 * i + 1).toNat) ∧ SV (F (c + 8) k.toNat) (F 83 i.toNat) ∧ F 99 j.toNat = F (c + 14) k.toNat ∧ (F (c + 2) k.toNat = 0 ∨ F (c + 2) k.toNat = 1 ∨ F (c + 6) k.toNat = -1) ∧ -1 ≤ F (c + 14) k.toNat ∧ (F (c + 14) k.toNat = -1 → F 98 j.toNat = -1) ∧ (-1 ≤ F 95 j.toNat ∧ F 95 j.toNat < F c 0) ∧ (-1 ≤ F 97 j.toNat ∧ F 97 j.toNat < F c 0) ∧ (-1 ≤ F 98 j.toNat ∧ F 98 j.toNat < F c 0) ∧ (F (c + 2) k.toNat = 2 ∨ F (c + 2) k.toNat = 3 → -1 ≤ F 96 j.toNat ∧ F 96 j.toNat < F c 0) ∧ F (c + 12) k.toNat = (if F (c + 2) k.toNat = 2 then en o (F 97 j.toNat) else en o (F 95 j.toNat)) ∧ F (c + 13) k.toNat = (if F (c + 2) k.toNat = 5 then 40 + o else if F (c + 2) k.toNat = 2 ∨ F (c + 2) k.toNat = 3 then en o (F 96 j.toNat) else en o (F 98 j.toNat)) ∧ F 78 i.toNat = k
/-- every statement has a way to the end: what goes on along all ways dies out -/
def ENDS (c : Nat) (F : Nat → Nat → Int) : Prop := ∀ G : Int → Prop, (∀ k, 0 ≤ k → k < F c 0 → G k → (F (c + 12) k.toNat < 40 ∧ G (F (c + 12) k.toNat))) → ∀ k, 0 ≤ k → k < F c 0 → ¬ G k
def BRI (c : Nat) (S : Int) (F : Nat → Nat → Int) : Prop := (c = 2 ∨ c = 18) ∧ 0 ≤ S ∧ F 75 S.toNat = F c 0 ∧ F 76 S.toNat = F c 1 ∧ CFC c F ∧ (∀ k, 0 ≤ k → k < F c 0 → BRk c S F k (F 93 (40 * S + k).toNat) (40 * S + k) (F (c + 3) k.toNat)) ∧ (∀ p, 0 ≤ p → p < F c 1 → en p (F 100 (5 * S + p).toNat) = F (c + 1) p.toNat ∧ -1 ≤ F 100 (5 * S + p).toNat ∧ F 100 (5 * S + p).toNat < F c 0 ∧ (FB (F c 3) p ↔ F 101 (5 * S + p).toNat = 1) ∧ (FB (F c 4) p ↔ F 102 (5 * S + p).toNat = 1)) ∧ ENDS c F
set_option maxHeartbeats 2000000 in
theorem HISC.bri {s : ST} {c : Nat} {S : Int} (b74 : ∀ j, s.1 74 j ≤ 280) (h : HISC s c S) : BRI c S s.1 ∧ CLB c s ∧ 1 ≤ s.1 c 1 := by
  obtain ⟨s0, t, a, FL, FG, g, l, al, h4, h5⟩ := h
  obtain ⟨P, B, sm, _, cdf, ops⟩ := prog_full2 g l al
  have hc := g.1
  have S0 := g.2.1
  have cl : CL c (f_X3_read s0 a c).1 := cl_X3_read hc
  have h73 : gI (f_X8_readAll t) 73 S ≤ 130 := by
    obtain ⟨F, f⟩ := l.2.1
    have A := read_all (s := s0) hc S0 g.2.2.1 g.2.2.2.1 g.2.2.2.2.1 g.2.2.2.2.2.1 g.2.2.2.2.2.2.1 g.2.2.2.2.2.2.2.1 g.2.2.2.2.2.2.2.2.1 g.2.2.2.2.2.2.2.2.2.1 g.2.2.2.2.2.2.2.2.2.2.1 g.2.2.2.2.2.2.2.2.2.2.2.1 g.2.2.2.2.2.2.2.2.2.2.2.2
    rcases A with A | ⟨_, _, _, _, _, _, _, _, h128⟩
    · exact absurd l.1 A.1
    · omega
  clear g l al
  generalize f_X8_readAll t = T at *
  generalize (f_X3_read s0 a c).1 = Y at *
  obtain ⟨tt, hP, P1, hT, bg, cs, oth, allr, fl, nofl⟩ := cdf
  generalize hFI : f_X8_firstOf T = FI at *
  generalize hBH : f_X8_behind T = BH at *
  generalize hTB : (fun b => f_X8_tryOf_ 805 7 b T) = TB at *
  have P5 := tt.2.2.2.2.2.2.2.1
  have rr := tt.1
  have k1 := rr.1
  have n0 := k1.2.2.2.1
  have n40 := k1.2.2.2.2.1
  have X := tt.2.2.1
  have ce : ∀ q j, c ≤ q → q ≤ c + 15 → s.1 q j = Y.1 q j := fun q j q0 q1 => (h4 q j q0 q1).1
  have te : ∀ (q : Nat) (i : Int), 73 ≤ q → q ≤ 94 → 0 ≤ i → wd q * S ≤ i → i < wd q * S + wd q → s.1 q i.toNat = gI T q i := fun q i q1 q2 i0 i1 i2 => by
    rw [h5 q i.toNat q1 (by omega) (by omega) (by omega), ← bg.1 q i q1 q2]
    rfl
  have we : ∀ (q : Nat) (k : Int), 95 ≤ q → q ≤ 99 → 0 ≤ k → k < 40 → s.1 q (40 * S + k).toNat = V FG q (40 * S + k) := fun q k q1 q2 k0 k2 => by
    have w : wd q = 40 := by
      have : q = 95 ∨ q = 96 ∨ q = 97 ∨ q = 98 ∨ q = 99 := by omega
      rcases this with rfl | rfl | rfl | rfl | rfl <;> rfl
    rw [h5 q _ (by omega) (by omega) (by rw [w]; omega) (by rw [w]; omega)]
    rfl
  have wp : ∀ (q : Nat) (p : Int), 100 ≤ q → q ≤ 102 → 0 ≤ p → p < 5 → s.1 q (5 * S + p).toNat = V FG q (5 * S + p) := fun q p q1 q2 p0 p2 => by
    have w : wd q = 5 := by
      have : q = 100 ∨ q = 101 ∨ q = 102 := by omega
      rcases this with rfl | rfl | rfl <;> rfl
    rw [h5 q _ (by omega) q2 (by rw [w]; omega) (by rw [w]; omega)]
    rfl
  have yo : ∀ q k, q = 3 ∨ q = 6 ∨ q = 8 ∨ q = 9 ∨ q = 10 → Y.1 (c + q) k = sm.1 (c + q) k := fun q k hq => oth (c + q) k (by omega) (by omega) (by omega) (by omega) (by omega) (by omega) (by omega) (by omega) (by omega)
  have en0 : s.1 c 0 = gI T 75 S := (ce c 0 (by omega) (by omega)).trans cs.1
  have eP : s.1 c 1 = P := (ce c 1 (by omega) (by omega)).trans cs.2.1
  have a79 : ∀ i, CJ T S i → 0 ≤ gI T 79 i ∧ gI T 79 i < P := by
    have key : ∀ (m : Nat) (i : Int), CJ T S i → i.toNat < m → 0 ≤ gI T 79 i ∧ gI T 79 i < P := by
      intro m
      induction m with
      | zero => intro i _ h; omega
      | succ m ih =>
        intro i hi hm
        have hi2 := hi
        unfold CJ at hi2
        have q := rr.2.2.2.2.2.2.1.2.1 (i - 130 * S) (by omega) (by omega)
        rw [show 130 * S + (i - 130 * S) = i by omega] at q
        rcases q with q | ⟨y1, y2, -⟩
        · rcases q.2.2 with z | z
          · exact ⟨q.2.1, z.1⟩
          · have := z.2.1
            omega
        · have lt : gI T 92 (gI T 88 i) < i := by
            rcases (X.2.1 i hi).2 with a | a
            · have y := y1
              rw [a.1] at y
              unfold CJ at y
              omega
            · exact a.2.1
          rw [← y2]
          have w := y1
          unfold CJ at w
          exact ih _ y1 (by omega)
    exact fun i hi => key _ i hi (Nat.lt_succ_self _)
  have it : ∀ k, 0 ≤ k → k < gI T 75 S → CJ T S (gI T 93 (40 * S + k)) ∧ gI T 78 (gI T 93 (40 * S + k)) = k ∧ ¬ gI T 77 (gI T 93 (40 * S + k)) = 6 := fun k k0 k2 => tt.it k0 k2
  have e93 : ∀ k, 0 ≤ k → k < gI T 75 S → s.1 93 (40 * S + k).toNat = gI T 93 (40 * S + k) := fun k k0 k2 => te 93 _ (by omega) (by omega) (by omega) (by rw [show wd 93 = 40 from rfl]; omega) (by rw [show wd 93 = 40 from rfl]; omega)
  have eit : ∀ (q : Nat) (i : Int), 77 ≤ q → q ≤ 88 → CJ T S i → s.1 q i.toNat = gI T q i := fun q i q1 q2 hi => by
    have w : wd q = 130 := by
      have : q = 77 ∨ q = 78 ∨ q = 79 ∨ q = 80 ∨ q = 81 ∨ q = 82 ∨ q = 83 ∨ q = 84 ∨ q = 85 ∨ q = 86 ∨ q = 87 ∨ q = 88 := by omega
      rcases this with rfl | rfl | rfl | rfl | rfl | rfl | rfl | rfl | rfl | rfl | rfl | rfl <;> rfl
    unfold CJ at hi
    exact te q i (by omega) (by omega) (by omega) (by rw [w]; omega) (by rw [w]; omega)
  have own : ∀ k, 0 ≤ k → k < gI T 75 S → s.1 (c + 3) k.toNat = gI T 79 (gI T 93 (40 * S + k)) := fun k k0 k2 => by
    rw [ce (c + 3) _ (by omega) (by omega), yo 3 _ (by omega)]
    exact (rr.2.1 k k0 k2).2.2.2.1
  have uo : ∀ v p, PV T S p v → (v = -1 ∨ (0 ≤ v ∧ v < gI T 75 S)) → UO c s.1 (en p v) p := fun v p pv r => by
    unfold UO
    rw [en0]
    rcases r with r | r
    · rw [r, en_1]; exact Or.inr rfl
    · rw [en_n (by omega)]
      rcases pv with z | z
      · omega
      · exact Or.inl ⟨r.1, r.2, by rw [own v r.1 r.2]; exact z⟩
  have s12 : ∀ k, 0 ≤ k → k < gI T 75 S → s.1 (c + 12) k.toNat = vS T FI BH (gI T 93 (40 * S + k)) := fun k k0 k2 => (ce _ _ (by omega) (by omega)).trans (cs.2.2.1 k k0 k2).2.2.1
  have s13 : ∀ k, 0 ≤ k → k < gI T 75 S → s.1 (c + 13) k.toNat = vA T FI TB (gI T 93 (40 * S + k)) := fun k k0 k2 => (ce _ _ (by omega) (by omega)).trans (cs.2.2.1 k k0 k2).2.2.2.1
  have s14 : ∀ k, 0 ≤ k → k < gI T 75 S → s.1 (c + 14) k.toNat = vV T TB (gI T 93 (40 * S + k)) := fun k k0 k2 => (ce _ _ (by omega) (by omega)).trans (cs.2.2.1 k k0 k2).2.2.2.2
  have s2 : ∀ k, 0 ≤ k → k < gI T 75 S → s.1 (c + 2) k.toNat = gI T 77 (gI T 93 (40 * S + k)) := fun k k0 k2 => (ce _ _ (by omega) (by omega)).trans (cs.2.2.1 k k0 k2).1
  have s7 : ∀ k, 0 ≤ k → k < gI T 75 S → s.1 (c + 7) k.toNat = gI T 84 (gI T 93 (40 * S + k)) := fun k k0 k2 => (ce _ _ (by omega) (by omega)).trans (cs.2.2.1 k k0 k2).2.1
  have sv : ∀ i, vS T FI BH i = if gI T 77 i = 2 then en (gI T 79 i) (OT T FI BH i) else en (gI T 79 i) (BH i) := fun i => by
    unfold vS OT
    by_cases z2 : gI T 77 i = 2
    · rw [if_pos z2]
      by_cases z : gI T 86 i = -1
      · rw [if_pos z, if_neg (fun y => y.2 z)]
      · rw [if_neg z, if_pos ⟨z2, z⟩]
    · rw [if_neg z2, if_neg (fun y => z2 y.1)]
  have ca : ∀ i, cA T FI TB i = en (gI T 79 i) (TH T FI TB i) := fun i => by
    unfold cA TH
    by_cases z : TB (gI T 88 i) = -1
    · rw [if_pos z, if_pos z, en_1]
    · rw [if_neg z, if_neg z]
  have fi : ∀ p, 0 ≤ p → p < P → s.1 (c + 1) p.toNat = en p (FI (gI T 94 (5 * S + p))) ∧ PV T S p (FI (gI T 94 (5 * S + p))) ∧ (FI (gI T 94 (5 * S + p)) = -1 ∨ (0 ≤ FI (gI T 94 (5 * S + p)) ∧ FI (gI T 94 (5 * S + p)) < gI T 75 S)) := fun p p0 p1 => by
    have k5 := rr.2.2.2.2.1 p p0 p1
    have q := (TG.all S0 rr tt.2.1 X (fun _ => True)).2.1 _ k5.2.1 (Or.inl k5.2.2) (-1) (Or.inl k5.2.2) (fun y hy _ => by have := hy.1; omega)
    have pv := (PV.all tt).2.1 _ k5.2.1 p ⟨tt.top p0 p1, fun z => by rw [k5.2.2] at z; have := z.1; omega⟩
    refine ⟨(ce _ _ (by omega) (by omega)).trans (cs.2.2.2.1 p p0 p1), pv, ?_⟩
    rcases q with q | q
    · exact Or.inl q
    · exact Or.inr ⟨q.1, q.2.1⟩
  have tr := HA.tt T
  have cf : CFC c s.1 := by
    refine ⟨by rw [en0]; exact ⟨n0, n40⟩, by rw [eP]; omega, by rw [ce c 3 (by omega) (by omega)]; exact cs.2.2.2.2.1, by rw [ce c 4 (by omega) (by omega)]; exact cs.2.2.2.2.2, fun k k0 k2 => ?_, fun p p0 p1 => ?_⟩
    · rw [en0] at k2
      have i := it k k0 k2
      have o := a79 _ i.1
      have tg := tt.tgt i.1 (tr _)
      rw [s2 k k0 k2, s7 k k0 k2, own k k0 k2, eP]
      refine ⟨tt.2.2.2.1 _ i.1 i.2.2, fun z => tt.2.2.2.2.1 _ i.1 z, o, ?_, ?_⟩
      · rw [s12 k k0 k2, sv]
        split
        · exact uo _ _ tg.2.2.2.1.1 tg.2.2.2.1.2
        · refine uo _ _ tg.1.2 ?_
          rcases tg.1.1 with z | z
          · exact Or.inl z
          · exact Or.inr ⟨z.1, z.2.1⟩
      · rw [s13 k k0 k2]
        unfold vA
        split
        · exact Or.inr rfl
        · split
          · rename_i z
            exact uo _ _ (tg.2.2.2.2 z).1 (tg.2.2.2.2 z).2
          · rw [ca]
            exact uo _ _ tg.2.1.1 tg.2.1.2
    · rw [eP] at p1
      have q := fi p p0 p1
      rw [q.1]
      exact uo _ _ q.2.1 q.2.2
  refine ⟨⟨hc, S0, ?_, ?_, cf, fun k k0 k2 => ?_, fun p p0 p1 => ?_, ?_⟩, fun k k0 k2 => ?_, by rw [eP]; exact P1⟩
  · rw [en0]
    exact te 75 S (by omega) (by omega) S0 (by rw [show wd 75 = 1 from rfl]; omega) (by rw [show wd 75 = 1 from rfl]; omega)
  · rw [eP, hP]
    exact te 76 S (by omega) (by omega) S0 (by rw [show wd 76 = 1 from rfl]; omega) (by rw [show wd 76 = 1 from rfl]; omega)
  · rw [en0] at k2
    have i := it k k0 k2
    have i1 := i.1.1
    have i2 := i.1.2
    have o := a79 _ i.1
    have tg := tt.tgt i.1 (tr _)
    have op := ops k k0 k2
    have w := bg.2.1 k k0 k2
    have vv := tt.vv i.1
    unfold BRk
    rw [e93 k k0 k2, own k k0 k2, eit 77 _ (by omega) (by omega) i.1, eit 79 _ (by omega) (by omega) i.1, eit 82 _ (by omega) (by omega) i.1, eit 84 _ (by omega) (by omega) i.1, eit 83 _ (by omega) (by omega) i.1, eit 78 _ (by omega) (by omega) i.1, s2 k k0 k2, s7 k k0 k2, s12 k k0 k2, s13 k k0 k2, s14 k k0 k2, we 95 k (by omega) (by omega) k0 (by omega), we 96 k (by omega) (by omega) k0 (by omega), we 97 k (by omega) (by omega) k0 (by omega), we 98 k (by omega) (by omega) k0 (by omega), we 99 k (by omega) (by omega) k0 (by omega), w.1, w.2.2.1, w.2.2.2.1, w.2.2.2.2, en0]
    have d89 : ∀ x, 2 * gI T 93 (40 * S + k) ≤ x → x ≤ 2 * gI T 93 (40 * S + k) + 1 → s.1 89 x.toNat = gI T 89 x := fun x x0 x1 => te 89 x (by omega) (by omega) (by omega) (by rw [show wd 89 = 260 from rfl]; omega) (by rw [show wd 89 = 260 from rfl]; omega)
    have k6 : s.1 (c + 6) k.toNat = gI T 82 (gI T 93 (40 * S + k)) := by
      rw [ce (c + 6) _ (by omega) (by omega), yo 6 _ (by omega)]
      exact (rr.2.1 k k0 k2).2.2.2.2.2.2.1
    rw [d89 _ (by omega) (by omega), d89 _ (by omega) (by omega), k6]
    refine ⟨by omega, rfl, rfl, rfl, rfl, ?_, ?_, ?_, rfl, op.2, ?_, fun z => ?_, ?_, ?_, ?_, fun z => ?_, ?_, ?_, i.2.1⟩
    · have q := op.1.1
      rw [ce (c + 9) _ (by omega) (by omega), yo 9 _ (by omega)]
      exact q
    · have q := op.1.2.1
      rw [ce (c + 10) _ (by omega) (by omega), yo 10 _ (by omega)]
      exact q
    · have q := op.1.2.2
      rw [ce (c + 8) _ (by omega) (by omega), yo 8 _ (by omega)]
      exact q
    · by_cases z : TB (gI T 88 (gI T 93 (40 * S + k))) = -1
      · unfold vV; rw [if_pos z]; omega
      · have := fun y => z (vv.mp y); omega
    · unfold TH
      rw [if_pos (vv.mp (by omega))]
    · rcases tg.1.1 with z | z
      · omega
      · have := z.1
        have := z.2.1
        omega
    · rcases tg.2.2.2.1.2 with z | z <;> omega
    · rcases tg.2.1.2 with z | z <;> omega
    · have q := (tg.2.2.2.2 z).2
      have n85 : ¬ gI T 85 (gI T 93 (40 * S + k)) = -1 := (X.2.2.2.2.1 _ i.1).2 z
      rw [w.2.1, if_neg n85]
      rcases q with q | q <;> omega
    · exact sv _
    · unfold vA
      by_cases z5 : gI T 77 (gI T 93 (40 * S + k)) = 5
      · rw [if_pos z5, if_pos z5]
      · rw [if_neg z5, if_neg z5]
        by_cases z : gI T 77 (gI T 93 (40 * S + k)) = 2 ∨ gI T 77 (gI T 93 (40 * S + k)) = 3
        · have n85 : ¬ gI T 85 (gI T 93 (40 * S + k)) = -1 := (X.2.2.2.2.1 _ i.1).2 z
          rw [if_pos z, if_pos z, w.2.1, if_neg n85]
        · rw [if_neg z, if_neg z, ca]
  · rw [eP] at p1
    have q := fi p p0 p1
    have e := bg.2.2 p p0 p1
    rw [wp 100 p (by omega) (by omega) p0 (by omega), wp 101 p (by omega) (by omega) p0 (by omega), wp 102 p (by omega) (by omega) p0 (by omega), e, q.1, en0, ce c 3 (by omega) (by omega), ce c 4 (by omega) (by omega)]
    refine ⟨rfl, ?_, ?_, (fl p p0 p1).1, (fl p p0 p1).2⟩
    · rcases q.2.2 with z | z <;> omega
    · rcases q.2.2 with z | z <;> omega
  · intro G hG
    have st : ∀ i, CJ T S i → ¬ gI T 77 i = 6 → 0 ≤ gI T 78 i ∧ gI T 78 i < gI T 75 S ∧ gI T 93 (40 * S + gI T 78 i) = i := fun i hi n6 => rr.n78 i hi n6
    have down : ∀ (m : Nat) (i : Int), CJ T S i → ¬ gI T 77 i = 6 → (130 * S + gI T 73 S - i).toNat < m → HA T (fun v => ¬ G v) i → ¬ G (gI T 78 i) := by
      intro m
      induction m with
      | zero => intro i _ _ h; omega
      | succ m ih =>
        intro i hi n6 hm ha gk
        have q := st i hi n6
        have g2 := hG _ q.1 (by rw [en0]; exact q.2.1) gk
        have e12 := s12 _ q.1 q.2.1
        rw [q.2.2, sv] at e12
        have tg := tt.tgt hi ha
        have fin : ∀ v, TG T S (fun v => ¬ G v) i v → s.1 (c + 12) (gI T 78 i).toNat = en (gI T 79 i) v → False := fun v tv ev => by
          rw [ev] at g2
          have o := a79 i hi
          rcases tv with z | ⟨z1, z2, z3, z4⟩
          · rw [z, en_1] at g2; omega
          · rw [en_n (by omega)] at g2
            rcases z4 with z4 | z4
            · exact z4 g2.2
            · have iv := it v z1 z2
              have y := ih _ iv.1 iv.2.2 (by have := iv.1.2; have := hi.2; omega) z3
              rw [iv.2.1] at y
              exact y g2.2
        by_cases z2 : gI T 77 i = 2
        · rw [if_pos z2] at e12
          exact fin _ (tg.2.2.1 (by omega)) e12
        · rw [if_neg z2] at e12
          exact fin _ tg.1.1 e12
    have up : ∀ (m : Nat) (i : Int), CJ T S i → i.toNat < m → HA T (fun v => ¬ G v) i := by
      intro m
      induction m with
      | zero => intro i _ h; omega
      | succ m ih =>
        intro i hi hm n
        cases n with
        | zero => exact True.intro
        | succ n =>
          rcases (X.2.1 i hi).2 with z | z
          · exact Or.inl z.1
          · have zl := z.1
            have hl := ih _ z.1 (by have := zl.1; have := z.2.1; have := hi.1; omega)
            exact Or.inr ⟨fun k3 => down _ _ z.1 (by omega) (Nat.lt_succ_self _) hl, hl n⟩
    intro k k0 k2
    rw [en0] at k2
    have i := it k k0 k2
    have y := down _ _ i.1 i.2.2 (Nat.lt_succ_self _) (up _ _ i.1 (Nat.lt_succ_self _))
    rw [i.2.1] at y
    exact y
  · have e2 : s.2.1 c 2 = Y.2.1 c 2 := (h4 c 2 (by omega) (by omega)).2
    rw [e2, ce c 0 (by omega) (by omega), ce (c + 2) _ (by omega) (by omega)]
    exact cl.2.2.2 k k0 k2

