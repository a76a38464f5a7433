/-! what a program that was read leaves, on both sides -/
def PGI (c : Nat) (S a : Int) (s t : ST) : Prop := (c = 2 ∨ c = 18) ∧ 0 ≤ S ∧ 0 ≤ a ∧ a ≤ 500 ∧ t.1 70 6 = S ∧ t.1 70 3 = a ∧ t.1 70 4 = 0 ∧ t.1 70 5 = 0 ∧ TX (s.1 1) (t.1 72) a ∧ gI t 73 S = 0 ∧ gI t 74 S = 0 ∧ gI t 75 S = 0 ∧ gI t 76 S = 0
/-- the class's code Y beside the tree T and its flags -/
def CDF (c : Nat) (S P : Int) (B : Int → Int) (sm T Y : ST) (FG : FN) : Prop := TT c S P B sm T (f_X8_entryOf T) (f_X8_firstOf T) (f_X8_endOf T) (f_X8_behind T) (fun b => f_X8_tryOf_ 805 7 b T) ∧ P = gI T 76 S ∧ 1 ≤ P ∧ T.1 70 6 = S ∧ BRG FG T S P (f_X8_firstOf T) (f_X8_behind T) (fun b => f_X8_tryOf_ 805 7 b T) ∧ CS c S P T (f_X8_firstOf T) (f_X8_behind T) (fun b => f_X8_tryOf_ 805 7 b T) Y ∧ (∀ p j, p ≠ 42 → p ≠ 43 → p ≠ c + 11 → p ≠ c + 12 → p ≠ c + 13 → p ≠ c + 14 → p ≠ c + 15 → p ≠ c + 1 → ¬ (p = c ∧ (j = 3 ∨ j = 4)) → Y.1 p j = sm.1 p j) ∧ (∀ k, 0 ≤ k → k < gI T 75 S → ALLR c (GV c T S (f_X8_firstOf T) (f_X8_behind T) (fun b => f_X8_tryOf_ 805 7 b T)) Y k) ∧ (∀ q, 0 ≤ q → q < P → (FB (Y.1 c 3) q ↔ V FG 101 (5 * S + q) = 1) ∧ (FB (Y.1 c 4) q ↔ V FG 102 (5 * S + q) = 1)) ∧ (∀ q, P ≤ q → q < 5 → 0 ≤ q → ¬ FB (Y.1 c 3) q ∧ ¬ FB (Y.1 c 4) q)
theorem prog_full {c : Nat} {S a : Int} {s t : ST} {FL FG : FN} (g : PGI c S a s t) (l : PgL t S FL FG) (all : PgAll FG S (gI (f_X8_readAll t) 76 S)) : ∃ (P : Int) (B : Int → Int) (sm : ST), (f_X3_read s a c).2 = 0 ∧ CDF c S P B sm (f_X8_readAll t) (f_X3_read s a c).1 FG := by
  obtain ⟨hc, S0, a0, a5, hS, t3, t4, t5, tx, t73, t74, t75, t76⟩ := g
  have A := read_all (s := s) hc S0 a0 a5 hS t3 t4 t5 tx t73 t74 t75 t76
  obtain ⟨z0, ⟨F, f⟩, tl, td, hl, kx, ls, fx, v76, v75⟩ := l
  rcases A with A | ⟨sm, B, P, e, hm, hP, P1, pl, h128⟩
  · exact absurd z0 A.1
  · have tt := TT.of hc S0 hm.2.1 hP f h128 (by rw [hP]; exact td)
    have k1 := hm.2.1.1
    have P5 := tt.2.2.2.2.2.2.2.1
    have bg := BRG.of S0 hm.2.2.2.1 hP (by omega) P5 k1.2.2.2.1 k1.2.2.2.2.1 hl
    have rf := ref_ok tt bg hP kx ls (by rw [hP]; exact fx)
    have d := done_ok tt h128 hP
    have w := wire_ok tt h128 hP
    have fo := (fin_ok tt hm h128 hP).2 tl
    have al : ∀ q, 0 ≤ q → q < P → LFR (f_X8_readAll t) S P (f_X8_firstOf (f_X8_readAll t)) (f_X8_behind (f_X8_readAll t)) (fun b => f_X8_tryOf_ 805 7 b (f_X8_readAll t)) q ∨ LFT (f_X8_readAll t) S P (f_X8_firstOf (f_X8_readAll t)) (f_X8_behind (f_X8_readAll t)) (fun b => f_X8_tryOf_ 805 7 b (f_X8_readAll t)) q := fun q q0 q1 => by
      rcases all q q0 (by rw [← hP]; exact q1) with v | v
      · exact Or.inl ((rf q q0 q1).1.mp v)
      · exact Or.inr ((rf q q0 q1).2.mp v)
    have r := fo.2 al
    have eY : (f_X3_read s a c).1 = f_X0_settleEnds (f_X6_wire sm c) c := by rw [e]; exact r.1
    have e2 : (f_X3_read s a c).2 = 0 := by rw [e]; exact r.2.1
    refine ⟨P, B, sm, e2, ?_⟩
    rw [eY]
    refine ⟨tt, hP, P1, hm.2.2.2.1, bg.kx kx, d.1, fun p j n1 n2 n3 n4 n5 n6 n7 n8 n9 => ?_, fun k k0 k2 => ?_, fun q q0 q1 => ?_, fun q q0 q1 q2 => ?_⟩
    · rw [d.2.1.2.1 p j n9, w.2.1.2 p n1 n2 n3 n4 n5 n6 n7 n8]
      rfl
    · have x := w.2.2.2.2 k k0 k2
      have kf : ∀ q, 11 ≤ q → (f_X0_settleEnds (f_X6_wire sm c) c).1 (c + q) k.toNat = (f_X6_wire sm c).1 (c + q) k.toNat := fun q h => d.2.1.2.1 (c + q) _ (by omega)
      unfold ALLR at x ⊢
      rw [kf 11 (by omega), kf 12 (by omega), kf 13 (by omega), kf 14 (by omega), kf 15 (by omega)]
      exact x
    · have y := d.2.2.1 q q0 q1
      have z := rf q q0 q1
      exact ⟨y.1.trans z.1.symm, y.2.trans z.2.symm⟩
    · have y := d.2.1.2.2.2 q q0 q1 q2
      refine ⟨fun z => ?_, fun z => ?_⟩
      · have u := y.1 z
        rw [w.2.2.1] at u
        exact FB_0 q u
      · have u := y.2 z
        rw [w.2.2.2.1] at u
        exact FB_0 q u
/-- the text that both sides show now -/
def HISC (s : ST) (c : Nat) (S : Int) : Prop := ∃ (s0 t : ST) (a : Int) (FL FG : FN), PGI c S a s0 t ∧ PgL t S FL FG ∧ PgAll FG S (gI (f_X8_readAll t) 76 S) ∧ (∀ p j, c ≤ p → p ≤ c + 15 → s.1 p j = (f_X3_read s0 a c).1.1 p j ∧ s.2.1 p j = (f_X3_read s0 a c).1.2.1 p j) ∧ (∀ (q j : Nat), 73 ≤ q → q ≤ 102 → wd q * S ≤ (j : Int) → (j : Int) < wd q * S + wd q → s.1 q j = (FG q j).toInt)
def HIS (s : ST) : Prop := ∃ c d : Nat, (c = 2 ∧ d = 18 ∨ c = 18 ∧ d = 2) ∧ s.2.2 0 3 = c ∧ s.2.2 0 4 = d ∧ ((s.1 70 30 = 0 ∧ s.1 c 0 = 0 ∧ s.1 c 1 = 0 ∧ s.1 c 3 = 0 ∧ s.1 c 4 = 0 ∧ s.2.1 c 2 = 0) ∨ (s.1 70 30 = 1 ∧ HISC s c (s.1 70 29)))
theorem HISC.cong {s s' : ST} {c : Nat} {S : Int} (i : ∀ p j, c ≤ p → p ≤ c + 15 → s'.1 p j = s.1 p j ∧ s'.2.1 p j = s.2.1 p j) (t : ∀ (q j : Nat), 73 ≤ q → q ≤ 102 → wd q * S ≤ (j : Int) → (j : Int) < wd q * S + wd q → s'.1 q j = s.1 q j) (h : HISC s c S) : HISC s' c S := by
  obtain ⟨s0, tt, a, FL, FG, h1, h2, h3, h4, h5⟩ := h
  exact ⟨s0, tt, a, FL, FG, h1, h2, h3, fun p j p1 p2 => ⟨(i p j p1 p2).1.trans (h4 p j p1 p2).1, (i p j p1 p2).2.trans (h4 p j p1 p2).2⟩, fun q j a1 a2 a3 a4 => (t q j a1 a2 a3 a4).trans (h5 q j a1 a2 a3 a4)⟩
theorem HIS.cong {s s' : ST} (r3 : s'.2.2 0 3 = s.2.2 0 3) (r4 : s'.2.2 0 4 = s.2.2 0 4) (i : ∀ q j, (2 ≤ q ∧ q ≤ 33) ∨ (q = 70 ∧ (j = 29 ∨ j = 30)) ∨ (73 ≤ q ∧ q ≤ 102) → s'.1 q j = s.1 q j) (l : ∀ q j, 2 ≤ q → q ≤ 33 → s'.2.1 q j = s.2.1 q j) (h : HIS s) : HIS s' := by
  obtain ⟨c, d, cd, h3, h4, h⟩ := h
  refine ⟨c, d, cd, r3.trans h3, r4.trans h4, ?_⟩
  rw [i 70 30 (by omega), i 70 29 (by omega), i c 0 (by omega), i c 1 (by omega), i c 3 (by omega), i c 4 (by omega), l c 2 (by omega) (by omega)]
  rcases h with h | h
  · exact Or.inl h
  · exact Or.inr ⟨h.1, HISC.cong (fun p j p1 p2 => ⟨i p j (by omega), l p j (by omega) (by omega)⟩) (fun q j q1 q2 _ _ => i q j (by omega)) h.2⟩
theorem tp_prog2 {s s1 : ST} {u : Int} {c d : Nat} (cd : c = 2 ∧ d = 18 ∨ c = 18 ∧ d = 2) (e1 : (s1, u) = f_X7_program s) (r3 : s.2.2 0 3 = c) (r4 : s.2.2 0 4 = d) :
    (∀ p j, 2 ≤ p → p ≤ 33 → s1.1 p j = (f_X3_read (sI s 0 1 0) (s.1 0 1) d).1.1 p j ∧ s1.2.1 p j = (f_X3_read (sI s 0 1 0) (s.1 0 1) d).1.2.1 p j) ∧ ((f_X3_read (sI s 0 1 0) (s.1 0 1) d).2 = 0 → s1.2.2 0 3 = d ∧ s1.2.2 0 4 = c) ∧ ((f_X3_read (sI s 0 1 0) (s.1 0 1) d).2 ≠ 0 → s1.2.2 0 3 = c ∧ s1.2.2 0 4 = d) ∧ (∀ p, c ≤ p → p ≤ c + 15 → (f_X3_read (sI s 0 1 0) (s.1 0 1) d).1.1 p = s.1 p ∧ (f_X3_read (sI s 0 1 0) (s.1 0 1) d).1.2.1 p = s.2.1 p) := by
  have kd : KDp d (sI s 0 1 0) (f_X3_read (sI s 0 1 0) (s.1 0 1) d) := kd_X3_read (by omega) rfl
  unfold f_X7_program at e1
  have k1 := bd_e e1 rfl
  have k2 := bd_e k1 rfl
  have k3 := bd_e k2 (show (sI s 0 1 0).2.2 0 4 = d from r4)
  generalize f_X3_read (sI s 0 1 0) (s.1 0 1) d = R at k3 kd ⊢
  obtain ⟨s8, v⟩ := R
  have k4 := bd2_e k3 rfl
  have k5 := bd_e k4 rfl
  have q0 : s8.2.2 0 = s.2.2 0 := kd.2.1
  have fr : ∀ p, c ≤ p → p ≤ c + 15 → s8.1 p = s.1 p ∧ s8.2.1 p = s.2.1 p := fun p p1 p2 => by
    have z := kd.2.2 p (by omega) (by omega) (by omega)
    refine ⟨z.1.trans (sI_nc (by omega)), z.2⟩
  dsimp only at fr ⊢
  by_cases q : v = 0
  · have k6 := if_t k5 q
    have k7 := bd_e k6 rfl
    have k8 := bd_e k7 rfl
    have k9 := bd_e k8 rfl
    have k10 := bd_e k9 rfl
    have k11 := bd_e k10 rfl
    have k12 := bd_e k11 rfl
    have k13 := bd_e k12 rfl
    have k14 := bd_e k13 rfl
    have a1 := congrArg Prod.fst k14
    dsimp only at a1
    refine ⟨fun p j p1 p2 => ⟨?_, ?_⟩, fun _ => ⟨?_, ?_⟩, fun z => absurd q z, fr⟩
    · rw [a1, fg2 (by omega), fg4 (by omega)]
      show (sI s8 0 2 v).1 p j = _
      rw [sI_nc (by omega)]
    · rw [a1]; rfl
    · rw [a1]
      show (if 0 = 0 ∧ 3 = 4 then s8.2.2 0 3 else if 0 = 0 ∧ 3 = 3 then s8.2.2 0 4 else s8.2.2 0 3) = d
      rw [if_neg (by omega), if_pos ⟨rfl, rfl⟩, q0]
      exact r4
    · rw [a1]
      show (if 0 = 0 ∧ 4 = 4 then s8.2.2 0 3 else if 0 = 0 ∧ 4 = 3 then s8.2.2 0 4 else s8.2.2 0 4) = c
      rw [if_pos ⟨rfl, rfl⟩, q0]
      exact r3
  · have k6 := if_f k5 q
    have a1 := congrArg Prod.fst k6
    dsimp only at a1
    refine ⟨fun p j p1 p2 => ⟨?_, ?_⟩, fun z => absurd z q, fun _ => ⟨?_, ?_⟩, fr⟩
    · rw [a1, sI_nc (by omega)]
    · rw [a1]; rfl
    · rw [a1]
      show s8.2.2 0 3 = c
      rw [q0]; exact r3
    · rw [a1]
      show s8.2.2 0 4 = d
      rw [q0]; exact r4

