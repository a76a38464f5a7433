/-! both programs beside each other -/
/-- what is known of the reference's tree once it is read -/
def TRF (F : FN) (T : ST) (S : Int) : Prop := (∀ (c : Nat) (i : Int), T.1 c i.toNat = V F c i) ∧ TR F S ∧ CN F S (130 * S) 0 ∧ (∀ i, 0 ≤ V F 80 i) ∧ (∀ i, V F 80 i ≤ 6) ∧ (∀ i, 0 ≤ V F 77 i ∧ V F 77 i ≤ 6) ∧ (∀ i, V F 77 i = 1 → 0 ≤ V F 84 i)
theorem TT.of {c : Nat} {S P : Int} {B : Int → Int} {s T : ST} {F : FN} (hc : c = 2 ∨ c = 18) (S0 : 0 ≤ S) (h : RR c S 0 P B s T) (hP : P = gI T 76 S) (f : TRF F T S) (h128 : gI T 73 S ≤ 128) (td : ∀ k, 0 ≤ k → k < gI T 75 S → gI T 84 (gI T 93 (40 * S + k)) < P) : TT c S P B s T (f_X8_entryOf T) (f_X8_firstOf T) (f_X8_endOf T) (f_X8_behind T) (fun b => f_X8_tryOf_ 805 7 b T) := by
  obtain ⟨hV, tr, cn, h80, h86, h77, h84⟩ := f
  have e : ∀ (c : Nat) (i : Int), gI T c i = V F c i := hV
  have P5 : P ≤ 5 := by have := h.1.2.2.2.2.2.2.2.2.1; omega
  refine ⟨h, WQ.of hV tr cn S0 h80 h86 (by rw [← e]; omega), TXR.of hV tr cn S0 h80 h86, fun i _ z => ?_, fun i hi z => ⟨?_, ?_⟩, fun i hi z => ?_, S0, P5, hc⟩
  · rw [e] at z ⊢
    have := h77 i
    omega
  · rw [e] at z ⊢
    exact h84 i z
  · have n := h.n78 i hi (by omega)
    have q := td _ n.1 n.2.1
    rw [n.2.2] at q
    exact q
  · rw [e] at z ⊢
    have hi' : 130 * S ≤ i ∧ i < 130 * S + V F 73 S := by rw [← e]; exact hi
    exact ((cn i hi'.1 hi'.2).2.1 z).1
theorem BRG.of {S P : Int} {T : ST} {FL : FN} (S0 : 0 ≤ S) (hS : T.1 70 6 = S) (hP : P = gI T 76 S) (P0 : 0 ≤ P) (P5 : P ≤ 5) (h75 : 0 ≤ gI T 75 S) (h40 : gI T 75 S ≤ 40) (hV : ∀ (c : Nat) (i : Int), (f_X8_laysWays T).1 c i.toNat = V FL c i) : BRG FL T S P (f_X8_firstOf T) (f_X8_behind T) (fun b => f_X8_tryOf_ 805 7 b T) := by
  obtain ⟨l1, l2, l3⟩ := lays_ok S0 hS hP.symm P0 P5 h75 h40
  have e : ∀ (c : Nat) (i : Int), V FL c i = gI (f_X8_laysWays T) c i := fun c i => (hV c i).symm
  refine ⟨fun c i h1 h2 => ?_, fun k k0 k1 => ?_, fun p p0 p1 => ?_⟩
  · rw [e]
    show (f_X8_laysWays T).1 c i.toNat = T.1 c i.toNat
    rw [l1 c (by omega)]
  · rw [e, e, e, e, e]
    exact l2 k k0 k1
  · rw [e]
    exact l3 p p0 p1
set_option maxHeartbeats 4000000 in
/-- the fault that read tells is the one that the reference's reading, telling and laying come to -/
theorem prog_all {c : Nat} {S a : Int} {s t : ST} (hc : c = 2 ∨ c = 18) (S0 : 0 ≤ S) (a0 : 0 ≤ a) (a5 : a ≤ 500) (hS : t.1 70 6 = S) (t3 : t.1 70 3 = a) (t4 : t.1 70 4 = 0) (t5 : t.1 70 5 = 0) (tx : TX (s.1 1) (t.1 72) a) (t73 : gI t 73 S = 0) (t74 : gI t 74 S = 0) (t75 : gI t 75 S = 0) (t76 : gI t 76 S = 0) :
    ((f_X8_readAll t).1 70 5 ≠ 0 → (f_X3_read s a c).2 = (f_X8_readAll t).1 70 5) ∧
    (∀ F : FN, (f_X8_readAll t).1 70 5 = 0 → TRF F (f_X8_readAll t) S →
      (f_X8_isTold (f_X8_readAll t) = 0 → (∀ k, 0 ≤ k → k < gI (f_X8_readAll t) 75 S → True) → (f_X3_read s a c).2 = 5 + 8 * (f_X8_readAll t).1 70 4) ∧
      (¬ f_X8_isTold (f_X8_readAll t) = 0 → (∀ k, 0 ≤ k → k < gI (f_X8_readAll t) 75 S → gI (f_X8_readAll t) 84 (gI (f_X8_readAll t) 93 (40 * S + k)) < gI (f_X8_readAll t) 76 S) → ∀ FL FG : FN, (∀ (c : Nat) (i : Int), (f_X8_laysWays (f_X8_readAll t)).1 c i.toNat = V FL c i) → KX 100 FL FG → LSP FL FG S → FXP FG S (gI (f_X8_readAll t) 76 S) →
        ((∀ q, 0 ≤ q → q < gI (f_X8_readAll t) 76 S → V FG 101 (5 * S + q) = 1 ∨ V FG 102 (5 * S + q) = 1) → (f_X3_read s a c).2 = 0 ∧ (f_X3_read s a c).1.1 c 0 = gI (f_X8_readAll t) 75 S) ∧ (¬ (∀ q, 0 ≤ q → q < gI (f_X8_readAll t) 76 S → V FG 101 (5 * S + q) = 1 ∨ V FG 102 (5 * S + q) = 1) → (f_X3_read s a c).2 = 6 + 8 * (f_X8_readAll t).1 70 4))) := by
  have A := read_all (s := s) hc S0 a0 a5 hS t3 t4 t5 tx t73 t74 t75 t76
  generalize f_X8_readAll t = T at A ⊢
  rcases A with A | ⟨sm, B, P, e, hm, hP, P1, pl, h128⟩
  · exact ⟨fun _ => A.2.1, fun F z => absurd z A.1⟩
  · have z0 : T.1 70 5 = 0 := hm.1.2.2.2.2.2.2.2
    have at_ : sm.1 34 1 = T.1 70 4 := pl.symm.trans hm.1.2.1
    refine ⟨fun z => absurd z0 z, fun F _ f => ⟨fun z _ => ?_, fun z td FL FG hVL kx ls fx => ?_⟩⟩
    · have told := told_r hm.2.1 hm.2.2.2.1
      have f0 : sm.1 34 3 = 0 := hm.1.2.2.2.2.2.2.1
      rw [e]
      dsimp only
      obtain ⟨fin, kf⟩ : ∃ z, z = f_X3_finish sm := ⟨_, rfl⟩
      rewrite [← kf]
      unfold f_X3_finish at kf
      have j1 := bd_e kf f0
      have j2 := if_t j1 rfl
      have j3 := bd_e j2 hm.2.2.1
      have j4 := bd_e j3 told
      have j5 := if_f j4 (fun y => y z)
      have j6 := bd_e j5 rfl
      rewrite [bd_r] at j6
      rw [j6, blame_0 f0, sI_eq, at_]
    · have tt := TT.of hc S0 hm.2.1 hP f h128 (by rw [hP]; exact td)
      have k1 := hm.2.1.1
      have bg := BRG.of S0 hm.2.2.2.1 hP (by omega) tt.2.2.2.2.2.2.2.1 k1.2.2.2.1 k1.2.2.2.2.1 hVL
      have rf := ref_ok tt bg hP kx ls (by rw [hP]; exact fx)
      have fo := (fin_ok tt hm h128 hP).2 z
      rw [← hP]
      have eqv : (∀ q, 0 ≤ q → q < P → V FG 101 (5 * S + q) = 1 ∨ V FG 102 (5 * S + q) = 1) ↔ ∀ q, 0 ≤ q → q < P → LFR T S P (f_X8_firstOf T) (f_X8_behind T) (fun b => f_X8_tryOf_ 805 7 b T) q ∨ LFT T S P (f_X8_firstOf T) (f_X8_behind T) (fun b => f_X8_tryOf_ 805 7 b T) q := by
        constructor
        · intro y q q0 q1
          rcases y q q0 q1 with v | v
          · exact Or.inl ((rf q q0 q1).1.mp v)
          · exact Or.inr ((rf q q0 q1).2.mp v)
        · intro y q q0 q1
          rcases y q q0 q1 with v | v
          · exact Or.inl ((rf q q0 q1).1.mpr v)
          · exact Or.inr ((rf q q0 q1).2.mpr v)
      rw [eqv, e]
      dsimp only
      refine ⟨fun y => ?_, fun y => ?_⟩
      · have r := fo.2 y
        exact ⟨r.2.1, r.2.2⟩
      · rw [fo.1 y, at_]

