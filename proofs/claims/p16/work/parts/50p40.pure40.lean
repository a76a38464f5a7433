/-! the tapes, byte by byte; what the law keeps of them -/
def pb7 (a k : Int) : Int := o_i2b (o_i2b (o_iushr a k))
def pb8 (a k : Int) : Int := o_i2b (o_i2b (o_ishr a k))
theorem i2b_sh {x k : Int32} (h0 : 0 ≤ k.toInt) (h1 : k.toInt ≤ 24) : ((x.toUInt32 >>> (k.toUInt32 &&& Int32.toUInt32 31)).toInt32).toInt8.toInt32 = (x >>> (k &&& 31)).toInt8.toInt32 := by
  refine congrArg Int8.toInt32 (Int8.toBitVec_inj.mp ?_)
  apply BitVec.eq_of_getLsbD_eq
  intro i hi
  have e8 : ∀ y : Int32, y.toInt8.toBitVec = y.toBitVec.signExtend 8 := fun _ => rfl
  have e1 : ((x.toUInt32 >>> (k.toUInt32 &&& Int32.toUInt32 31)).toInt32).toBitVec = x.toBitVec >>> ((k.toUInt32 &&& Int32.toUInt32 31).toBitVec % 32).toNat := rfl
  have e2 : (x >>> (k &&& 31)).toBitVec = x.toBitVec.sshiftRight ((k &&& 31).toBitVec.smod 32).toNat := rfl
  have q1 : i < 32 := by omega
  have q2 : k.toInt.toNat + i < 32 := by omega
  have q3 : decide (32 ≤ i) = false := decide_eq_false (by omega)
  rw [e8, e8, BitVec.getLsbD_signExtend, BitVec.getLsbD_signExtend, if_pos q1, if_pos q1, e1, e2, sr_n h0 (by omega), sl_n h0 (by omega), BitVec.getLsbD_ushiftRight, BitVec.getLsbD_sshiftRight, if_pos q2, q3]
  rfl
theorem pb_eq (a : Int) {k : Int} (h0 : 0 ≤ k) (h1 : k ≤ 24) : pb7 a k = pb8 a k := by
  have ek : (Int32.ofInt k).toInt = k := Int32.toInt_ofInt_of_le (by omega) (by omega)
  have i : o_i2b (o_iushr a k) = o_i2b (o_ishr a k) := by
    unfold o_i2b o_iushr o_ishr p_iushr p_ishr
    rw [Int32.ofInt_toInt, Int32.ofInt_toInt, i2b_sh (by rw [ek]; omega) (by rw [ek]; omega)]
  unfold pb7 pb8
  rw [i]
def st7 (s : ST) (b : Int) : ST := sI (sI s 1 (s.1 0 1).toNat b) 0 1 (s.1 0 1 + 1)
def st8 (s : ST) (b : Int) : ST := sI (sI s 71 (s.1 70 2).toNat b) 70 2 (s.1 70 2 + 1)
def fo7 (s : ST) (a : Int) : ST := st7 (st7 (st7 (st7 s (pb7 a 24)) (pb7 a 16)) (pb7 a 8)) (pb7 a 0)
def fo8 (s : ST) (a : Int) : ST := st8 (st8 (st8 (st8 s (pb8 a 24)) (pb8 a 16)) (pb8 a 8)) (pb8 a 0)
theorem put7 (s : ST) (a : Int) : f_X7_putFour s a = fo7 s a := by
  obtain ⟨fin, kf⟩ : ∃ z, z = f_X7_putFour s a := ⟨_, rfl⟩
  rw [← kf]
  unfold f_X7_putFour at kf
  rw [show ((24 : Int) + (-8)) = 16 from rfl, show ((16 : Int) + (-8)) = 8 from rfl, show ((8 : Int) + (-8)) = 0 from rfl] at kf
  unfold fo7
  have k1a := bd_e kf rfl
  have k1b := bd_e k1a rfl
  have k1c := bd_e k1b rfl
  have k1 := bd_e k1c rfl
  have k2 := bd_e (y := s.1 0 1) k1 (show (sI s 1 (s.1 0 1).toNat (pb7 a 24)).1 0 1 = s.1 0 1 from congrFun (sI_nc (show (0 : Nat) ≠ 1 by omega)) 1)
  have k3 := bd_e (y := st7 s (pb7 a 24)) k2 rfl
  generalize st7 s (pb7 a 24) = s1 at k3 ⊢
  have k1a := bd_e k3 rfl
  have k1b := bd_e k1a rfl
  have k1c := bd_e k1b rfl
  have k1 := bd_e k1c rfl
  have k2 := bd_e (y := s1.1 0 1) k1 (show (sI s1 1 (s1.1 0 1).toNat (pb7 a 16)).1 0 1 = s1.1 0 1 from congrFun (sI_nc (show (0 : Nat) ≠ 1 by omega)) 1)
  have k4 := bd_e (y := st7 s1 (pb7 a 16)) k2 rfl
  generalize st7 s1 (pb7 a 16) = s2 at k4 ⊢
  have k1a := bd_e k4 rfl
  have k1b := bd_e k1a rfl
  have k1c := bd_e k1b rfl
  have k1 := bd_e k1c rfl
  have k2 := bd_e (y := s2.1 0 1) k1 (show (sI s2 1 (s2.1 0 1).toNat (pb7 a 8)).1 0 1 = s2.1 0 1 from congrFun (sI_nc (show (0 : Nat) ≠ 1 by omega)) 1)
  have k5 := bd_e (y := st7 s2 (pb7 a 8)) k2 rfl
  generalize st7 s2 (pb7 a 8) = s3 at k5 ⊢
  have k1a := bd_e k5 rfl
  have k1b := bd_e k1a rfl
  have k1c := bd_e k1b rfl
  have k1 := bd_e k1c rfl
  have k2 := bd_e (y := s3.1 0 1) k1 (show (sI s3 1 (s3.1 0 1).toNat (pb7 a 0)).1 0 1 = s3.1 0 1 from congrFun (sI_nc (show (0 : Nat) ≠ 1 by omega)) 1)
  exact bd_e (y := st7 s3 (pb7 a 0)) k2 rfl
theorem put8 (s : ST) (a : Int) : f_X8_put s a = fo8 s a := by
  obtain ⟨fin, kf⟩ : ∃ z, z = f_X8_put s a := ⟨_, rfl⟩
  rw [← kf]
  unfold f_X8_put at kf
  rw [show ((24 : Int) + (-8)) = 16 from rfl, show ((16 : Int) + (-8)) = 8 from rfl, show ((8 : Int) + (-8)) = 0 from rfl] at kf
  unfold fo8
  have k1a := bd_e kf rfl
  have k1b := bd_e k1a rfl
  have k1c := bd_e k1b rfl
  have k1 := bd_e k1c rfl
  have k2 := bd_e (y := s.1 70 2) k1 (show (sI s 71 (s.1 70 2).toNat (pb8 a 24)).1 70 2 = s.1 70 2 from congrFun (sI_nc (show (70 : Nat) ≠ 71 by omega)) 2)
  have k3 := bd_e (y := st8 s (pb8 a 24)) k2 rfl
  generalize st8 s (pb8 a 24) = s1 at k3 ⊢
  have k1a := bd_e k3 rfl
  have k1b := bd_e k1a rfl
  have k1c := bd_e k1b rfl
  have k1 := bd_e k1c rfl
  have k2 := bd_e (y := s1.1 70 2) k1 (show (sI s1 71 (s1.1 70 2).toNat (pb8 a 16)).1 70 2 = s1.1 70 2 from congrFun (sI_nc (show (70 : Nat) ≠ 71 by omega)) 2)
  have k4 := bd_e (y := st8 s1 (pb8 a 16)) k2 rfl
  generalize st8 s1 (pb8 a 16) = s2 at k4 ⊢
  have k1a := bd_e k4 rfl
  have k1b := bd_e k1a rfl
  have k1c := bd_e k1b rfl
  have k1 := bd_e k1c rfl
  have k2 := bd_e (y := s2.1 70 2) k1 (show (sI s2 71 (s2.1 70 2).toNat (pb8 a 8)).1 70 2 = s2.1 70 2 from congrFun (sI_nc (show (70 : Nat) ≠ 71 by omega)) 2)
  have k5 := bd_e (y := st8 s2 (pb8 a 8)) k2 rfl
  generalize st8 s2 (pb8 a 8) = s3 at k5 ⊢
  have k1a := bd_e k5 rfl
  have k1b := bd_e k1a rfl
  have k1c := bd_e k1b rfl
  have k1 := bd_e k1c rfl
  have k2 := bd_e (y := s3.1 70 2) k1 (show (sI s3 71 (s3.1 70 2).toNat (pb8 a 0)).1 70 2 = s3.1 70 2 from congrFun (sI_nc (show (70 : Nat) ≠ 71 by omega)) 2)
  exact bd_e (y := st8 s3 (pb8 a 0)) k2 rfl
/-- both tapes alike, the class's in s, the reference's in t -/
def RTP (s t : ST) : Prop := s.1 0 1 = t.1 70 2 ∧ 0 ≤ s.1 0 1 ∧ ∀ j : Nat, (j : Int) < s.1 0 1 → s.1 1 j = t.1 71 j
theorem RTP.step {s t : ST} {b : Int} (h : RTP s t) : RTP (st7 s b) (st8 t b) := by
  obtain ⟨h1, h2, h3⟩ := h
  have e7 : (st7 s b).1 0 1 = s.1 0 1 + 1 := sI_eq _ _ _ _
  have e8 : (st8 t b).1 70 2 = t.1 70 2 + 1 := sI_eq _ _ _ _
  refine ⟨by rw [e7, e8, h1], by rw [e7]; omega, fun j q => ?_⟩
  rw [e7] at q
  have r7 : (st7 s b).1 1 j = (sI s 1 (s.1 0 1).toNat b).1 1 j := congrFun (sI_nc (by omega)) j
  have r8 : (st8 t b).1 71 j = (sI t 71 (t.1 70 2).toNat b).1 71 j := congrFun (sI_nc (by omega)) j
  rw [r7, r8]
  by_cases w : j = (s.1 0 1).toNat
  · rw [w, sI_eq, h1, sI_eq]
  · rw [sI_ne (show ¬ (1 = 1 ∧ j = (s.1 0 1).toNat) by omega), sI_ne (show ¬ (71 = 71 ∧ j = (t.1 70 2).toNat) by omega)]
    exact h3 j (by omega)
theorem RTP.four {s t : ST} (h : RTP s t) (a : Int) : RTP (fo7 s a) (fo8 t a) := by
  unfold fo7 fo8
  rw [pb_eq a (k := 24) (by omega) (by omega), pb_eq a (k := 16) (by omega) (by omega), pb_eq a (k := 8) (by omega) (by omega), pb_eq a (k := 0) (by omega) (by omega)]
  exact h.step.step.step.step
def ETP (t u : ST) : Prop := t.1 70 2 = u.1 70 2 ∧ ∀ j, t.1 71 j = u.1 71 j
theorem ETP.step {t u : ST} {b : Int} (h : ETP t u) : ETP (st8 t b) (st8 u b) := by
  obtain ⟨h1, h2⟩ := h
  refine ⟨?_, fun j => ?_⟩
  · show (sI _ 70 2 _).1 70 2 = (sI _ 70 2 _).1 70 2
    rw [sI_eq, sI_eq, h1]
  · have r1 : (st8 t b).1 71 j = (sI t 71 (t.1 70 2).toNat b).1 71 j := congrFun (sI_nc (by omega)) j
    have r2 : (st8 u b).1 71 j = (sI u 71 (u.1 70 2).toNat b).1 71 j := congrFun (sI_nc (by omega)) j
    rw [r1, r2, h1]
    by_cases w : j = (u.1 70 2).toNat
    · rw [w, sI_eq, sI_eq]
    · rw [sI_ne (show ¬ (71 = 71 ∧ j = (u.1 70 2).toNat) by omega), sI_ne (show ¬ (71 = 71 ∧ j = (u.1 70 2).toNat) by omega)]
      exact h2 j
theorem ETP.four {t u : ST} (h : ETP t u) (a : Int) : ETP (fo8 t a) (fo8 u a) := h.step.step.step.step
theorem tp7_st {s : ST} {b : Int} {c : Nat} (h0 : c ≠ 0) (h1 : c ≠ 1) : (st7 s b).1 c = s.1 c := by unfold st7; rw [sI_nc h0, sI_nc h1]
theorem tp7_2 {s : ST} {b : Int} : (st7 s b).1 0 2 = s.1 0 2 := by
  unfold st7
  rw [sI_ne (show ¬ (0 = 0 ∧ 2 = 1) by omega), sI_nc (by omega)]
theorem tp8_st {s : ST} {b : Int} {c : Nat} (h0 : c ≠ 70) (h1 : c ≠ 71) : (st8 s b).1 c = s.1 c := by unfold st8; rw [sI_nc h0, sI_nc h1]
theorem tp8_5 {s : ST} {b : Int} : (st8 s b).1 70 5 = s.1 70 5 := by
  unfold st8
  rw [sI_ne (show ¬ (70 = 70 ∧ 5 = 2) by omega), sI_nc (by omega)]
theorem tp7_fo {s : ST} {a : Int} {c : Nat} (h0 : c ≠ 0) (h1 : c ≠ 1) : (fo7 s a).1 c = s.1 c := by unfold fo7; rw [tp7_st h0 h1, tp7_st h0 h1, tp7_st h0 h1, tp7_st h0 h1]
theorem tp7_fo2 {s : ST} {a : Int} : (fo7 s a).1 0 2 = s.1 0 2 := by unfold fo7; rw [tp7_2, tp7_2, tp7_2, tp7_2]
theorem tp8_fo {s : ST} {a : Int} {c : Nat} (h0 : c ≠ 70) (h1 : c ≠ 71) : (fo8 s a).1 c = s.1 c := by unfold fo8; rw [tp8_st h0 h1, tp8_st h0 h1, tp8_st h0 h1, tp8_st h0 h1]
theorem tp8_fo5 {s : ST} {a : Int} : (fo8 s a).1 70 5 = s.1 70 5 := by unfold fo8; rw [tp8_5, tp8_5, tp8_5, tp8_5]
def fi7 (s : ST) (a b c d e : Int) : ST := fo7 (fo7 (fo7 (fo7 (fo7 s a) b) c) d) e
def fi8 (s : ST) (a b c d e : Int) : ST := fo8 (fo8 (fo8 (fo8 (fo8 s a) b) c) d) e
theorem tp7_fi {s : ST} {a b c d e : Int} {n : Nat} (h0 : n ≠ 0) (h1 : n ≠ 1) : (fi7 s a b c d e).1 n = s.1 n := by unfold fi7; rw [tp7_fo h0 h1, tp7_fo h0 h1, tp7_fo h0 h1, tp7_fo h0 h1, tp7_fo h0 h1]
theorem tp7_fi2 {s : ST} {a b c d e : Int} : (fi7 s a b c d e).1 0 2 = s.1 0 2 := by unfold fi7; rw [tp7_fo2, tp7_fo2, tp7_fo2, tp7_fo2, tp7_fo2]
theorem tp8_fi {s : ST} {a b c d e : Int} {n : Nat} (h0 : n ≠ 70) (h1 : n ≠ 71) : (fi8 s a b c d e).1 n = s.1 n := by unfold fi8; rw [tp8_fo h0 h1, tp8_fo h0 h1, tp8_fo h0 h1, tp8_fo h0 h1, tp8_fo h0 h1]
theorem tp8_fi5 {s : ST} {a b c d e : Int} : (fi8 s a b c d e).1 70 5 = s.1 70 5 := by unfold fi8; rw [tp8_fo5, tp8_fo5, tp8_fo5, tp8_fo5, tp8_fo5]
/-- what the law keeps: the same bytes, the same fault -/
def LHs (s : ST) : Prop := (∀ j : Nat, (j : Int) < s.1 0 1 → s.1 1 j = s.1 71 j) ∧ s.1 0 2 = s.1 70 5
theorem tp_feed {s s1 s2 : ST} {u v a b c d e : Int} (e1 : (s1, u) = f_X7_feed s a b c d e) (e2 : (s2, v) = f_X8_feed s1 a b c d e) (tq : s.1 0 1 = s.1 70 2) (t0 : 0 ≤ s.1 0 1) (l : LHs s) : LHs s2 := by
  unfold f_X7_feed at e1
  unfold f_X8_feed at e2
  have k1 := bd_e e1 rfl
  have j1 := bd_e e2 rfl
  by_cases q : s.1 0 1 + 20 ≤ 500
  · have k2 := if_t k1 q
    have k3 := bd_e k2 (put7 s a)
    have k4 := bd_e k3 (put7 _ b)
    have k5 := bd_e k4 (put7 _ c)
    have k6 := bd_e k5 (put7 _ d)
    have k7 := bd_e k6 (put7 _ e)
    have k8 := bd_e k7 rfl
    have s1e : s1 = fi7 s a b c d e := congrArg Prod.fst k8
    have s70 : s1.1 70 = s.1 70 := by rw [s1e]; exact tp7_fi (by omega) (by omega)
    have s71 : s1.1 71 = s.1 71 := by rw [s1e]; exact tp7_fi (by omega) (by omega)
    have s02 : s1.1 0 2 = s.1 0 2 := by rw [s1e]; exact tp7_fi2
    have q2 : s1.1 70 2 + 20 ≤ 500 := by rw [s70]; omega
    have j2 := if_t j1 q2
    have j3 := bd_e j2 (put8 s1 a)
    have j4 := bd_e j3 (put8 _ b)
    have j5 := bd_e j4 (put8 _ c)
    have j6 := bd_e j5 (put8 _ d)
    have j7 := bd_e j6 (put8 _ e)
    have j8 := bd_e j7 rfl
    have s2e : s2 = fi8 s1 a b c d e := congrArg Prod.fst j8
    have r0 : RTP s s := ⟨tq, t0, l.1⟩
    have r1 : RTP s1 (fi8 s a b c d e) := by rw [s1e]; exact ((((r0.four a).four b).four c).four d).four e
    have x0 : ETP s s1 := ⟨by rw [s70], fun j => by rw [s71]⟩
    have x1 : ETP (fi8 s a b c d e) s2 := by rw [s2e]; exact ((((x0.four a).four b).four c).four d).four e
    have m0 : s2.1 0 = s1.1 0 := by rw [s2e]; exact tp8_fi (by omega) (by omega)
    have m1 : s2.1 1 = s1.1 1 := by rw [s2e]; exact tp8_fi (by omega) (by omega)
    have m5 : s2.1 70 5 = s1.1 70 5 := by rw [s2e]; exact tp8_fi5
    refine ⟨fun j z => ?_, ?_⟩
    · rw [m0] at z
      rw [m1, r1.2.2 j z]
      exact x1.2 j
    · rw [m0, m5, s02, s70]
      exact l.2
  · have k2 := if_f k1 q
    have s1e : s1 = s := congrArg Prod.fst k2
    have j2 := if_f j1 (show ¬ s1.1 70 2 + 20 ≤ 500 by rw [s1e]; omega)
    have s2e : s2 = s1 := congrArg Prod.fst j2
    rw [s2e, s1e]
    exact l
theorem tp_end {s s1 s2 : ST} {u v a : Int} (e1 : (s1, u) = f_X7_end s a) (e2 : (s2, v) = f_X8_end s1 a) (l : LHs s) : LHs s2 := by
  have h1 : s1 = s ∨ (s1 = sI s 0 1 a ∧ a ≤ s.1 0 1) := by
    unfold f_X7_end at e1
    by_cases q : a < 0
    · exact Or.inl (congrArg Prod.fst (if_t e1 q))
    · have k0 := if_f e1 q
      have k := bd_e k0 rfl
      by_cases w : a ≤ s.1 0 1
      · have k1 := if_t k w
        have k2 := bd_e k1 rfl
        exact Or.inr ⟨congrArg Prod.fst k2, w⟩
      · exact Or.inl (congrArg Prod.fst (if_f k w))
  have h2 : s2 = s1 ∨ s2 = sI s1 70 2 a := by
    unfold f_X8_end at e2
    have k0 := bd_e e2 rfl
    have k := bd_e k0 rfl
    by_cases q : ¬ f_X8_isIn s1 a 0 (s1.1 70 2) = 0
    · have k1 := if_t k q
      have k2 := bd_e k1 rfl
      exact Or.inr (congrArg Prod.fst k2)
    · exact Or.inl (congrArg Prod.fst (if_f k q))
  have l1 : LHs s1 := by
    rcases h1 with h1 | ⟨h1, w⟩
    · rw [h1]; exact l
    · rw [h1]
      refine ⟨fun j z => ?_, ?_⟩
      · rw [sI_eq] at z
        rw [sI_nc (show (1 : Nat) ≠ 0 by omega), sI_nc (show (71 : Nat) ≠ 0 by omega)]
        exact l.1 j (by omega)
      · rw [sI_ne (show ¬ ((0 : Nat) = 0 ∧ (2 : Nat) = 1) by omega), sI_nc (show (70 : Nat) ≠ 0 by omega)]
        exact l.2
  rcases h2 with h2 | h2
  · rw [h2]; exact l1
  · rw [h2]
    refine ⟨fun j z => ?_, ?_⟩
    · rw [sI_nc (show (0 : Nat) ≠ 70 by omega)] at z
      rw [sI_nc (show (1 : Nat) ≠ 70 by omega), sI_nc (show (71 : Nat) ≠ 70 by omega)]
      exact l1.1 j z
    · rw [sI_nc (show (0 : Nat) ≠ 70 by omega), sI_ne (show ¬ ((70 : Nat) = 70 ∧ (5 : Nat) = 2) by omega)]
      exact l1.2
theorem fg4 {y : ST} {c j : Nat} (h : c ≠ 49) : (f_X4_forget y).1 c j = y.1 c j := by
  show (sI y 49 2 0).1 c j = _
  rw [sI_nc h]
theorem fg2 {y : ST} {c j : Nat} (h : c ≠ 64) : (f_X2_forget y).1 c j = y.1 c j := by
  show (sI (sI y 64 6 (-1)) 64 10 0).1 c j = _
  rw [sI_nc h, sI_nc h]
theorem tp_prog {s s1 : ST} {u : Int} {c : Nat} (hc : c = 2 ∨ c = 18) (e1 : (s1, u) = f_X7_program s) (sp : s.2.2 0 4 = c) (nw : (f_X3_read (sI s 0 1 0) (s.1 0 1) c).2 = 0 → s1.2.2 0 3 = c) :
    s1.1 0 2 = (f_X3_read (sI s 0 1 0) (s.1 0 1) c).2 ∧ ((f_X3_read (sI s 0 1 0) (s.1 0 1) c).2 = 0 → u = (f_X3_read (sI s 0 1 0) (s.1 0 1) c).1.1 c 0) ∧ ((f_X3_read (sI s 0 1 0) (s.1 0 1) c).2 ≠ 0 → u = -2) := by
  unfold f_X7_program at e1
  have k1 := bd_e e1 rfl
  have k2 := bd_e k1 rfl
  have k3 := bd_e k2 (show (sI s 0 1 0).2.2 0 4 = c from sp)
  generalize f_X3_read (sI s 0 1 0) (s.1 0 1) c = R at k3 nw ⊢
  obtain ⟨s8, v⟩ := R
  have k4 := bd2_e k3 rfl
  have k5 := bd_e k4 rfl
  dsimp only at nw ⊢
  by_cases q : v = 0
  · have k6 := if_t k5 q
    have k7 := bd_e k6 rfl
    have k8 := bd_e k7 rfl
    have k9 := bd_e k8 rfl
    have k10 := bd_e k9 rfl
    have k11 := bd_e k10 rfl
    have k12 := bd_e k11 rfl
    have k13 := bd_e k12 rfl
    have k14 := bd_e k13 rfl
    have a1 := congrArg Prod.fst k14
    have a2 := congrArg Prod.snd k14
    dsimp only at a1 a2
    rw [← a1] at a2
    have n := nw q
    rw [n] at a2
    have hc49 : c ≠ 49 := by omega
    have hc64 : c ≠ 64 := by omega
    have hc0 : c ≠ 0 := by omega
    have b0 : s1.1 c 0 = s8.1 c 0 := by
      rw [a1, fg2 hc64, fg4 hc49]
      show (sI s8 0 2 v).1 c 0 = _
      rw [sI_nc hc0]
    have b2 : s1.1 0 2 = v := by
      rw [a1, fg2 (by omega), fg4 (by omega)]
      show (sI s8 0 2 v).1 0 2 = _
      rw [sI_eq]
    exact ⟨b2, fun _ => a2.trans b0, fun z => absurd q z⟩
  · have k6 := if_f k5 q
    have a1 := congrArg Prod.fst k6
    have a2 := congrArg Prod.snd k6
    dsimp only at a1 a2
    exact ⟨by rw [a1, sI_eq], fun z => absurd z q, fun _ => a2⟩

