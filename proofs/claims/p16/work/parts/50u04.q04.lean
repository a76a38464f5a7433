/-! who told a name last: one statement passes on what it was told -/
theorem passOn_ok {c : Nat} {s : ST} {k nm : Int} (f : CFC c s.1) (h57 : s.2.2 57 6 = c) (k0 : 0 ≤ k) (k1 : k < s.1 c 0) : HS s (f_X1_passOn2 s k nm).1 (f_X1_passOn2 s k nm).2 (cAt c s.1 nm k) := by
  obtain ⟨Q, hQ⟩ : ∃ Q : ST × Int → Prop, Q = fun r => HS s r.1 r.2 (cAt c s.1 nm k) := ⟨_, rfl⟩
  have goal : Q (f_X1_passOn2 s k nm) := by
    have e := f.2.2.2.2.1 k k0 k1
    have u12 := UO.r e.2.2.2.1 f e.2.2.1.1 e.2.2.1.2
    have u13 := UO.r e.2.2.2.2 f e.2.2.1.1 e.2.2.1.2
    have n40 := f.1
    have half : ∀ (s1 : ST) (v1 : Int) (A : (Int → Int → Prop) → Prop), HS s s1 v1 A → (∀ C, A C ∧ (cDE c s.1 k → cUp (cTA c s.1 nm k) k (s.1 (c + 13) k.toNat) C) ↔ cAt c s.1 nm k C) → Q (bd (s1.2.2 57 6) fun c9 => bd (f_X0_decides s1 c9 k) fun v13 => if v13 = 0 then ((s1, v1)) else (bd (s1.2.2 57 6) fun c18 => bd (f_X0_tellsAside2 s1 c18 k nm) fun v22 => bd (s1.2.2 57 6) fun c24 => bd (s1.1 (c24 + 13) (k).toNat) fun v26 => if v22 = 0 then (bd (s1.2.1 62 (k).toNat) fun v30 => bd2 (f_X1_addTellers2 s1 v26 v30) fun s32 v35 => bd (o_ior v1 v35) fun v37 => (s32, v37)) else (bd (f_X7_bit s1 k) fun v42 => bd2 (f_X1_addTellers2 s1 v26 v42) fun s44 v47 => bd (o_ior v1 v47) fun v49 => (s44, v49)))) := by
      intro s1 v1 A H hA
      have e1 : s1.1 = s.1 := H.1.1
      have r1 : s1.2.2 57 6 = c := by rw [H.1.2.1]; exact h57
      have f1 : CFC c s1.1 := by rw [e1]; exact f
      refine p_bd (Q := Q) (fun c9 hc9 => ?_)
      have q9 : c9 = c := hc9.trans r1
      subst q9
      refine p_bd (Q := Q) (fun v13 h13 => ?_)
      have d := de_r f1 k0 (by rw [e1]; exact k1)
      rw [← h13, e1] at d
      refine p_if (Q := Q) (fun z => ?_) (fun z => ?_)
      · rw [hQ]
        exact H.cl (fun C => ⟨fun y => (hA C).mp ⟨y, fun w => absurd w (d.mp z)⟩, fun y => ((hA C).mpr y).1⟩)
      · refine p_bd (Q := Q) (fun c18 hc18 => ?_)
        have q18 : c18 = c9 := hc18.trans r1
        rw [q18]
        refine p_bd (Q := Q) (fun v22 h22 => ?_)
        have t := ta_r (c := c9) (X := s1) (k := k) (nm := nm)
        rw [← h22, e1] at t
        refine p_bd (Q := Q) (fun c24 hc24 => ?_)
        have q24 : c24 = c9 := hc24.trans r1
        rw [q24, e1]
        refine p_bd (Q := Q) (fun v26 h26 => ?_)
        have fin : ∀ m, (cTA c9 s.1 nm k → m = f_X7_bit s1 k) → (¬ cTA c9 s.1 nm k → m = s1.2.1 62 k.toNat) → Q (bd2 (f_X1_addTellers2 s1 v26 m) fun s32 v35 => bd (o_ior v1 v35) fun v37 => (s32, v37)) := fun m m1 m2 => by
          have a := add_ok8 (s := s1) (k := k) (u := v26) (m := m) (Tl := cTA c9 s.1 nm k) k0 (by omega) (by omega) (by omega) m1 m2
          refine p_bd2 (Q := Q) (fun s32 v35 h32 => ?_)
          rw [← h32] at a
          refine p_bd (Q := Q) (fun v37 h37 => ?_)
          rw [hQ, h37]
          refine (H.comp a).cl (fun C => ?_)
          rw [h26, ← hA C]
          have dd : cDE c9 s.1 k := Classical.byContradiction (fun y => z (d.mpr y))
          exact ⟨fun y => ⟨y.1, fun _ => y.2⟩, fun y => ⟨y.1, y.2 dd⟩⟩
        refine p_if (Q := Q) (fun y => ?_) (fun y => ?_)
        · refine p_bd (Q := Q) (fun v30 h30 => ?_)
          exact fin v30 (fun w => absurd w (t.mp y)) (fun _ => h30)
        · refine p_bd (Q := Q) (fun v42 h42 => ?_)
          exact fin v42 (fun _ => h42) (fun w => absurd (t.mpr w) y)
    unfold f_X1_passOn2
    refine p_bd (Q := Q) (fun c1 hc1 => ?_)
    have q1 : c1 = c := hc1.trans h57
    rw [q1]
    refine p_bd (Q := Q) (fun v5 h5 => ?_)
    have g := gs_r f k0 k1
    rw [← h5] at g
    refine p_if (Q := Q) (fun z => ?_) (fun z => ?_)
    · exact half s 0 (fun _ => True) (HS.rfl (fun _ => trivial)) (fun C => ⟨fun y => ⟨fun w => absurd w (g.mp z), y.2⟩, fun y => ⟨trivial, y.2⟩⟩)
    · refine p_bd (Q := Q) (fun c52 hc52 => ?_)
      have q52 : c52 = c := hc52.trans h57
      rw [q52]
      refine p_bd (Q := Q) (fun v56 h56 => ?_)
      have t := ts_r (c := c) (X := s) (k := k) (nm := nm)
      rw [← h56] at t
      refine p_bd (Q := Q) (fun c58 hc58 => ?_)
      have q58 : c58 = c := hc58.trans h57
      rw [q58]
      refine p_bd (Q := Q) (fun v60 h60 => ?_)
      have gg : cGS c s.1 k := Classical.byContradiction (fun y => z (g.mpr y))
      have hA : ∀ C, cUp (cTS c s.1 nm k) k v60 C ∧ (cDE c s.1 k → cUp (cTA c s.1 nm k) k (s.1 (c + 13) k.toNat) C) ↔ cAt c s.1 nm k C := fun C => by
        rw [h60]
        exact ⟨fun y => ⟨fun _ => y.1, y.2⟩, fun y => ⟨y.1 gg, y.2⟩⟩
      refine p_if (Q := Q) (fun y => ?_) (fun y => ?_)
      · refine p_bd (Q := Q) (fun v64 h64 => ?_)
        refine p_bd2 (Q := Q) (fun s66 v69 h66 => ?_)
        have a := add_ok8 (s := s) (k := k) (u := v60) (m := v64) (Tl := cTS c s.1 nm k) k0 (by omega) (by omega) (by omega) (fun w => absurd w (t.mp y)) (fun _ => h64)
        rw [← h66] at a
        exact half s66 v69 _ a hA
      · refine p_bd (Q := Q) (fun v116 h116 => ?_)
        refine p_bd2 (Q := Q) (fun s118 v121 h118 => ?_)
        have a := add_ok8 (s := s) (k := k) (u := v60) (m := v116) (Tl := cTS c s.1 nm k) k0 (by omega) (by omega) (by omega) (fun _ => h116) (fun w => absurd (t.mpr w) y)
        rw [← h118] at a
        exact half s118 v121 _ a hA
  rw [hQ] at goal
  exact goal
/-- closed: from where a name is told -/
def clT (c : Nat) (F : Nat → Nat → Int) (nm : Int) (C : Int → Int → Prop) : Prop := (nm < 2 ∨ 6 ≤ nm → ∀ p, 0 ≤ p → p < F c 1 → C (40 + p) (F (c + 1) p.toNat)) ∧ ∀ k, 0 ≤ k → k < F c 0 → cAt c F nm k C
/-- t told a name last on some row of ways to u -/
def LT (c : Nat) (F : Nat → Nat → Int) (nm t u : Int) : Prop := ∀ C, clT c F nm C → C t u
theorem LT.cl {c : Nat} {F : Nat → Nat → Int} {nm : Int} : clT c F nm (LT c F nm) := by
  refine ⟨fun h p p0 p1 C hC => hC.1 h p p0 p1, fun k k0 k1 => ⟨fun g => ⟨fun z C hC => ((hC.2 k k0 k1).1 g).1 z, fun z t t0 h C hC => ((hC.2 k k0 k1).1 g).2 z t t0 (h C hC)⟩, fun g => ⟨fun z C hC => ((hC.2 k k0 k1).2 g).1 z, fun z t t0 h C hC => ((hC.2 k k0 k1).2 g).2 z t t0 (h C hC)⟩⟩⟩
/-- a teller is a statement, or the begin of a procedure -/
theorem LT.r {c : Nat} {F : Nat → Nat → Int} {nm t u : Int} (f : CFC c F) (h : LT c F nm t u) : (0 ≤ t ∧ t < F c 0) ∨ (40 ≤ t ∧ t < 40 + F c 1) := by
  refine h (fun t _ => (0 ≤ t ∧ t < F c 0) ∨ (40 ≤ t ∧ t < 40 + F c 1)) ⟨fun _ p p0 p1 => Or.inr ⟨by omega, by omega⟩, fun k k0 k1 => ⟨fun _ => ⟨fun _ => Or.inl ⟨k0, k1⟩, fun _ _ _ z => z⟩, fun _ => ⟨fun _ => Or.inl ⟨k0, k1⟩, fun _ _ _ z => z⟩⟩⟩
/-- what stands in the row of tellers comes from a state s0 -/
def FT0 (c : Nat) (nm : Int) (s0 s : ST) : Prop := EQL 62 s0 s ∧ (∀ t u, 0 ≤ t → 0 ≤ u → u < 45 → TLR s t u → LT c s0.1 nm t u) ∧ (nm < 2 ∨ 6 ≤ nm → ∀ p, 0 ≤ p → p < s0.1 c 1 → TLR s (40 + p) (s0.1 (c + 1) p.toNat))

