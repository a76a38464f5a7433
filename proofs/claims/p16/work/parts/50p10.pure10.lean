/-! a new item on both sides -/
theorem bd_r {α β : Type} (x : β) (K : β → α) : bd x K = K x := rfl
theorem bd2_r {α β γ : Type} (x : β × γ) (K : β → γ → α) : bd2 x K = K x.1 x.2 := rfl
noncomputable def cNw (s : ST) (c : Nat) (n m o pl kd pr l : Int) : ST := sI (sI (sI (sI (sI (sI (sI (sI (sI (sI (sI (sI (sI (sI (sI (sI (sI (sI (sI s c 0 (n + 1)) (c + 2) n.toNat kd) (c + 3) n.toNat pr) (c + 4) n.toNat (o - 1)) (c + 5) n.toNat pl) (c + 6) n.toNat (-1)) (c + 7) n.toNat (-2)) (c + 8) n.toNat (-1)) (c + 9) n.toNat (-1)) (c + 10) n.toNat (-1)) 36 0 (m + 1)) 37 m.toNat n) 38 m.toNat (-1)) 39 m.toNat (-1)) 40 m.toNat (-1)) 41 m.toNat (-1)) 38 m.toNat l) 46 (o - 1).toNat m) 34 2 (pl + 1)
noncomputable def cNt (s : ST) (m o pl l : Int) : ST := sI (sI (sI (sI (sI (sI (sI (sI (sI s 36 0 (m + 1)) 37 m.toNat (-1)) 38 m.toNat (-1)) 39 m.toNat (-1)) 40 m.toNat (-1)) 41 m.toNat (-1)) 38 m.toNat l) 46 (o - 1).toNat m) 34 2 (pl + 1)
theorem add_r {s : ST} {x m : Int} (hm : s.1 36 0 = m) (m1 : m < 128) : f_X5_add s x = (sI (sI (sI (sI (sI (sI s 36 0 (m + 1)) 37 m.toNat x) 38 m.toNat (-1)) 39 m.toNat (-1)) 40 m.toNat (-1)) 41 m.toNat (-1), m) := by
  subst hm
  unfold f_X5_add
  simp only [bd]
  rw [if_pos m1]
theorem addI_r {s : ST} {x m o : Int} (hm : s.1 36 0 = m) (ho : s.1 34 7 = o) (m1 : m < 128) (m0 : 0 ≤ m) : f_X3_addItem s x = (sI (sI (sI (sI (sI (sI (sI (sI s 36 0 (m + 1)) 37 m.toNat x) 38 m.toNat (-1)) 39 m.toNat (-1)) 40 m.toNat (-1)) 41 m.toNat (-1)) 38 m.toNat (s.1 46 (o - 1).toNat)) 46 (o - 1).toNat m, m) := by
  unfold f_X3_addItem
  rw [add_r hm m1]
  simp only [bd, bd2]
  rw [if_pos m0]
  have e : ∀ x y z w v u, (sI (sI (sI (sI (sI (sI s 36 0 x) 37 m.toNat y) 38 m.toNat z) 39 m.toNat w) 40 m.toNat v) 41 m.toNat u).1 34 = s.1 34 := fun _ _ _ _ _ _ => by rw [sI_nc (p := 34) (show 34 ≠ 41 by omega), sI_nc (p := 34) (show 34 ≠ 40 by omega), sI_nc (p := 34) (show 34 ≠ 39 by omega), sI_nc (p := 34) (show 34 ≠ 38 by omega), sI_nc (p := 34) (show 34 ≠ 37 by omega), sI_nc (p := 34) (show 34 ≠ 36 by omega)]
  have e46 : ∀ x y z w v u, (sI (sI (sI (sI (sI (sI s 36 0 x) 37 m.toNat y) 38 m.toNat z) 39 m.toNat w) 40 m.toNat v) 41 m.toNat u).1 46 = s.1 46 := fun _ _ _ _ _ _ => by rw [sI_nc (p := 46) (show 46 ≠ 41 by omega), sI_nc (p := 46) (show 46 ≠ 40 by omega), sI_nc (p := 46) (show 46 ≠ 39 by omega), sI_nc (p := 46) (show 46 ≠ 38 by omega), sI_nc (p := 46) (show 46 ≠ 37 by omega), sI_nc (p := 46) (show 46 ≠ 36 by omega)]
  rw [e, e46, ho]
theorem new_c {s : ST} {c : Nat} {n m o pl kd pr v : Int} (hc : c = 2 ∨ c = 18) (hn : s.1 c 0 = n) (hm : s.1 36 0 = m) (ho : s.1 34 7 = o) (hp : s.1 34 2 = pl) (hpr : s.1 c 1 = pr) (hcc : s.2.2 34 4 = c) (n1 : n < 40) (m1 : m < 128) (m0 : 0 ≤ m) (hk : f_X3_kindBegunBy s v = kd) (k1 : ¬ kd = -1) : f_X3_readStatement s v = (if ¬ kd = 0 then (if kd = 2 then f_X3_readCondition (cNw s c n m o pl kd (pr - 1) (s.1 46 (o - 1).toNat)) n m else (if ¬ kd = 3 then f_X3_take (sI (f_X3_readOperand (cNw s c n m o pl kd (pr - 1) (s.1 46 (o - 1).toNat))).1 (c + 9) n.toNat (f_X3_readOperand (cNw s c n m o pl kd (pr - 1) (s.1 46 (o - 1).toNat))).2) 59 else f_X3_readCondition (cNw s c n m o pl kd (pr - 1) (s.1 46 (o - 1).toNat)) n m)) else f_X3_readAssignment (cNw s c n m o pl kd (pr - 1) (s.1 46 (o - 1).toNat)) n (f_X3_nameOf (cNw s c n m o pl kd (pr - 1) (s.1 46 (o - 1).toNat)) v)) := by
  have e1 : f_X0_add s c kd (pr - 1) (o - 1) pl = (sI (sI (sI (sI (sI (sI (sI (sI (sI (sI s c 0 (n + 1)) (c + 2) n.toNat kd) (c + 3) n.toNat (pr - 1)) (c + 4) n.toNat (o - 1)) (c + 5) n.toNat pl) (c + 6) n.toNat (-1)) (c + 7) n.toNat (-2)) (c + 8) n.toNat (-1)) (c + 9) n.toNat (-1)) (c + 10) n.toNat (-1), n) := by
    obtain ⟨fin, kf⟩ : ∃ z, z = f_X0_add s c kd (pr - 1) (o - 1) pl := ⟨_, rfl⟩
    rewrite [← kf]
    unfold f_X0_add at kf
    have k1 := bd_e kf hn
    have k2 := bd_e k1 hn
    exact k2
  obtain ⟨X, hX⟩ : ∃ X, X = sI (sI (sI (sI (sI (sI (sI (sI (sI (sI s c 0 (n + 1)) (c + 2) n.toNat kd) (c + 3) n.toNat (pr - 1)) (c + 4) n.toNat (o - 1)) (c + 5) n.toNat pl) (c + 6) n.toNat (-1)) (c + 7) n.toNat (-2)) (c + 8) n.toNat (-1)) (c + 9) n.toNat (-1)) (c + 10) n.toNat (-1) := ⟨_, rfl⟩
  rewrite [← hX] at e1
  have x36 : X.1 36 0 = m := by rw [hX, sI_nc (p := 36) (show 36 ≠ (c + 10) by omega), sI_nc (p := 36) (show 36 ≠ (c + 9) by omega), sI_nc (p := 36) (show 36 ≠ (c + 8) by omega), sI_nc (p := 36) (show 36 ≠ (c + 7) by omega), sI_nc (p := 36) (show 36 ≠ (c + 6) by omega), sI_nc (p := 36) (show 36 ≠ (c + 5) by omega), sI_nc (p := 36) (show 36 ≠ (c + 4) by omega), sI_nc (p := 36) (show 36 ≠ (c + 3) by omega), sI_nc (p := 36) (show 36 ≠ (c + 2) by omega), sI_nc (p := 36) (show 36 ≠ c by omega)]; exact hm
  have x34 : X.1 34 7 = o := by rw [hX, sI_nc (p := 34) (show 34 ≠ (c + 10) by omega), sI_nc (p := 34) (show 34 ≠ (c + 9) by omega), sI_nc (p := 34) (show 34 ≠ (c + 8) by omega), sI_nc (p := 34) (show 34 ≠ (c + 7) by omega), sI_nc (p := 34) (show 34 ≠ (c + 6) by omega), sI_nc (p := 34) (show 34 ≠ (c + 5) by omega), sI_nc (p := 34) (show 34 ≠ (c + 4) by omega), sI_nc (p := 34) (show 34 ≠ (c + 3) by omega), sI_nc (p := 34) (show 34 ≠ (c + 2) by omega), sI_nc (p := 34) (show 34 ≠ c by omega)]; exact ho
  have x46 : X.1 46 = s.1 46 := by rw [hX, sI_nc (p := 46) (show 46 ≠ (c + 10) by omega), sI_nc (p := 46) (show 46 ≠ (c + 9) by omega), sI_nc (p := 46) (show 46 ≠ (c + 8) by omega), sI_nc (p := 46) (show 46 ≠ (c + 7) by omega), sI_nc (p := 46) (show 46 ≠ (c + 6) by omega), sI_nc (p := 46) (show 46 ≠ (c + 5) by omega), sI_nc (p := 46) (show 46 ≠ (c + 4) by omega), sI_nc (p := 46) (show 46 ≠ (c + 3) by omega), sI_nc (p := 46) (show 46 ≠ (c + 2) by omega), sI_nc (p := 46) (show 46 ≠ c by omega)]
  have xpl : X.1 34 2 = pl := by rw [hX, sI_nc (p := 34) (show 34 ≠ (c + 10) by omega), sI_nc (p := 34) (show 34 ≠ (c + 9) by omega), sI_nc (p := 34) (show 34 ≠ (c + 8) by omega), sI_nc (p := 34) (show 34 ≠ (c + 7) by omega), sI_nc (p := 34) (show 34 ≠ (c + 6) by omega), sI_nc (p := 34) (show 34 ≠ (c + 5) by omega), sI_nc (p := 34) (show 34 ≠ (c + 4) by omega), sI_nc (p := 34) (show 34 ≠ (c + 3) by omega), sI_nc (p := 34) (show 34 ≠ (c + 2) by omega), sI_nc (p := 34) (show 34 ≠ c by omega)]; exact hp
  have e2 := addI_r (x := n) x36 x34 m1 m0
  rewrite [x46] at e2
  obtain ⟨Z, hZ⟩ : ∃ Z, Z = sI (sI (sI (sI (sI (sI (sI (sI X 36 0 (m + 1)) 37 m.toNat n) 38 m.toNat (-1)) 39 m.toNat (-1)) 40 m.toNat (-1)) 41 m.toNat (-1)) 38 m.toNat (s.1 46 (o - 1).toNat)) 46 (o - 1).toNat m := ⟨_, rfl⟩
  rewrite [← hZ] at e2
  have zpl : Z.1 34 2 = pl := by rw [hZ, sI_nc (p := 34) (show 34 ≠ 46 by omega), sI_nc (p := 34) (show 34 ≠ 38 by omega), sI_nc (p := 34) (show 34 ≠ 41 by omega), sI_nc (p := 34) (show 34 ≠ 40 by omega), sI_nc (p := 34) (show 34 ≠ 39 by omega), sI_nc (p := 34) (show 34 ≠ 38 by omega), sI_nc (p := 34) (show 34 ≠ 37 by omega), sI_nc (p := 34) (show 34 ≠ 36 by omega)]; exact xpl
  obtain ⟨Y, hY⟩ : ∃ Y, Y = cNw s c n m o pl kd (pr - 1) (s.1 46 (o - 1).toNat) := ⟨_, rfl⟩
  have hZY : sI Z 34 2 (pl + 1) = Y := by
    rewrite [hY, hZ, hX]
    unfold cNw
    rfl
  have yc : Y.2.2 34 4 = c := by
    rewrite [← hZY]
    show Z.2.2 34 4 = c
    rewrite [hZ]
    show X.2.2 34 4 = c
    rewrite [hX]
    exact hcc
  rewrite [← hY]
  obtain ⟨fin, kf⟩ : ∃ z, z = f_X3_readStatement s v := ⟨_, rfl⟩
  rewrite [← kf]
  unfold f_X3_readStatement at kf
  have j1 := bd_e kf hp
  have j2 := bd_e j1 ho
  have j3 := bd_e j2 hk
  have j4 := if_t j3 k1
  have j5 := bd_e j4 hcc
  have j6 := bd_e j5 hn
  have j7 := if_t j6 n1
  have j8 := bd_e j7 hcc
  have j9 := bd_e j8 hcc
  have j10 := bd_e j9 hpr
  have j11 := bd2_e j10 e1.symm
  have j12 := bd2_e j11 e2.symm
  have j13 := bd_e j12 zpl
  have j14 := bd_e j13 hZY
  rewrite [j14]
  repeat first | rewrite [bd_r] | rewrite [bd2_r]
  rewrite [yc]
  rfl
theorem new_t {s : ST} {m o pl : Int} (hm : s.1 36 0 = m) (ho : s.1 34 7 = o) (hp : s.1 34 2 = pl) (m1 : m < 128) (m0 : 0 ≤ m) : f_X3_readTry s = f_X3_openBlock (cNt s m o pl (s.1 46 (o - 1).toNat)) m 0 := by
  have ep : (sI (sI (sI (sI (sI (sI (sI (sI s 36 0 (m + 1)) 37 m.toNat (-1)) 38 m.toNat (-1)) 39 m.toNat (-1)) 40 m.toNat (-1)) 41 m.toNat (-1)) 38 m.toNat (s.1 46 (o - 1).toNat)) 46 (o - 1).toNat m).1 34 2 = pl := by rw [sI_nc (p := 34) (show 34 ≠ 46 by omega), sI_nc (p := 34) (show 34 ≠ 38 by omega), sI_nc (p := 34) (show 34 ≠ 41 by omega), sI_nc (p := 34) (show 34 ≠ 40 by omega), sI_nc (p := 34) (show 34 ≠ 39 by omega), sI_nc (p := 34) (show 34 ≠ 38 by omega), sI_nc (p := 34) (show 34 ≠ 37 by omega), sI_nc (p := 34) (show 34 ≠ 36 by omega)]; exact hp
  unfold f_X3_readTry
  rewrite [addI_r hm ho m1 m0]
  unfold bd2 bd
  dsimp only
  rewrite [ep]
  unfold cNt
  rfl
noncomputable def mC0 (t : ST) (S m p d at1 nm its b : Int) : ST := sI (sI (sI (sI (sI (sI (sI (sI (sI (sI (sI (sI (sI (sI (sI t 73 S.toNat (m + 1)) 77 (130 * S + m).toNat its) 78 (130 * S + m).toNat (-1)) 79 (130 * S + m).toNat p) 80 (130 * S + m).toNat d) 81 (130 * S + m).toNat at1) 82 (130 * S + m).toNat nm) 83 (130 * S + m).toNat 0) 84 (130 * S + m).toNat (-2)) 85 (130 * S + m).toNat (-1)) 86 (130 * S + m).toNat (-1)) 87 (130 * S + m).toNat (-1)) 88 (130 * S + m).toNat b) 89 (2 * (130 * S + m)).toNat 0) 89 (2 * (130 * S + m) + 1).toNat 0
noncomputable def mC1 (t : ST) (S n m p d at1 nm its b : Int) : ST := sI (sI (sI (mC0 t S m p d at1 nm its b) 78 (130 * S + m).toNat n) 93 (40 * S + n).toNat (130 * S + m)) 75 S.toNat (n + 1)
noncomputable def mCf (t : ST) (S m at1 b : Int) : ST := sI (sI (sI t 90 b.toNat (130 * S + m)) 91 b.toNat (130 * S + m)) 70 4 (at1 + 1)
noncomputable def mCn (t : ST) (S m at1 b l : Int) : ST := sI (sI (sI t 87 l.toNat (130 * S + m)) 91 b.toNat (130 * S + m)) 70 4 (at1 + 1)
noncomputable def mCl (t : ST) (S m at1 b f l : Int) : ST := if ¬ f = -1 then mCn t S m at1 b l else mCf t S m at1 b
theorem new_m (gT gY : ST → Int → Int → Int → ST) {t : ST} {S n m p d nm its b l f at1 : Int} (hS : t.1 70 6 = S) (hm : t.1 73 S.toNat = m) (hn : t.1 75 S.toNat = n) (hg : t.1 70 5 = 0) (hl : t.1 91 b.toNat = l) (hf : t.1 90 b.toNat = f) (ha : t.1 70 4 = at1) : f_X8_readItem_b_ gT gY 14 70 b p d nm its t = (if its = 6 then gY (mCl (mC0 t S m p d at1 nm its b) S m at1 b f l) (130 * S + m) p d else (if ¬ its = 0 then (if its = 2 then gT (mCl (mC1 t S n m p d at1 nm its b) S m at1 b f l) (130 * S + m) p d else (if ¬ its = 3 then f_X8_readEnd (mCl (mC1 t S n m p d at1 nm its b) S m at1 b f l) (130 * S + m) else gT (mCl (mC1 t S n m p d at1 nm its b) S m at1 b f l) (130 * S + m) p d)) else f_X8_readSet (mCl (mC1 t S n m p d at1 nm its b) S m at1 b f l) (130 * S + m) nm)) := by
  rw [f_X8_readItem_b_]
  simp only [bd, bd2]
  rw [good_1 hg, if_pos (show ¬ (1 : Int) = 0 by omega), hS, hm, ha]
  obtain ⟨X, hX⟩ : ∃ X, X = mC0 t S m p d at1 nm its b := ⟨_, rfl⟩
  rw [mC0] at hX
  have x90 : X.1 90 b.toNat = f := by rw [hX, sI_nc (p := 90) (show 90 ≠ 89 by omega), sI_nc (p := 90) (show 90 ≠ 89 by omega), sI_nc (p := 90) (show 90 ≠ 88 by omega), sI_nc (p := 90) (show 90 ≠ 87 by omega), sI_nc (p := 90) (show 90 ≠ 86 by omega), sI_nc (p := 90) (show 90 ≠ 85 by omega), sI_nc (p := 90) (show 90 ≠ 84 by omega), sI_nc (p := 90) (show 90 ≠ 83 by omega), sI_nc (p := 90) (show 90 ≠ 82 by omega), sI_nc (p := 90) (show 90 ≠ 81 by omega), sI_nc (p := 90) (show 90 ≠ 80 by omega), sI_nc (p := 90) (show 90 ≠ 79 by omega), sI_nc (p := 90) (show 90 ≠ 78 by omega), sI_nc (p := 90) (show 90 ≠ 77 by omega), sI_nc (p := 90) (show 90 ≠ 73 by omega)]; exact hf
  have x91 : X.1 91 b.toNat = l := by rw [hX, sI_nc (p := 91) (show 91 ≠ 89 by omega), sI_nc (p := 91) (show 91 ≠ 89 by omega), sI_nc (p := 91) (show 91 ≠ 88 by omega), sI_nc (p := 91) (show 91 ≠ 87 by omega), sI_nc (p := 91) (show 91 ≠ 86 by omega), sI_nc (p := 91) (show 91 ≠ 85 by omega), sI_nc (p := 91) (show 91 ≠ 84 by omega), sI_nc (p := 91) (show 91 ≠ 83 by omega), sI_nc (p := 91) (show 91 ≠ 82 by omega), sI_nc (p := 91) (show 91 ≠ 81 by omega), sI_nc (p := 91) (show 91 ≠ 80 by omega), sI_nc (p := 91) (show 91 ≠ 79 by omega), sI_nc (p := 91) (show 91 ≠ 78 by omega), sI_nc (p := 91) (show 91 ≠ 77 by omega), sI_nc (p := 91) (show 91 ≠ 73 by omega)]; exact hl
  have x75 : X.1 75 S.toNat = n := by rw [hX, sI_nc (p := 75) (show 75 ≠ 89 by omega), sI_nc (p := 75) (show 75 ≠ 89 by omega), sI_nc (p := 75) (show 75 ≠ 88 by omega), sI_nc (p := 75) (show 75 ≠ 87 by omega), sI_nc (p := 75) (show 75 ≠ 86 by omega), sI_nc (p := 75) (show 75 ≠ 85 by omega), sI_nc (p := 75) (show 75 ≠ 84 by omega), sI_nc (p := 75) (show 75 ≠ 83 by omega), sI_nc (p := 75) (show 75 ≠ 82 by omega), sI_nc (p := 75) (show 75 ≠ 81 by omega), sI_nc (p := 75) (show 75 ≠ 80 by omega), sI_nc (p := 75) (show 75 ≠ 79 by omega), sI_nc (p := 75) (show 75 ≠ 78 by omega), sI_nc (p := 75) (show 75 ≠ 77 by omega), sI_nc (p := 75) (show 75 ≠ 73 by omega)]; exact hn
  rw [← hX]
  unfold mCl mCn mCf mC1
  rw [mC0, ← hX]
  have y75 : ∀ v, (sI X 78 (130 * S + m).toNat v).1 75 = X.1 75 := fun _ => sI_nc (by omega)
  have z75 : ∀ v w, (sI (sI X 78 (130 * S + m).toNat v) 93 (40 * S + n).toNat w).1 75 = X.1 75 := fun _ _ => by rw [sI_nc (by omega), sI_nc (by omega)]
  have w90 : ∀ v w u, (sI (sI (sI X 78 (130 * S + m).toNat v) 93 (40 * S + n).toNat w) 75 S.toNat u).1 90 = X.1 90 := fun _ _ _ => by rw [sI_nc (by omega), sI_nc (by omega), sI_nc (by omega)]
  have w91 : ∀ v w u, (sI (sI (sI X 78 (130 * S + m).toNat v) 93 (40 * S + n).toNat w) 75 S.toNat u).1 91 = X.1 91 := fun _ _ _ => by rw [sI_nc (by omega), sI_nc (by omega), sI_nc (by omega)]
  by_cases h6 : its = 6
  · rw [if_pos h6, if_pos h6, x90, x91]
    by_cases hff : f = -1
    · rw [if_neg (fun z => z hff), if_neg (fun z => z hff)]
    · rw [if_pos hff, if_pos hff]
  · rw [if_neg h6, if_neg h6, x75, y75, x75, z75, x75, w90, x90, w91, x91]
    by_cases hff : f = -1
    · have hg2 : ¬ ¬ f = -1 := fun z => z hff
      rw [if_neg hg2, if_neg hg2]
    · rw [if_pos hff, if_pos hff]

