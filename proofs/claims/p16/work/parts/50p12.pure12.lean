/-! a block is opened on both sides -/
noncomputable def cOp (s : ST) (p o it sec : Int) : ST := sI (sI (sI (sI (sI s 34 2 p) 45 o.toNat it) 46 o.toNat (-1)) 47 o.toNat sec) 34 7 (o + 1)
noncomputable def mOp (t : ST) (S q p i : Int) : ST := sI (sI (sI (sI (sI t 74 S.toNat (q + 1)) 90 (280 * S + q).toNat (-1)) 91 (280 * S + q).toNat (-1)) 92 (280 * S + q).toNat i) 70 4 p
theorem opn_g {s : ST} {p o it sec : Int} (e : f_X3_look s = (sI s 34 2 p, 123)) (ho : s.1 34 7 = o) (h6 : o ≤ 6) : f_X3_openBlock s it sec = cOp (sI s 34 2 p) (p + 1) o it sec := by
  obtain ⟨fin, kf⟩ : ∃ z, z = f_X3_openBlock s it sec := ⟨_, rfl⟩
  rewrite [← kf]
  unfold f_X3_openBlock at kf
  have j1 := bd2_e kf e.symm
  have j2 := bd_e j1 (show (sI s 34 2 p).1 34 2 = p from sI_eq _ _ _ _)
  have j3 := bd_e j2 (show (sI s 34 2 p).1 34 7 = o from (sI_ne (by omega)).trans ho)
  have j4 := if_t j3 rfl
  have j5 := if_t j4 h6
  exact j5
theorem opn_b1 {s : ST} {p v it sec : Int} (e : f_X3_look s = (sI s 34 2 p, v)) (hv : ¬ v = 123) : f_X3_openBlock s it sec = f_X3_blame (sI s 34 2 p) 1 p := by
  obtain ⟨fin, kf⟩ : ∃ z, z = f_X3_openBlock s it sec := ⟨_, rfl⟩
  rewrite [← kf]
  unfold f_X3_openBlock at kf
  have j1 := bd2_e kf e.symm
  have j2 := bd_e j1 (show (sI s 34 2 p).1 34 2 = p from sI_eq _ _ _ _)
  have j3 := bd_e j2 rfl
  have j4 := if_f j3 hv
  rewrite [bd_r] at j4
  exact j4
theorem opn_b4 {s : ST} {p o it sec : Int} (e : f_X3_look s = (sI s 34 2 p, 123)) (ho : s.1 34 7 = o) (h6 : ¬ o ≤ 6) : f_X3_openBlock s it sec = f_X3_blame (sI s 34 2 p) 4 p := by
  obtain ⟨fin, kf⟩ : ∃ z, z = f_X3_openBlock s it sec := ⟨_, rfl⟩
  rewrite [← kf]
  unfold f_X3_openBlock at kf
  have j1 := bd2_e kf e.symm
  have j2 := bd_e j1 (show (sI s 34 2 p).1 34 2 = p from sI_eq _ _ _ _)
  have j3 := bd_e j2 (show (sI s 34 2 p).1 34 7 = o from (sI_ne (by omega)).trans ho)
  have j4 := if_t j3 rfl
  have j5 := if_f j4 h6
  rewrite [bd_r] at j5
  exact j5
theorem newB_g {t : ST} {p d i S q : Int} (h5 : t.1 70 5 = 0) (e : f_X8_here t = (sI t 70 4 p, 123)) (hd : d ≤ 6) (hS : t.1 70 6 = S) (hq : t.1 74 S.toNat = q) : f_X8_newBlock t i d = (mOp (sI t 70 4 p) S q (p + 1) i, 280 * S + q) := by
  obtain ⟨fin, kf⟩ : ∃ z, z = f_X8_newBlock t i d := ⟨_, rfl⟩
  rewrite [← kf]
  unfold f_X8_newBlock at kf
  have g : f_X8_isGood (sI t 70 4 p) = 1 := good_1 ((sI_ne (by omega)).trans h5)
  have j1 := bd_e kf (good_1 h5)
  have j2 := if_f j1 (show ¬ (1 : Int) = 0 by omega)
  have j3 := bd2_e j2 e.symm
  have j4 := bd_e j3 (show (sI t 70 4 p).1 70 4 = p from sI_eq _ _ _ _)
  have j5 := if_t j4 rfl
  have j6 := bd_e j5 g
  have j7 := if_f j6 (show ¬ (1 : Int) = 0 by omega)
  have j8 := if_t j7 hd
  have j9 := bd_e j8 g
  have j10 := if_t j9 (show ¬ (1 : Int) = 0 by omega)
  have j11 := bd_e j10 (show (sI t 70 4 p).1 70 6 = S from (sI_ne (by omega)).trans hS)
  have q1 : (sI t 70 4 p).1 74 S.toNat = q := (sI_ne (by omega)).trans hq
  have j12 := bd_e j11 q1
  have j13 := bd_e j12 q1
  exact j13
theorem newB_b1 {t : ST} {p v d i : Int} (h5 : t.1 70 5 = 0) (hp : 0 ≤ p) (e : f_X8_here t = (sI t 70 4 p, v)) (hv : ¬ v = 123) : f_X8_newBlock t i d = (f_X8_fails (sI t 70 4 p) 1, 0) := by
  obtain ⟨fin, kf⟩ : ∃ z, z = f_X8_newBlock t i d := ⟨_, rfl⟩
  rewrite [← kf]
  unfold f_X8_newBlock at kf
  have h5' : (sI t 70 4 p).1 70 5 = 0 := (sI_ne (by omega)).trans h5
  have g : f_X8_isGood (f_X8_fails (sI t 70 4 p) 1) = 0 := good_0 (by rw [fails_0 h5', sI_eq, sI_eq]; omega)
  have j1 := bd_e kf (good_1 h5)
  have j2 := if_f j1 (show ¬ (1 : Int) = 0 by omega)
  have j3 := bd2_e j2 e.symm
  have j4 := bd_e j3 (show (sI t 70 4 p).1 70 4 = p from sI_eq _ _ _ _)
  have j5 := if_f j4 hv
  have j6 := bd_e j5 rfl
  have j7 := bd_e j6 rfl
  have j8 := bd_e j7 g
  have j9 := if_t j8 rfl
  have j10 := bd_e j9 g
  have j11 := if_f j10 (fun z => z rfl)
  exact j11
theorem newB_b4 {t : ST} {p d i : Int} (h5 : t.1 70 5 = 0) (hp : 0 ≤ p) (e : f_X8_here t = (sI t 70 4 p, 123)) (hd : ¬ d ≤ 6) : f_X8_newBlock t i d = (f_X8_fails (sI t 70 4 p) 4, 0) := by
  obtain ⟨fin, kf⟩ : ∃ z, z = f_X8_newBlock t i d := ⟨_, rfl⟩
  rewrite [← kf]
  unfold f_X8_newBlock at kf
  have h5' : (sI t 70 4 p).1 70 5 = 0 := (sI_ne (by omega)).trans h5
  have g1 : f_X8_isGood (sI t 70 4 p) = 1 := good_1 h5'
  have g : f_X8_isGood (f_X8_fails (sI t 70 4 p) 4) = 0 := good_0 (by rw [fails_0 h5', sI_eq, sI_eq]; omega)
  have j1 := bd_e kf (good_1 h5)
  have j2 := if_f j1 (show ¬ (1 : Int) = 0 by omega)
  have j3 := bd2_e j2 e.symm
  have j4 := bd_e j3 (show (sI t 70 4 p).1 70 4 = p from sI_eq _ _ _ _)
  have j5 := if_t j4 rfl
  have j6 := bd_e j5 g1
  have j7 := if_f j6 (show ¬ (1 : Int) = 0 by omega)
  have j8 := if_f j7 hd
  have j9 := bd_e j8 rfl
  have j10 := bd_e j9 rfl
  have j11 := bd_e j10 g
  have j12 := if_f j11 (fun z => z rfl)
  exact j12
/-- of statement k: its operands; only sets and calls have a name -/
def OPS (c : Nat) (S : Int) (s t : ST) : Prop := ∀ k, 0 ≤ k → k < gI t 75 S → OE c k (gI t 93 (40 * S + k)) s t ∧ (gI t 77 (gI t 93 (40 * S + k)) = 0 ∨ gI t 77 (gI t 93 (40 * S + k)) = 1 ∨ gI t 82 (gI t 93 (40 * S + k)) = -1)
theorem OPS.keep {c : Nat} {S : Int} {s t s' t' : ST} (h : OPS c S s t) (e75 : gI t' 75 S = gI t 75 S) (e93 : gI t' 93 = gI t 93) (e89 : gI t' 89 = gI t 89) (e83 : gI t' 83 = gI t 83) (e77 : gI t' 77 = gI t 77) (e82 : gI t' 82 = gI t 82) (e8 : gI s' (c + 8) = gI s (c + 8)) (e9 : gI s' (c + 9) = gI s (c + 9)) (e10 : gI s' (c + 10) = gI s (c + 10)) : OPS c S s' t' := by
  intro k k0 k1
  rw [e75] at k1
  have q := h k k0 k1
  show (OV (gI s' (c + 9) k) (gI t' 89 (2 * gI t' 93 (40 * S + k))) ∧ OV (gI s' (c + 10) k) (gI t' 89 (2 * gI t' 93 (40 * S + k) + 1)) ∧ SV (gI s' (c + 8) k) (gI t' 83 (gI t' 93 (40 * S + k)))) ∧ _
  rw [e93, e89, e83, e77, e82, e8, e9, e10]
  exact q
theorem OPS.kI {c p j q i : Nat} {S a b : Int} {s t : ST} (hc : c = 2 ∨ c = 18) (h : OPS c S s t) (hp : p < 8 ∨ 33 < p) (hq : q ≠ 75 ∧ q ≠ 93 ∧ q ≠ 89 ∧ q ≠ 83 ∧ q ≠ 77 ∧ q ≠ 82) : OPS c S (sI s p j a) (sI t q i b) :=
  h.keep (gI_nc (by omega)) (funext fun _ => gI_nc (by omega)) (funext fun _ => gI_nc (by omega)) (funext fun _ => gI_nc (by omega)) (funext fun _ => gI_nc (by omega)) (funext fun _ => gI_nc (by omega)) (funext fun _ => gI_nc (by omega)) (funext fun _ => gI_nc (by omega)) (funext fun _ => gI_nc (by omega))
theorem OPS.kC {c p j : Nat} {S a : Int} {s t : ST} (hc : c = 2 ∨ c = 18) (h : OPS c S s t) (hp : p < 8 ∨ 33 < p ∨ p = c ∨ p = c + 1) : OPS c S (sI s p j a) t :=
  h.keep rfl rfl rfl rfl rfl rfl (funext fun _ => gI_nc (by omega)) (funext fun _ => gI_nc (by omega)) (funext fun _ => gI_nc (by omega))
theorem OPS.kM {c q i : Nat} {S b : Int} {s t : ST} (h : OPS c S s t) (hq : q ≠ 75 ∧ q ≠ 93 ∧ q ≠ 89 ∧ q ≠ 83 ∧ q ≠ 77 ∧ q ≠ 82) : OPS c S s (sI t q i b) :=
  h.keep (gI_nc (by omega)) (funext fun _ => gI_nc (by omega)) (funext fun _ => gI_nc (by omega)) (funext fun _ => gI_nc (by omega)) (funext fun _ => gI_nc (by omega)) (funext fun _ => gI_nc (by omega)) rfl rfl rfl
/-- the operands of one statement were read -/
theorem OPS.gd {c : Nat} {S d pc n i : Int} {B : Int → Int} {s0 t0 s t : ST} (h : OPS c S s0 t0) (hr : RR c S d pc B s0 t0) (n0 : 0 ≤ n) (n1 : n < gI t0 75 S) (hi : i = gI t0 93 (40 * S + n)) (S0 : 0 ≤ S) (g : GD c n i s0 t0 s t) : OPS c S s t := by
  obtain ⟨-, -, -, -, a5, a6⟩ := g
  intro k k0 k1
  have e75 : gI t 75 S = gI t0 75 S := a5 75 _ (by omega) (by omega) (by omega)
  have e93 : gI t 93 (40 * S + k) = gI t0 93 (40 * S + k) := a5 93 _ (by omega) (by omega) (by omega)
  have e77 : ∀ x, gI t 77 x = gI t0 77 x := fun x => a5 77 _ (by omega) (by omega) (by omega)
  have e82 : ∀ x, gI t 82 x = gI t0 82 x := fun x => a5 82 _ (by omega) (by omega) (by omega)
  rw [e75] at k1
  rw [e93, e77, e82]
  have qk := hr.2.1 k k0 k1
  have qn := hr.2.1 n n0 n1
  refine ⟨a6 k _ k0 (by have := qk.1.1; omega) ⟨fun z => by rw [z]; exact hi.symm, fun z => ?_⟩ (h k k0 k1).1, (h k k0 k1).2⟩
  have q1 := qk.2.1
  have q2 := qn.2.1
  rw [z, hi, q2] at q1
  exact q1.symm
def SM (c : Nat) (S d pc : Int) (B : Int → Int) (s t : ST) : Prop := PS s t ∧ RR c S d pc B s t ∧ s.2.2 34 4 = c ∧ t.1 70 6 = S ∧ OPS c S s t
theorem RR.mv {c : Nat} {S d pc p p' : Int} {B : Int → Int} {s t : ST} (hc : c = 2 ∨ c = 18) (h : RR c S d pc B s t) : RR c S d pc B (sI s 34 2 p) (sI t 70 4 p') := RR.congr hc h (fun _ _ h1 _ _ _ => sI_ne h1) (fun _ _ h1 _ _ => sI_ne h1)
theorem SM.mv {c : Nat} {S d pc p : Int} {B : Int → Int} {s t : ST} (hc : c = 2 ∨ c = 18) (h : SM c S d pc B s t) (h0 : 0 ≤ p) (h1 : p ≤ s.1 34 1) : SM c S d pc B (sI s 34 2 p) (sI t 70 4 p) := ⟨h.1.mv h0 h1, RR.mv hc h.2.1, h.2.2.1, (sI_ne (by omega)).trans h.2.2.2.1, h.2.2.2.2.kI hc (by omega) (by omega)⟩
theorem cOp_o {s : ST} {p o it sec : Int} {q : Nat} (h1 : q ≠ 34) (h2 : q ≠ 45) (h3 : q ≠ 46) (h4 : q ≠ 47) : gI (cOp s p o it sec) q = gI s q := by
  funext j
  unfold cOp
  rw [gI_nc h1, gI_nc h4, gI_nc h3, gI_nc h2, gI_nc h1]
theorem mOp_o {t : ST} {S q p i : Int} {a : Nat} (h1 : a ≠ 70) (h2 : a ≠ 74) (h3 : a ≠ 90) (h4 : a ≠ 91) (h5 : a ≠ 92) : gI (mOp t S q p i) a = gI t a := by
  funext j
  unfold mOp
  rw [gI_nc h1, gI_nc h5, gI_nc h4, gI_nc h3, gI_nc h2]
theorem cOp_45 {s : ST} {p o it sec : Int} (o0 : 0 ≤ o) : UP (gI s 45) (gI (cOp s p o it sec) 45) o := by
  intro j h0 h1
  unfold cOp
  rw [gI_nc (show 45 ≠ 34 by decide), gI_nc (show 45 ≠ 47 by decide), gI_nc (show 45 ≠ 46 by decide), gI_ni h0 o0 h1, gI_nc (show 45 ≠ 34 by decide)]
theorem cOp_46 {s : ST} {p o it sec : Int} (o0 : 0 ≤ o) : UP (gI s 46) (gI (cOp s p o it sec) 46) o := by
  intro j h0 h1
  unfold cOp
  rw [gI_nc (show 46 ≠ 34 by decide), gI_nc (show 46 ≠ 47 by decide), gI_ni h0 o0 h1, gI_nc (show 46 ≠ 45 by decide), gI_nc (show 46 ≠ 34 by decide)]
theorem cOp_47 {s : ST} {p o it sec : Int} (o0 : 0 ≤ o) : UP (gI s 47) (gI (cOp s p o it sec) 47) o := by
  intro j h0 h1
  unfold cOp
  rw [gI_nc (show 47 ≠ 34 by decide), gI_ni h0 o0 h1, gI_nc (show 47 ≠ 46 by decide), gI_nc (show 47 ≠ 45 by decide), gI_nc (show 47 ≠ 34 by decide)]
theorem cOp_v {s : ST} {p o it sec : Int} : gI (cOp s p o it sec) 45 o = it ∧ gI (cOp s p o it sec) 46 o = -1 ∧ gI (cOp s p o it sec) 47 o = sec ∧ (cOp s p o it sec).1 34 7 = o + 1 ∧ (cOp s p o it sec).1 34 2 = p ∧ (cOp s p o it sec).1 34 1 = s.1 34 1 ∧ (cOp s p o it sec).1 34 3 = s.1 34 3 ∧ (cOp s p o it sec).1 1 = s.1 1 ∧ (cOp s p o it sec).2 = s.2 := by
  unfold cOp
  refine ⟨?_, ?_, ?_, sI_eq _ _ _ _, ?_, ?_, ?_, ?_, rfl⟩
  · rw [gI_nc (show 45 ≠ 34 by decide), gI_nc (show 45 ≠ 47 by decide), gI_nc (show 45 ≠ 46 by decide), gI_eq]
  · rw [gI_nc (show 46 ≠ 34 by decide), gI_nc (show 46 ≠ 47 by decide), gI_eq]
  · rw [gI_nc (show 47 ≠ 34 by decide), gI_eq]
  · rw [sI_ne (p := 34) (q := 2) (by omega), sI_nc (p := 34) (show 34 ≠ 47 by decide), sI_nc (p := 34) (show 34 ≠ 46 by decide), sI_nc (p := 34) (show 34 ≠ 45 by decide), sI_eq]
  · rw [sI_ne (p := 34) (q := 1) (by omega), sI_nc (p := 34) (show 34 ≠ 47 by decide), sI_nc (p := 34) (show 34 ≠ 46 by decide), sI_nc (p := 34) (show 34 ≠ 45 by decide), sI_ne (p := 34) (q := 1) (by omega)]
  · rw [sI_ne (p := 34) (q := 3) (by omega), sI_nc (p := 34) (show 34 ≠ 47 by decide), sI_nc (p := 34) (show 34 ≠ 46 by decide), sI_nc (p := 34) (show 34 ≠ 45 by decide), sI_ne (p := 34) (q := 3) (by omega)]
  · rw [sI_nc (p := 1) (show 1 ≠ 34 by decide), sI_nc (p := 1) (show 1 ≠ 47 by decide), sI_nc (p := 1) (show 1 ≠ 46 by decide), sI_nc (p := 1) (show 1 ≠ 45 by decide), sI_nc (p := 1) (show 1 ≠ 34 by decide)]
theorem mOp_90 {t : ST} {S q p i : Int} (b0 : 0 ≤ 280 * S + q) : UP (gI t 90) (gI (mOp t S q p i) 90) (280 * S + q) := by
  intro j h0 h1
  unfold mOp
  rw [gI_nc (show 90 ≠ 70 by decide), gI_nc (show 90 ≠ 92 by decide), gI_nc (show 90 ≠ 91 by decide), gI_ni h0 b0 h1, gI_nc (show 90 ≠ 74 by decide)]
theorem mOp_91 {t : ST} {S q p i : Int} (b0 : 0 ≤ 280 * S + q) : UP (gI t 91) (gI (mOp t S q p i) 91) (280 * S + q) := by
  intro j h0 h1
  unfold mOp
  rw [gI_nc (show 91 ≠ 70 by decide), gI_nc (show 91 ≠ 92 by decide), gI_ni h0 b0 h1, gI_nc (show 91 ≠ 90 by decide), gI_nc (show 91 ≠ 74 by decide)]
theorem mOp_92 {t : ST} {S q p i : Int} (b0 : 0 ≤ 280 * S + q) : UP (gI t 92) (gI (mOp t S q p i) 92) (280 * S + q) := by
  intro j h0 h1
  unfold mOp
  rw [gI_nc (show 92 ≠ 70 by decide), gI_ni h0 b0 h1, gI_nc (show 92 ≠ 91 by decide), gI_nc (show 92 ≠ 90 by decide), gI_nc (show 92 ≠ 74 by decide)]
theorem mOp_v {t : ST} {S q p i : Int} : gI (mOp t S q p i) 74 S = q + 1 ∧ gI (mOp t S q p i) 90 (280 * S + q) = -1 ∧ gI (mOp t S q p i) 91 (280 * S + q) = -1 ∧ gI (mOp t S q p i) 92 (280 * S + q) = i ∧ (mOp t S q p i).1 70 4 = p ∧ (mOp t S q p i).1 70 3 = t.1 70 3 ∧ (mOp t S q p i).1 70 5 = t.1 70 5 ∧ (mOp t S q p i).1 70 6 = t.1 70 6 ∧ (mOp t S q p i).1 72 = t.1 72 := by
  unfold mOp
  have k : ∀ j, j ≠ 4 → (sI (sI (sI (sI (sI t 74 S.toNat (q + 1)) 90 (280 * S + q).toNat (-1)) 91 (280 * S + q).toNat (-1)) 92 (280 * S + q).toNat i) 70 4 p).1 70 j = t.1 70 j := fun j hj => by
    rw [sI_ne (p := 70) (q := j) (by omega), sI_nc (p := 70) (show 70 ≠ 92 by decide), sI_nc (p := 70) (show 70 ≠ 91 by decide), sI_nc (p := 70) (show 70 ≠ 90 by decide), sI_nc (p := 70) (show 70 ≠ 74 by decide)]
  refine ⟨?_, ?_, ?_, ?_, sI_eq _ _ _ _, k 3 (by decide), k 5 (by decide), k 6 (by decide), ?_⟩
  · rw [gI_nc (show 74 ≠ 70 by decide), gI_nc (show 74 ≠ 92 by decide), gI_nc (show 74 ≠ 91 by decide), gI_nc (show 74 ≠ 90 by decide), gI_eq]
  · rw [gI_nc (show 90 ≠ 70 by decide), gI_nc (show 90 ≠ 92 by decide), gI_nc (show 90 ≠ 91 by decide), gI_eq]
  · rw [gI_nc (show 91 ≠ 70 by decide), gI_nc (show 91 ≠ 92 by decide), gI_eq]
  · rw [gI_nc (show 92 ≠ 70 by decide), gI_eq]
  · rw [sI_nc (p := 72) (show 72 ≠ 70 by decide), sI_nc (p := 72) (show 72 ≠ 92 by decide), sI_nc (p := 72) (show 72 ≠ 91 by decide), sI_nc (p := 72) (show 72 ≠ 90 by decide), sI_nc (p := 72) (show 72 ≠ 74 by decide)]
/-- a block is opened, or both blame the same -/
theorem SM.opn {c : Nat} {S d pc i it sec : Int} {B : Int → Int} {s t : ST} (hc : c = 2 ∨ c = 18) (S0 : 0 ≤ S) (d0 : 0 ≤ d) (h : SM c S d pc B s t) (hi : (i = -1 ∧ gI t 76 S = pc + 1 ∧ 0 ≤ pc) ∨ (CJ t S i ∧ (gI t 79 i = pc ∧ gI t 86 i = -1 ∧ (gI t 77 i = 2 ∨ gI t 77 i = 6 ∨ (gI t 77 i = 3 ∧ gI t 85 i = -1))) ∧ 1 ≤ d)) (ho : ∀ e, 0 ≤ e → e < d → gI t 92 (B e) < i) (hit : it = if i = -1 then -1 else i - 130 * S) (hsec : sec = if i = -1 then 0 else if gI t 85 i = -1 then 0 else 1) :
    BQ c (f_X3_openBlock s it sec) (f_X8_newBlock t i d).1 ∨ (∃ p q, d ≤ 6 ∧ s.1 34 2 < p ∧ p ≤ s.1 34 1 ∧ q = gI t 74 S ∧ f_X3_openBlock s it sec = cOp (sI s 34 2 (p - 1)) p d it sec ∧ f_X8_newBlock t i d = (mOp (sI t 70 4 (p - 1)) S q p i, 280 * S + q) ∧ SM c S (d + 1) pc (fun e => if e = d then 280 * S + q else B e) (f_X3_openBlock s it sec) (f_X8_newBlock t i d).1) := by
  obtain ⟨hp, hr, hcc, hS, hO⟩ := h
  obtain ⟨p, v, e1, e2, h1, h2, h3, -, -⟩ := look_r hp
  have p0 : 0 ≤ p := by have := hp.2.2.1; omega
  have h5 := hp.2.2.2.2.2.2.2
  have hm := hp.mv p0 h2
  have hop : s.1 34 7 = d := hr.2.2.2.2.2.2.2
  have bq : ∀ k, 1 ≤ k → BQ c (f_X3_blame (sI s 34 2 p) k p) (f_X8_fails (sI t 70 4 p) k) := fun k hk => by
    refine BD.bq (BD.mk2 hm hk (sI_eq _ _ _ _).symm) ?_
    exact (BN.bl (b := 0) (s := sI s 34 2 p) ⟨fun z => absurd rfl z, hcc⟩).2
  by_cases hv : v = 123
  · rw [hv] at e1 e2 h3
    by_cases h6 : d ≤ 6
    · right
      obtain ⟨q, hq⟩ : ∃ q, q = gI t 74 S := ⟨_, rfl⟩
      have x1 := opn_g (it := it) (sec := sec) e1 hop h6
      have x2 := newB_g (i := i) h5 e2 h6 hS hq.symm
      refine ⟨p + 1, q, h6, by omega, by omega, hq, ?_, ?_, ?_⟩
      · rw [x1, show p + 1 - 1 = p by omega]
      · rw [x2, show p + 1 - 1 = p by omega]
      · rw [x1, x2]
        have rm := RR.mv (p := p) (p' := p) hc hr
        have k1 := hr.1
        have q0 : 0 ≤ q := by have := k1.2.2.2.2.2.2.1; omega
        have g7 : ∀ a, a ≠ 70 → gI (sI t 70 4 p) a = gI t a := fun a ha => funext fun j => gI_nc ha
        have cv := cOp_v (s := sI s 34 2 p) (p := p + 1) (o := d) (it := it) (sec := sec)
        have mv := mOp_v (t := sI t 70 4 p) (S := S) (q := q) (p := p + 1) (i := i)
        refine ⟨?_, ?_, ?_, ?_, ?_⟩
        · obtain ⟨a1, a2, a3, a4, a5, a6, a7, a8⟩ := hm
          unfold PS
          rw [cv.2.2.2.2.2.1, cv.2.2.2.2.1, cv.2.2.2.2.2.2.1, cv.2.2.2.2.2.2.2.1, mv.2.2.2.2.2.1, mv.2.2.2.2.1, mv.2.2.2.2.2.2.1, mv.2.2.2.2.2.2.2.2]
          refine ⟨a1, rfl, by omega, ?_, a5, a6, a7, a8⟩
          rw [sI_ne (p := 34) (q := 1) (by omega)]
          omega
        · refine RR.opn (i := i) (it := it) (sec := sec) (b := 280 * S + q) hc S0 d0 rm ?_ ?_ ?_ hit ?_ (fun a b1 b2 b3 b4 b5 => mOp_o b5 b1 b2 b3 b4) ?_ (mOp_90 (by omega)) mv.2.1 (mOp_91 (by omega)) mv.2.2.1 (mOp_92 (by omega)) mv.2.2.2.1 (fun a b1 b2 b3 b4 => cOp_o b4 b1 b2 b3) (cOp_45 d0) cv.1 (cOp_46 d0) cv.2.1 (cOp_47 d0) cv.2.2.1 cv.2.2.2.1 (if_pos rfl) (fun e he => if_neg he)
          · rw [g7 74 (by omega), hq]
          · unfold CJ at *
            rw [g7 73 (by omega), g7 76 (by omega), g7 79 (by omega), g7 86 (by omega), g7 77 (by omega), g7 85 (by omega)]
            exact hi
          · intro e b1 b2
            rw [g7 92 (by omega)]
            exact ho e b1 b2
          · rw [g7 85 (by omega)]
            exact hsec
          · rw [mv.1, g7 74 (by omega), hq]
        · rw [show (cOp (sI s 34 2 p) (p + 1) d it sec).2 = (sI s 34 2 p).2 from cv.2.2.2.2.2.2.2.2]
          exact hcc
        · rw [mv.2.2.2.2.2.2.2.1]
          exact (sI_ne (by omega)).trans hS
        · have hO2 : OPS c S (sI s 34 2 p) (sI t 70 4 p) := hO.kI hc (by omega) (by omega)
          have mo : ∀ a, a ≠ 70 → a ≠ 74 → a ≠ 90 → a ≠ 91 → a ≠ 92 → gI (mOp (sI t 70 4 p) S q (p + 1) i) a = gI (sI t 70 4 p) a := fun a b1 b2 b3 b4 b5 => mOp_o b1 b2 b3 b4 b5
          exact hO2.keep (congrFun (mo 75 (by decide) (by decide) (by decide) (by decide) (by decide)) S) (mo 93 (by decide) (by decide) (by decide) (by decide) (by decide)) (mo 89 (by decide) (by decide) (by decide) (by decide) (by decide)) (mo 83 (by decide) (by decide) (by decide) (by decide) (by decide)) (mo 77 (by decide) (by decide) (by decide) (by decide) (by decide)) (mo 82 (by decide) (by decide) (by decide) (by decide) (by decide)) (cOp_o (by omega) (by omega) (by omega) (by omega)) (cOp_o (by omega) (by omega) (by omega) (by omega)) (cOp_o (by omega) (by omega) (by omega) (by omega))
    · left
      rw [opn_b4 e1 hop h6, newB_b4 h5 p0 e2 h6]
      exact bq 4 (by omega)
  · left
    rw [opn_b1 e1 hv, newB_b1 h5 p0 e2 hv]
    exact bq 1 (by omega)

