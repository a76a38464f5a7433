/-! a statement's ways, in closed form -/
noncomputable def cWb (s : ST) (c : Nat) (k f a own : Int) : ST := if 0 ≤ a then sI (sI (sI (sI (sI s (c + 11) k.toNat f) (c + 12) k.toNat f) (c + 13) k.toNat (s.1 42 a.toNat)) (c + 14) k.toNat (s.1 41 a.toNat)) (c + 15) k.toNat (s.1 43 a.toNat) else sI (sI (sI (sI (sI s (c + 11) k.toNat f) (c + 12) k.toNat f) (c + 13) k.toNat (40 + own)) (c + 14) k.toNat (-1)) (c + 15) k.toNat (-2)
theorem cWb_o {s : ST} {c p : Nat} {k f a own : Int} (h1 : p ≠ c + 11) (h2 : p ≠ c + 12) (h3 : p ≠ c + 13) (h4 : p ≠ c + 14) (h5 : p ≠ c + 15) : (cWb s c k f a own).1 p = s.1 p := by
  unfold cWb
  split
  · rw [sI_nc h5, sI_nc h4, sI_nc h3, sI_nc h2, sI_nc h1]
  · rw [sI_nc h5, sI_nc h4, sI_nc h3, sI_nc h2, sI_nc h1]
theorem cWb_r {s : ST} {c : Nat} {k f a own : Int} : (cWb s c k f a own).2 = s.2 := by
  unfold cWb
  split <;> rfl
/-- what the wiring of a statement does, from cWb on -/
noncomputable def gWk (wb : ST → Int → Int → Int → ST × Int) (c : Nat) (X : ST) (k own kd a2 a3 a4 : Int) : ST × Int := if ¬ kd = 5 then (if ¬ kd = 3 then (if ¬ kd = 2 then (X, k) else (sI (wb (sI (wb X (X.1 39 a2.toNat) a3 a4).1 (c + 13) k.toNat (wb X (X.1 39 a2.toNat) a3 a4).2) ((sI (wb X (X.1 39 a2.toNat) a3 a4).1 (c + 13) k.toNat (wb X (X.1 39 a2.toNat) a3 a4).2).1 40 a2.toNat) a3 a4).1 ((sI (wb X (X.1 39 a2.toNat) a3 a4).1 (c + 13) k.toNat (wb X (X.1 39 a2.toNat) a3 a4).2).2.2 48 1 + 12) k.toNat (wb (sI (wb X (X.1 39 a2.toNat) a3 a4).1 (c + 13) k.toNat (wb X (X.1 39 a2.toNat) a3 a4).2) ((sI (wb X (X.1 39 a2.toNat) a3 a4).1 (c + 13) k.toNat (wb X (X.1 39 a2.toNat) a3 a4).2).1 40 a2.toNat) a3 a4).2, k)) else (sI (wb X (X.1 39 a2.toNat) k a4).1 (c + 13) k.toNat (wb X (X.1 39 a2.toNat) k a4).2, k)) else (sI X (c + 13) k.toNat (40 + own), k)
theorem ws_r {wb : ST → Int → Int → Int → ST × Int} {s : ST} {c : Nat} {a2 a3 a4 k own kd : Int} (hc : c = 2 ∨ c = 18) (hr : s.2.2 48 1 = c) (hk : s.1 37 a2.toNat = k) (ho : s.1 (c + 3) k.toNat = own) (hd : s.1 (c + 2) k.toNat = kd) : gWS wb s a2 a3 a4 = gWk wb c (cWb s c k a3 a4 own) k own kd a2 a3 a4 := by
  obtain ⟨fin, kf⟩ : ∃ z, z = gWS wb s a2 a3 a4 := ⟨_, rfl⟩
  rewrite [← kf]
  unfold gWS at kf
  have j1 := bd_e kf hk
  have j2 := bd_e j1 hr
  have j3 := bd_e j2 ho
  have j4 := bd_e j3 hr
  have j5 := bd_e j4 rfl
  have j6 := bd_e j5 (show (sI s (c + 11) k.toNat a3).2.2 48 1 = c from hr)
  have j7 := bd_e j6 rfl
  have j8 := bd_e j7 (show (sI (sI s (c + 11) k.toNat a3) (c + 12) k.toNat a3).2.2 48 1 = c from hr)
  clear kf j1 j2 j3 j4 j5 j6 j7
  obtain ⟨X, hX⟩ : ∃ X, X = cWb s c k a3 a4 own := ⟨_, rfl⟩
  have x2 : X.1 (c + 2) k.toNat = kd := by rw [hX, cWb_o (by omega) (by omega) (by omega) (by omega) (by omega)]; exact hd
  have xr : X.2.2 48 1 = c := by rw [hX, cWb_r]; exact hr
  rewrite [← hX]
  have tail : fin = (bd (X.2.2 48 1) fun c39 => bd (X.1 (c39 + 2) (k).toNat) fun v41 => if ¬ v41 = 5 then (bd (X.2.2 48 1) fun c45 => bd (X.1 (c45 + 2) (k).toNat) fun v47 => if ¬ v47 = 3 then (bd (X.2.2 48 1) fun c51 => bd (X.1 (c51 + 2) (k).toNat) fun v53 => if ¬ v53 = 2 then ((X, k)) else (bd (X.2.2 48 1) fun c58 => bd (X.1 39 (a2).toNat) fun v60 => bd2 (wb X v60 a3 a4) fun s64 v67 => bd (sI s64 (c58 + 13) (k).toNat v67) fun s69 => bd (s69.2.2 48 1) fun c71 => bd (s69.1 40 (a2).toNat) fun v73 => bd2 (wb s69 v73 a3 a4) fun s77 v80 => bd (sI s77 (c71 + 12) (k).toNat v80) fun s82 => (s82, k))) else (bd (X.2.2 48 1) fun c85 => bd (X.1 39 (a2).toNat) fun v87 => bd2 (wb X v87 k a4) fun s91 v94 => bd (sI s91 (c85 + 13) (k).toNat v94) fun s96 => (s96, k))) else (bd (X.2.2 48 1) fun c99 => bd (sI X (c99 + 13) (k).toNat ((40 + own))) fun s101 => (s101, k))) := by
    by_cases a0 : 0 ≤ a4
    · have i1 := if_t j8 a0
      have e : ∀ p, p ≠ c + 11 → p ≠ c + 12 → p ≠ c + 13 → p ≠ c + 14 → ∀ v w j, (sI (sI s (c + 11) k.toNat a3) (c + 12) k.toNat a3).1 p j = s.1 p j ∧ (sI (sI (sI s (c + 11) k.toNat a3) (c + 12) k.toNat a3) (c + 13) k.toNat v).1 p j = s.1 p j ∧ (sI (sI (sI (sI s (c + 11) k.toNat a3) (c + 12) k.toNat a3) (c + 13) k.toNat v) (c + 14) k.toNat w).1 p j = s.1 p j := fun p h1 h2 h3 h4 v w j => by
        refine ⟨?_, ?_, ?_⟩
        · rw [sI_nc h2, sI_nc h1]
        · rw [sI_nc h3, sI_nc h2, sI_nc h1]
        · rw [sI_nc h4, sI_nc h3, sI_nc h2, sI_nc h1]
      have i2 := bd_e i1 ((e 42 (by omega) (by omega) (by omega) (by omega) 0 0 _).1)
      have i3 := bd_e i2 rfl
      have i4 := bd_e i3 (show (sI (sI (sI s (c + 11) k.toNat a3) (c + 12) k.toNat a3) (c + 13) k.toNat (s.1 42 a4.toNat)).2.2 48 1 = c from hr)
      have i5 := bd_e i4 ((e 41 (by omega) (by omega) (by omega) (by omega) _ 0 _).2.1)
      have i6 := bd_e i5 rfl
      have i7 := bd_e i6 (show (sI (sI (sI (sI s (c + 11) k.toNat a3) (c + 12) k.toNat a3) (c + 13) k.toNat (s.1 42 a4.toNat)) (c + 14) k.toNat (s.1 41 a4.toNat)).2.2 48 1 = c from hr)
      have i8 := bd_e i7 ((e 43 (by omega) (by omega) (by omega) (by omega) _ _ _).2.2)
      have hx : sI (sI (sI (sI (sI s (c + 11) k.toNat a3) (c + 12) k.toNat a3) (c + 13) k.toNat (s.1 42 a4.toNat)) (c + 14) k.toNat (s.1 41 a4.toNat)) (c + 15) k.toNat (s.1 43 a4.toNat) = X := by
        rewrite [hX]
        unfold cWb
        rewrite [if_pos a0]
        rfl
      have i9 := bd_e i8 hx
      exact i9
    · have i1 := if_f j8 a0
      have i2 := bd_e i1 rfl
      have i3 := bd_e i2 (show (sI (sI (sI s (c + 11) k.toNat a3) (c + 12) k.toNat a3) (c + 13) k.toNat (40 + own)).2.2 48 1 = c from hr)
      have i4 := bd_e i3 rfl
      have i5 := bd_e i4 (show (sI (sI (sI (sI s (c + 11) k.toNat a3) (c + 12) k.toNat a3) (c + 13) k.toNat (40 + own)) (c + 14) k.toNat (-1)).2.2 48 1 = c from hr)
      have hx : sI (sI (sI (sI (sI s (c + 11) k.toNat a3) (c + 12) k.toNat a3) (c + 13) k.toNat (40 + own)) (c + 14) k.toNat (-1)) (c + 15) k.toNat (-2) = X := by
        rewrite [hX]
        unfold cWb
        rewrite [if_neg a0]
        rfl
      have i6 := bd_e i5 hx
      exact i6
  rewrite [tail]
  repeat first | rewrite [bd_r] | rewrite [bd2_r]
  rewrite [xr, x2]
  unfold gWk
  rfl

