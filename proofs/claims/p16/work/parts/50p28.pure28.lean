/-! a statement, a try, a block is wired -/
theorem WK.g {c p : Nat} {s X : ST} (h : WK c s X) (hp : p ≠ 42 ∧ p ≠ 43 ∧ (p < c + 11 ∨ c + 15 < p) ∧ p ≠ c + 1) : X.1 p = s.1 p := h.2 p (by omega) (by omega) (by omega) (by omega) (by omega) (by omega) (by omega) (by omega)
theorem RR.c88 {c : Nat} {S P : Int} {B : Int → Int} {s t : ST} (h : RR c S 0 P B s t) : ∀ i, CJ t S i → CB t S (gI t 88 i) := fun i hi => by
  have k := (h.2.2.1 (i - 130 * S) (by have := hi.1; omega) (by have := hi.2; omega)).2.2.1
  rw [show 130 * S + (i - 130 * S) = i by omega] at k
  exact k
theorem RR.n78 {c : Nat} {S P : Int} {B : Int → Int} {s t : ST} (h : RR c S 0 P B s t) : ∀ i, CJ t S i → ¬ gI t 77 i = 6 → 0 ≤ gI t 78 i ∧ gI t 78 i < gI t 75 S ∧ gI t 93 (40 * S + gI t 78 i) = i := fun i hi h6 => by
  have k := (h.2.2.1 (i - 130 * S) (by have := hi.1; omega) (by have := hi.2; omega)).2.1
  unfold K3a at k
  rw [show 130 * S + (i - 130 * S) = i by omega] at k
  rcases k with z | z
  · exact absurd z.2 h6
  · exact ⟨z.1, z.2.1, z.2.2.2⟩
theorem sub_it {c : Nat} {S P : Int} {B : Int → Int} {s t : ST} {EN FI EO BH TB : Int → Int} (S0 : 0 ≤ S) (h : RR c S 0 P B s t) (w : WQ t S EN FI EO BH TB) {j b : Int} (hj : CJ t S j) (hb : gI t 92 b = j) : ∀ i, CJ t S i → gI t 88 i = b → gI t 79 i = gI t 79 j ∧ gI t 80 i = gI t 80 j + 1 := by
  intro i hi e
  have k := h.2.2.2.2.2.2.1.2.1 (i - 130 * S) (by have := hi.1; omega) (by have := hi.2; omega)
  rw [show 130 * S + (i - 130 * S) = i by omega, e, hb] at k
  have j0 : ¬ j = -1 := by have := hj.1; omega
  have d := w.2.2.2.2.2.2.1 i hi
  rw [e, hb] at d
  rcases k with k | k
  · exact absurd k.1 j0
  · rcases d with d | d
    · exact absurd d.1 j0
    · exact ⟨k.2.1.symm, by omega⟩
set_option maxHeartbeats 4000000 in
theorem ws_ok {c : Nat} {S P : Int} {B : Int → Int} {s t : ST} {EN FI EO BH TB : Int → Int} {n : Nat} {wb : ST → Int → Int → Int → ST × Int} (hc : c = 2 ∨ c = 18) (S0 : 0 ≤ S) (h : RR c S 0 P B s t) (w : WQ t S EN FI EO BH TB) (hw : WB c S s t FI EO BH TB n wb) {X : ST} {j f a p : Int} (hX : WK c s X) (hr : X.2.2 48 1 = c) (hj : CJ t S j) (h6 : ¬ gI t 77 j = 6) (hp : gI t 79 j = p) (hd : gI t 80 j + n = 6) (hf : f = en p (BH j)) (ca : CAT t S TB (GV c t S FI BH TB) X (gI t 88 j) a p) :
    (gWS wb X (j - 130 * S) f a).2 = en p (EN j) ∧ PRS c (GV c t S FI BH TB) X (gWS wb X (j - 130 * S) f a).1 ∧ ALLR c (GV c t S FI BH TB) (gWS wb X (j - 130 * S) f a).1 (gI t 78 j) ∧ (∀ i, (UD t S n (gI t 85 j) i ∨ UD t S n (gI t 86 j) i) → ¬ gI t 77 i = 6 → ALLR c (GV c t S FI BH TB) (gWS wb X (j - 130 * S) f a).1 (gI t 78 i)) ∧ WK c s (gWS wb X (j - 130 * S) f a).1 := by
  have w1 := w.1
  have w3 := w.2.2.1
  have w5 := w.2.2.2.2.1
  have w6 := w.2.2.2.2.2.1
  have k3 := h.2.2.1 (j - 130 * S) (by have := hj.1; omega) (by have := hj.2; omega)
  unfold OB at k3
  rw [show 130 * S + (j - 130 * S) = j by omega] at k3
  obtain ⟨q1, -, -, -, q5, q6, -, q8, q9⟩ := k3
  have q2 := h.n78 j hj h6
  obtain ⟨k, hk⟩ : ∃ k, k = gI t 78 j := ⟨_, rfl⟩
  rw [← hk] at q1 q2 ⊢
  obtain ⟨k0, k1, k93⟩ := q2
  have k2 := h.2.1 k k0 k1
  rw [k93] at k2
  have jn : ¬ j = -1 := by have := hj.1; omega
  have rs : s.2.2 48 1 = c := by rw [← hX.1]; exact hr
  have e37 : X.1 37 (j - 130 * S).toNat = k := by rw [hX.g (by omega)]; exact q1
  have e3 : X.1 (c + 3) k.toNat = p := by rw [hX.g (by omega)]; exact k2.2.2.2.1.trans hp
  have e2 : X.1 (c + 2) k.toNat = gI t 77 j := by rw [hX.g (by omega)]; exact k2.2.2.1
  rw [ws_r (wb := wb) (a2 := j - 130 * S) (a3 := f) (a4 := a) hc hr e37 e3 e2]
  have g11 : GV c t S FI BH TB (c + 11) k = f := by rw [GV_11 hc, k93]; unfold vN; rw [hp]; exact hf.symm
  have g12 : GV c t S FI BH TB (c + 12) k = en p (if gI t 77 j = 2 ∧ ¬ gI t 86 j = -1 then FI (gI t 86 j) else BH j) := by rw [GV_12 hc, k93]; unfold vS; rw [hp]
  have g13 : GV c t S FI BH TB (c + 13) k = if gI t 77 j = 5 then 40 + p else if gI t 77 j = 2 ∨ gI t 77 j = 3 then en p (FI (gI t 85 j)) else cA t FI TB j := by rw [GV_13 hc, k93]; unfold vA; rw [hp]
  have ca3 : (if 0 ≤ a then X.1 42 a.toNat else 40 + p) = cA t FI TB j ∧ (if 0 ≤ a then X.1 41 a.toNat else -1) = GV c t S FI BH TB (c + 14) k ∧ (if 0 ≤ a then X.1 43 a.toNat else -2) = GV c t S FI BH TB (c + 15) k := by
    rw [GV_14 hc, GV_15 hc, k93]
    unfold cA vV vF
    rcases ca with z | z
    · have a1 := z.2
      rw [if_neg (show ¬ 0 ≤ a by omega), if_neg (show ¬ 0 ≤ a by omega), if_neg (show ¬ 0 ≤ a by omega), if_pos z.1, if_pos z.1, if_pos z.1, hp]
      exact ⟨rfl, rfl, rfl⟩
    · have z1 := z.1.1
      have z2 := z.1.2
      have z3 := z.2.1
      have tn : ¬ TB (gI t 88 j) = -1 := by omega
      have te : 130 * S + a = TB (gI t 88 j) := by omega
      rw [if_pos (show 0 ≤ a by omega), if_pos (show 0 ≤ a by omega), if_pos (show 0 ≤ a by omega), if_neg tn, if_neg tn, if_neg tn, z.2.2.2.2.1, z.2.2.2.2.2, GV_42, GV_43, te, hp]
      refine ⟨?_, ?_, rfl⟩
      · unfold CE
        rw [z.2.2.2.1]
      · rw [hX.g (by omega)]
        have q := (h.2.2.1 a (by omega) (by omega)).2.2.2.2.2.2.1
        rw [te] at q
        exact q z.2.2.1
  obtain ⟨ca13, ca14, ca15⟩ := ca3
  obtain ⟨X0, hX0⟩ : ∃ X0, X0 = cWb X c k f a p := ⟨_, rfl⟩
  have v := cWb_v (s := X) (c := c) (k := k) (f := f) (a := a) (own := p)
  rw [← hX0, ca13, ca14, ca15] at v
  rw [← hX0]
  obtain ⟨v1, v2, v3, v4, v5⟩ := v
  have wk0 : WK c s X0 := by rw [hX0]; exact hX.tr WK.b
  have r0 : X0.2.2 48 1 = c := by rw [wk0.1]; exact rs
  have pk : PRk c (GV c t S FI BH TB) k X X0 := by
    intro q i hq i0 nn hx
    by_cases e : i = k
    · rw [e] at hx nn ⊢
      have hq' : q = 42 ∨ q = 43 ∨ q = c + 11 ∨ q = c + 14 ∨ q = c + 15 := by unfold WW at hq; omega
      rcases hq' with y | y | y | y | y
      · rw [hX0, cWb_o (by omega) (by omega) (by omega) (by omega) (by omega)]; exact hx
      · rw [hX0, cWb_o (by omega) (by omega) (by omega) (by omega) (by omega)]; exact hx
      · rw [y, v1]; exact g11.symm
      · rw [y]; exact v4
      · rw [y]; exact v5
    · rw [hX0, cWb_j (by omega)]; exact hx
  have enk : en p (EN j) = k := by rw [w1 j hj, if_neg h6, ← hk]; exact en_n (by omega)
  have no5 : gI t 85 j = -1 → ∀ i, ¬ UD t S n (gI t 85 j) i := fun z i => by rw [z]; exact UD.no S0 h.c88
  have no6 : gI t 86 j = -1 → ∀ i, ¬ UD t S n (gI t 86 j) i := fun z i => by rw [z]; exact UD.no S0 h.c88
  have c6 := h.2.2.2.2.2.2.1.2.2.2.2.2.2.1 j hj
  have x11 : X0.1 (c + 11) k.toNat = GV c t S FI BH TB (c + 11) k := v1.trans g11.symm
  have ww1 : WW c (c + 11) := by unfold WW; omega
  have ww2 : WW c (c + 12) := by unfold WW; omega
  have ww3 : WW c (c + 13) := by unfold WW; omega
  have ww4 : WW c (c + 14) := by unfold WW; omega
  have ww5 : WW c (c + 15) := by unfold WW; omega
  unfold gWk
  by_cases z5 : gI t 77 j = 5
  · rw [if_neg (fun z => z z5)]
    dsimp only
    have s12 : (sI X0 (c + 13) k.toNat (40 + p)).1 (c + 12) k.toNat = GV c t S FI BH TB (c + 12) k := by rw [sI_nc (p := c + 12) (by omega), v2, g12, if_neg (by omega)]; exact hf
    have s13 : (sI X0 (c + 13) k.toNat (40 + p)).1 (c + 13) k.toNat = GV c t S FI BH TB (c + 13) k := by rw [sI_eq, g13, if_pos z5]
    refine ⟨enk.symm, (pk.w k0 (Or.inr rfl)).fin s12 s13, ⟨?_, s12, s13, ?_, ?_⟩, fun i u _ => ?_, wk0.I (by omega)⟩
    · rw [sI_nc (p := c + 11) (by omega)]; exact x11
    · rw [sI_nc (p := c + 14) (by omega)]; exact v4
    · rw [sI_nc (p := c + 15) (by omega)]; exact v5
    · exfalso
      rcases u with u | u
      · exact no5 (by omega) i u
      · exact no6 (by omega) i u
  · rw [if_pos z5]
    by_cases z3 : gI t 77 j = 3
    · rw [if_neg (fun z => z z3)]
      dsimp only
      have b85 : ¬ gI t 85 j = -1 := (w6 j hj).2 (Or.inr z3)
      have ob : CB t S (gI t 85 j) ∧ gI t 92 (gI t 85 j) = j := by
        rcases q8 with y | y
        · exact absurd y b85
        · exact y
      have e39 : X0.1 39 (j - 130 * S).toNat = lc t S (gI t 85 j) := by rw [wk0.g (by omega)]; exact q5
      have eo : EO (gI t 85 j) = k := by rw [w3 _ ob.1, ob.2, if_neg jn, if_pos z3]; exact hk.symm
      have tb : TB (gI t 85 j) = TB (gI t 88 j) := by rw [w5 _ ob.1, ob.2, if_neg jn, if_neg (by omega)]
      have si := sub_it S0 h w hj ob.2
      have W := hw X0 (gI t 85 j) k a p wk0 r0 (Or.inr ⟨ob.1, by rw [eo]; exact (en_n (by omega)).symm, ca.mv hc pk tb, fun i hi e => ⟨(si i hi e).1.trans hp, by have := (si i hi e).2; omega⟩⟩)
      rw [if_neg b85, ← e39] at W
      generalize wb X0 (X0.1 39 (j - 130 * S).toNat) k a = r at W ⊢
      obtain ⟨W1, W2, W3, W4⟩ := W
      have g13' : GV c t S FI BH TB (c + 13) k = en p (FI (gI t 85 j)) := by rw [g13, if_neg z5, if_pos (Or.inr z3)]
      have x12 : X0.1 (c + 12) k.toNat = GV c t S FI BH TB (c + 12) k := by rw [v2, g12, if_neg (by omega)]; exact hf
      have s12 : (sI r.1 (c + 13) k.toNat r.2).1 (c + 12) k.toNat = GV c t S FI BH TB (c + 12) k := by rw [sI_nc (p := c + 12) (by omega)]; exact W2 _ _ ww2 k0 x12
      have s13 : (sI r.1 (c + 13) k.toNat r.2).1 (c + 13) k.toNat = GV c t S FI BH TB (c + 13) k := by rw [sI_eq, W1]; exact g13'.symm
      have prs2 : PRS c (GV c t S FI BH TB) r.1 (sI r.1 (c + 13) k.toNat r.2) := PRS.rfl.I k0 (W1.trans g13'.symm)
      refine ⟨enk.symm, ((pk.tr W2.k).w k0 (Or.inr rfl)).fin s12 s13, ⟨?_, s12, s13, ?_, ?_⟩, fun i u u6 => ?_, W4.I (by omega)⟩
      · rw [sI_nc (p := c + 11) (by omega)]; exact W2 _ _ ww1 k0 x11
      · rw [sI_nc (p := c + 14) (by omega)]; exact W2 _ _ ww4 k0 v4
      · rw [sI_nc (p := c + 15) (by omega)]; exact W2 _ _ ww5 k0 v5
      · rcases u with u | u
        · exact prs2.all (h.n78 i u.cj u6).1 (W3 i u u6)
        · exact absurd u (no6 (by omega) i)
    · rw [if_pos z3]
      by_cases z2 : gI t 77 j = 2
      · rw [if_neg (fun z => z z2)]
        dsimp only
        have b85 : ¬ gI t 85 j = -1 := (w6 j hj).2 (Or.inl z2)
        have ob : CB t S (gI t 85 j) ∧ gI t 92 (gI t 85 j) = j := by
          rcases q8 with y | y
          · exact absurd y b85
          · exact y
        have e39 : X0.1 39 (j - 130 * S).toNat = lc t S (gI t 85 j) := by rw [wk0.g (by omega)]; exact q5
        have eo : EO (gI t 85 j) = BH j := by rw [w3 _ ob.1, ob.2, if_neg jn, if_neg z3]
        have tb : TB (gI t 85 j) = TB (gI t 88 j) := by rw [w5 _ ob.1, ob.2, if_neg jn, if_neg (by omega)]
        have si := sub_it S0 h w hj ob.2
        have W := hw X0 (gI t 85 j) f a p wk0 r0 (Or.inr ⟨ob.1, by rw [eo]; exact hf, ca.mv hc pk tb, fun i hi e => ⟨(si i hi e).1.trans hp, by have := (si i hi e).2; omega⟩⟩)
        rw [if_neg b85, ← e39] at W
        generalize wb X0 (X0.1 39 (j - 130 * S).toNat) f a = r at W ⊢
        obtain ⟨W1, W2, W3, W4⟩ := W
        have g13' : GV c t S FI BH TB (c + 13) k = en p (FI (gI t 85 j)) := by rw [g13, if_neg z5, if_pos (Or.inl z2)]
        obtain ⟨Y, hY⟩ : ∃ Y, Y = sI r.1 (c + 13) k.toNat r.2 := ⟨_, rfl⟩
        rw [← hY]
        have wk1 : WK c s Y := by rw [hY]; exact W4.I (by omega)
        have r1 : Y.2.2 48 1 = c := by rw [wk1.1]; exact rs
        rw [r1]
        have e40 : Y.1 40 (j - 130 * S).toNat = lc t S (gI t 86 j) := by rw [wk1.g (by omega)]; exact q6
        have pk1 : PRk c (GV c t S FI BH TB) k X Y := by rw [hY]; exact (pk.tr W2.k).w k0 (Or.inr rfl)
        have x13 : Y.1 (c + 13) k.toNat = GV c t S FI BH TB (c + 13) k := by rw [hY, sI_eq, W1]; exact g13'.symm
        have prs2 : PRS c (GV c t S FI BH TB) r.1 Y := by rw [hY]; exact PRS.rfl.I k0 (W1.trans g13'.symm)
        have U := hw Y (gI t 86 j) f a p wk1 r1 (by
          rcases q9 with y | y
          · exact Or.inl y
          · right
            have eo2 : EO (gI t 86 j) = BH j := by rw [w3 _ y.1, y.2, if_neg jn, if_neg z3]
            have tb2 : TB (gI t 86 j) = TB (gI t 88 j) := by rw [w5 _ y.1, y.2, if_neg jn, if_neg (by omega)]
            have si2 := sub_it S0 h w hj y.2
            exact ⟨y.1, by rw [eo2]; exact hf, ca.mv hc pk1 tb2, fun i hi e => ⟨(si2 i hi e).1.trans hp, by have := (si2 i hi e).2; omega⟩⟩)
        rw [← e40] at U
        generalize wb Y (Y.1 40 (j - 130 * S).toNat) f a = u at U ⊢
        obtain ⟨U1, U2, U3, U4⟩ := U
        have g12' : GV c t S FI BH TB (c + 12) k = if gI t 86 j = -1 then f else en p (FI (gI t 86 j)) := by
          rw [g12]
          by_cases y : gI t 86 j = -1
          · rw [if_pos y, if_neg (fun q => q.2 y)]; exact hf.symm
          · rw [if_neg y, if_pos ⟨z2, y⟩]
        have s12 : (sI u.1 (c + 12) k.toNat u.2).1 (c + 12) k.toNat = GV c t S FI BH TB (c + 12) k := by rw [sI_eq, U1]; exact g12'.symm
        have s13 : (sI u.1 (c + 12) k.toNat u.2).1 (c + 13) k.toNat = GV c t S FI BH TB (c + 13) k := by rw [sI_nc (p := c + 13) (by omega)]; exact U2 _ _ ww3 k0 x13
        have prs3 : PRS c (GV c t S FI BH TB) u.1 (sI u.1 (c + 12) k.toNat u.2) := PRS.rfl.I k0 (U1.trans g12'.symm)
        refine ⟨enk.symm, ((pk1.tr U2.k).w k0 (Or.inl rfl)).fin s12 s13, ⟨?_, s12, s13, ?_, ?_⟩, fun i v v6 => ?_, U4.I (by omega)⟩
        · rw [sI_nc (p := c + 11) (by omega)]; exact U2 _ _ ww1 k0 (prs2 _ _ ww1 k0 (W2 _ _ ww1 k0 x11))
        · rw [sI_nc (p := c + 14) (by omega)]; exact U2 _ _ ww4 k0 (prs2 _ _ ww4 k0 (W2 _ _ ww4 k0 v4))
        · rw [sI_nc (p := c + 15) (by omega)]; exact U2 _ _ ww5 k0 (prs2 _ _ ww5 k0 (W2 _ _ ww5 k0 v5))
        · have n0 := fun (v : CJ t S i) => (h.n78 i v v6).1
          rcases v with v | v
          · exact (prs2.tr (U2.tr prs3)).all (n0 v.cj) (W3 i v v6)
          · exact prs3.all (n0 v.cj) (U3 i v v6)
      · rw [if_pos z2]
        dsimp only
        have s12 : X0.1 (c + 12) k.toNat = GV c t S FI BH TB (c + 12) k := by rw [v2, g12, if_neg (by omega)]; exact hf
        have s13 : X0.1 (c + 13) k.toNat = GV c t S FI BH TB (c + 13) k := by rw [v3, g13, if_neg z5, if_neg (by omega)]
        refine ⟨enk.symm, pk.fin s12 s13, ⟨x11, s12, s13, v4, v5⟩, fun i u _ => ?_, wk0⟩
        exfalso
        rcases u with u | u
        · exact no5 (by omega) i u
        · exact no6 (by omega) i u
theorem wt_r {wb : ST → Int → Int → Int → ST × Int} {s Z : ST} {a2 a3 a4 : Int} {r : ST × Int} (hr : wb s (s.1 40 a2.toNat) a3 a4 = r) (hZ : Z = sI (sI r.1 42 a2.toNat r.2) 43 a2.toNat (if r.2 = a3 then -2 else r.2)) : gWT wb s a2 a3 a4 = wb Z (Z.1 39 a2.toNat) a3 a2 := by
  obtain ⟨fin, kf⟩ : ∃ z, z = gWT wb s a2 a3 a4 := ⟨_, rfl⟩
  rewrite [← kf]
  unfold gWT at kf
  have j1 := bd_e kf rfl
  have j2 := bd2_e j1 (show (r.1, r.2) = wb s (s.1 40 a2.toNat) a3 a4 from hr.symm)
  have j3 := bd_e j2 rfl
  by_cases z : r.2 = a3
  · have j4 := if_f j3 (fun q => q z)
    have j5 := bd_e j4 (show sI (sI r.1 42 a2.toNat r.2) 43 a2.toNat (-2) = Z by rw [hZ, if_pos z])
    rewrite [bd_r, bd2_r] at j5
    exact j5
  · have j4 := if_t j3 z
    have j5 := bd_e j4 (show sI (sI r.1 42 a2.toNat r.2) 43 a2.toNat r.2 = Z by rw [hZ, if_neg z])
    rewrite [bd_r, bd2_r] at j5
    exact j5
set_option maxHeartbeats 4000000 in
theorem wt_ok {c : Nat} {S P : Int} {B : Int → Int} {s t : ST} {EN FI EO BH TB : Int → Int} {n : Nat} {wb : ST → Int → Int → Int → ST × Int} (hc : c = 2 ∨ c = 18) (S0 : 0 ≤ S) (h : RR c S 0 P B s t) (w : WQ t S EN FI EO BH TB) (hw : WB c S s t FI EO BH TB n wb) {X : ST} {j f a p : Int} (hX : WK c s X) (hr : X.2.2 48 1 = c) (hj : CJ t S j) (h6 : gI t 77 j = 6) (hp : gI t 79 j = p) (hd : gI t 80 j + n = 6) (hf : f = en p (BH j)) (ca : CAT t S TB (GV c t S FI BH TB) X (gI t 88 j) a p) :
    (gWT wb X (j - 130 * S) f a).2 = en p (EN j) ∧ PRS c (GV c t S FI BH TB) X (gWT wb X (j - 130 * S) f a).1 ∧ (∀ i, (UD t S n (gI t 85 j) i ∨ UD t S n (gI t 86 j) i) → ¬ gI t 77 i = 6 → ALLR c (GV c t S FI BH TB) (gWT wb X (j - 130 * S) f a).1 (gI t 78 i)) ∧ WK c s (gWT wb X (j - 130 * S) f a).1 := by
  have w1 := w.1
  have w3 := w.2.2.1
  have w5 := w.2.2.2.2.1
  have w6 := (w.2.2.2.2.2.1 j hj).1 h6
  have k3 := h.2.2.1 (j - 130 * S) (by have := hj.1; omega) (by have := hj.2; omega)
  unfold OB at k3
  rw [show 130 * S + (j - 130 * S) = j by omega] at k3
  obtain ⟨-, -, -, -, q5, q6, -, q8, q9⟩ := k3
  have jn : ¬ j = -1 := by have := hj.1; omega
  have o0 : 0 ≤ j - 130 * S := by have := hj.1; omega
  have rs : s.2.2 48 1 = c := by rw [← hX.1]; exact hr
  have ob1 : CB t S (gI t 85 j) ∧ gI t 92 (gI t 85 j) = j := by
    rcases q8 with y | y
    · exact absurd y w6.1
    · exact y
  have ob2 : CB t S (gI t 86 j) ∧ gI t 92 (gI t 86 j) = j := by
    rcases q9 with y | y
    · exact absurd y w6.2
    · exact y
  have c6 := h.2.2.2.2.2.2.1.2.2.2.2.2.2.1 j hj
  have ne : ¬ (gI t 77 j = 6 ∧ gI t 85 j = gI t 86 j) := fun z => by
    rcases c6.1 with y | y
    · exact w6.1 y
    · exact y.1 z.2
  have eo1 : EO (gI t 85 j) = BH j := by rw [w3 _ ob1.1, ob1.2, if_neg jn, if_neg (by omega)]
  have eo2 : EO (gI t 86 j) = BH j := by rw [w3 _ ob2.1, ob2.2, if_neg jn, if_neg (by omega)]
  have tb1 : TB (gI t 85 j) = j := by rw [w5 _ ob1.1, ob1.2, if_neg jn, if_pos ⟨h6, rfl⟩]
  have tb2 : TB (gI t 86 j) = TB (gI t 88 j) := by rw [w5 _ ob2.1, ob2.2, if_neg jn, if_neg ne]
  have si1 := sub_it S0 h w hj ob1.2
  have si2 := sub_it S0 h w hj ob2.2
  have e40 : X.1 40 (j - 130 * S).toNat = lc t S (gI t 86 j) := by rw [hX.g (by omega)]; exact q6
  have U := hw X (gI t 86 j) f a p hX hr (Or.inr ⟨ob2.1, by rw [eo2]; exact hf, ca.mv hc (PRS.rfl.k (k := 0)) tb2, fun i hi e => ⟨(si2 i hi e).1.trans hp, by have := (si2 i hi e).2; omega⟩⟩)
  rw [if_neg w6.2, ← e40] at U
  obtain ⟨r, hrr⟩ : ∃ r, wb X (X.1 40 (j - 130 * S).toNat) f a = r := ⟨_, rfl⟩
  rw [hrr] at U
  obtain ⟨U1, U2, U3, U4⟩ := U
  obtain ⟨Z, hZ⟩ : ∃ Z, Z = sI (sI r.1 42 (j - 130 * S).toNat r.2) 43 (j - 130 * S).toNat (if r.2 = f then -2 else r.2) := ⟨_, rfl⟩
  rw [wt_r hrr hZ]
  have g42 : GV c t S FI BH TB 42 (j - 130 * S) = r.2 := by
    rw [GV_42, show 130 * S + (j - 130 * S) = j by omega, U1]
    unfold CE
    rw [hp]
  have g43 : GV c t S FI BH TB 43 (j - 130 * S) = if r.2 = f then -2 else r.2 := by
    rw [GV_43, show 130 * S + (j - 130 * S) = j by omega]
    unfold CF
    rw [show CE t FI j = r.2 by rw [U1]; unfold CE; rw [hp], hp, ← hf]
  have pz : PRS c (GV c t S FI BH TB) r.1 Z := by rw [hZ]; exact (PRS.rfl.I o0 g42.symm).I o0 g43.symm
  have wkz : WK c s Z := by rw [hZ]; exact (U4.I (by omega)).I (by omega)
  have rz : Z.2.2 48 1 = c := by rw [wkz.1]; exact rs
  have e39 : Z.1 39 (j - 130 * S).toNat = lc t S (gI t 85 j) := by rw [wkz.g (by omega)]; exact q5
  have z42 : Z.1 42 (j - 130 * S).toNat = GV c t S FI BH TB 42 (j - 130 * S) := by rw [hZ, sI_nc (p := 42) (show 42 ≠ 43 by decide), sI_eq]; exact g42.symm
  have z43 : Z.1 43 (j - 130 * S).toNat = GV c t S FI BH TB 43 (j - 130 * S) := by rw [hZ, sI_eq]; exact g43.symm
  have V := hw Z (gI t 85 j) f (j - 130 * S) p wkz rz (Or.inr ⟨ob1.1, by rw [eo1]; exact hf, Or.inr ⟨by rw [tb1]; exact hj, by rw [tb1], by rw [tb1]; exact h6, by rw [tb1]; exact hp, z42, z43⟩, fun i hi e => ⟨(si1 i hi e).1.trans hp, by have := (si1 i hi e).2; omega⟩⟩)
  rw [if_neg w6.1, ← e39] at V
  generalize wb Z (Z.1 39 (j - 130 * S).toNat) f (j - 130 * S) = v at V ⊢
  obtain ⟨V1, V2, V3, V4⟩ := V
  refine ⟨?_, U2.tr (pz.tr V2), fun i u u6 => ?_, V4⟩
  · rw [V1, w1 j hj, if_pos h6]
  · rcases u with u | u
    · exact V3 i u u6
    · exact (pz.tr V2).all (h.n78 i u.cj u6).1 (U3 i u u6)

