/-! procedures, the whole text -/
theorem RR.prc {c : Nat} {S pc P : Int} {B : Int → Int} {s t : ST} (hc : c = 2 ∨ c = 18) (S0 : 0 ≤ S) (h : RR c S 0 pc B s t) (hP : P = gI t 76 S) (P4 : P ≤ 4) : RR c S 0 pc B (sI s c 1 (P + 1)) (sI t 76 S.toNat (P + 1)) := by
  obtain ⟨k1, k2, k3, k4, k5, k6, ⟨k7, k9⟩, k8⟩ := h
  have es : ∀ q, q ≠ c → gI (sI s c 1 (P + 1)) q = gI s q := fun q hq => funext fun j => gI_nc hq
  have et : ∀ q, q ≠ 76 → gI (sI t 76 S.toNat (P + 1)) q = gI t q := fun q hq => funext fun j => gI_nc hq
  refine ⟨?_, ?_, ?_, ?_, ?_, fun e h0 h1 => by omega, ⟨fun e h0 h1 => by omega, ?_⟩, ?_⟩
  · obtain ⟨a1, a2, a3, a4, a5, a6, a7, a8, a9⟩ := k1
    unfold K1
    rw [es 36 (by omega), et 75 (by decide), et 73 (by decide), et 74 (by decide), show gI (sI t 76 S.toNat (P + 1)) 76 S = P + 1 from gI_eq]
    refine ⟨?_, ?_, a3, a4, a5, a6, a7, by omega, by omega, ?_, ?_⟩
    · show (sI s c 1 (P + 1)).1 c 0 = _
      rw [sI_ne (by omega)]
      exact a1
    · show (sI s c 1 (P + 1)).1 c 1 = _
      rw [sI_eq]
    · show (sI s c 1 (P + 1)).1 c 3 = _
      rw [sI_ne (by omega)]
      exact a9.2.1
    · show (sI s c 1 (P + 1)).1 c 4 = _
      rw [sI_ne (by omega)]
      exact a9.2.2
  · unfold K2 CJ at *
    rw [et 93 (by decide), et 73 (by decide), et 75 (by decide), et 77 (by decide), et 78 (by decide), et 79 (by decide), et 80 (by decide), et 81 (by decide), et 82 (by decide), et 84 (by decide), es (c + 2) (by omega), es (c + 3) (by omega), es (c + 4) (by omega), es (c + 5) (by omega), es (c + 6) (by omega), es (c + 7) (by omega)]
    exact k2
  · unfold K3 K3a K3b OB CB lc at *
    rw [es 37 (by omega), es 38 (by omega), es 39 (by omega), es 40 (by omega), es 41 (by omega), et 73 (by decide), et 74 (by decide), et 75 (by decide), et 77 (by decide), et 78 (by decide), et 82 (by decide), et 85 (by decide), et 86 (by decide), et 87 (by decide), et 88 (by decide), et 90 (by decide), et 91 (by decide), et 92 (by decide), et 93 (by decide)]
    exact k3
  · unfold K4 CB CJ at *
    rw [et 73 (by decide), et 74 (by decide), et 87 (by decide), et 88 (by decide), et 90 (by decide), et 91 (by decide)]
    exact k4
  · unfold K5 lc CB at *
    rw [es 44 (by omega), et 74 (by decide), et 91 (by decide), et 92 (by decide), et 94 (by decide)]
    exact k5
  · refine ⟨?_, fun e h0 h1 => by omega, fun z => by omega, ?_⟩
    · have q := k9.1
      unfold CJ at *
      rw [et 73 (by decide), et 79 (by decide), et 85 (by decide), et 86 (by decide), et 88 (by decide), et 92 (by decide), et 94 (by decide)]
      exact q
    · have q := k9.2.2.2
      unfold K9 CJ at *
      rw [et 73 (by decide), et 77 (by decide), et 78 (by decide), et 92 (by decide), et 85 (by decide), et 86 (by decide), et 87 (by decide), et 88 (by decide), et 90 (by decide), et 91 (by decide), et 94 (by decide)]
      exact q
  · rw [sI_nc (p := 34) (show 34 ≠ c by omega)]
    exact k8
theorem rp_g {s : ST} {c : Nat} {p v P : Int} (hc : c = 2 ∨ c = 18) (hcc : s.2.2 34 4 = c) (e : f_X3_look s = (sI s 34 2 p, v)) (hP : s.1 c 1 = P) (P0 : 0 ≤ P) (P4 : P ≤ 4) (hv : v = 65 + P) : f_X3_readProcedure s = f_X3_openBlock (sI (sI s 34 2 (p + 1)) c 1 (P + 1)) (-1) 0 := by
  obtain ⟨fin, kf⟩ : ∃ z, z = f_X3_readProcedure s := ⟨_, rfl⟩
  rewrite [← kf]
  unfold f_X3_readProcedure at kf
  have q1 : (sI s 34 2 p).1 c 1 = P := by rw [sI_nc (p := c) (show c ≠ 34 by omega)]; exact hP
  have q2 : (sI s 34 2 (p + 1)).1 c 1 = P := by rw [sI_nc (p := c) (show c ≠ 34 by omega)]; exact hP
  have j1 := bd2_e kf e.symm
  have j2 := bd_e j1 (show (sI s 34 2 p).1 34 2 = p from sI_eq _ _ _ _)
  have j3 := if_f j2 (show ¬ v < 65 by omega)
  have j4 := if_t j3 (show v ≤ 90 by omega)
  have j5 := bd_e j4 (show (sI s 34 2 p).2.2 34 4 = c from hcc)
  have j6 := bd_e j5 q1
  have j7 := if_f j6 (show ¬ 5 ≤ P by omega)
  have j8 := bd_e j7 (show (sI s 34 2 p).2.2 34 4 = c from hcc)
  have j9 := bd_e j8 q1
  have j10 := if_t j9 hv
  have j11 := bd_e j10 (sI_sI s 34 2 p (p + 1))
  have j12 := bd_e j11 (show (sI s 34 2 (p + 1)).2.2 34 4 = c from hcc)
  have j13 := bd_e j12 q2
  rewrite [bd_r, bd_r] at j13
  exact j13
theorem rp_b1 {s : ST} {p v : Int} (e : f_X3_look s = (sI s 34 2 p, v)) (hv : ¬ (65 ≤ v ∧ v ≤ 90)) : f_X3_readProcedure s = f_X3_blame (sI s 34 2 p) 1 p := by
  obtain ⟨fin, kf⟩ : ∃ z, z = f_X3_readProcedure s := ⟨_, rfl⟩
  rewrite [← kf]
  unfold f_X3_readProcedure at kf
  have j1 := bd2_e kf e.symm
  have j2 := bd_e j1 (show (sI s 34 2 p).1 34 2 = p from sI_eq _ _ _ _)
  by_cases z : v < 65
  · have j3 := if_t j2 z
    rewrite [bd_r] at j3
    exact j3
  · have j3 := if_f j2 z
    have j4 := if_f j3 (show ¬ v ≤ 90 by omega)
    rewrite [bd_r] at j4
    exact j4
theorem rp_b3 {s : ST} {c : Nat} {p v P : Int} (hc : c = 2 ∨ c = 18) (hcc : s.2.2 34 4 = c) (e : f_X3_look s = (sI s 34 2 p, v)) (hP : s.1 c 1 = P) (hv : 65 ≤ v ∧ v ≤ 90) (hx : 5 ≤ P ∨ ¬ v = 65 + P) : f_X3_readProcedure s = f_X3_blame (sI s 34 2 p) 3 p := by
  obtain ⟨fin, kf⟩ : ∃ z, z = f_X3_readProcedure s := ⟨_, rfl⟩
  rewrite [← kf]
  unfold f_X3_readProcedure at kf
  have q1 : (sI s 34 2 p).1 c 1 = P := by rw [sI_nc (p := c) (show c ≠ 34 by omega)]; exact hP
  have j1 := bd2_e kf e.symm
  have j2 := bd_e j1 (show (sI s 34 2 p).1 34 2 = p from sI_eq _ _ _ _)
  have j3 := if_f j2 (show ¬ v < 65 by omega)
  have j4 := if_t j3 hv.2
  have j5 := bd_e j4 (show (sI s 34 2 p).2.2 34 4 = c from hcc)
  have j6 := bd_e j5 q1
  by_cases z : 5 ≤ P
  · have j7 := if_t j6 z
    rewrite [bd_r] at j7
    exact j7
  · have j7 := if_f j6 z
    have j8 := bd_e j7 (show (sI s 34 2 p).2.2 34 4 = c from hcc)
    have j9 := bd_e j8 q1
    have j10 := if_f j9 (by rcases hx with y | y; (exact absurd y z); (exact y))
    rewrite [bd_r] at j10
    exact j10
set_option maxHeartbeats 4000000 in
/-- the text: a fault on both sides, or both stand at its end with trees that agree -/
theorem all_r {c : Nat} {S : Int} (hc : c = 2 ∨ c = 18) (S0 : 0 ≤ S) : ∀ (N k0 : Nat) (B : Int → Int) (P : Int) (s t : ST), SM c S 0 P B s t → P = gI t 76 S → ph S s t ≤ 0 → 500 - s.1 34 2 < N →
    ((f_X3_readProcedure s).1 34 3 = 0 → s.1 34 2 < (f_X3_readProcedure s).1 34 2 ∧ (f_X3_readProcedure s).1 34 2 ≤ 500) ∧ ((∃ k s', RUN k (f_X3_readProcedure s) s' ∧ BQ c s' (f_X8_readAll_ N k0 t)) ∨ (∃ k s' sm B' P', RUN k (f_X3_readProcedure s) s' ∧ s'.1 34 3 = 0 ∧ f_X3_look s' = (sm, -1) ∧ f_X3_look sm = (sm, -1) ∧ SM c S 0 P' B' sm (f_X8_readAll_ N k0 t) ∧ P' = gI (f_X8_readAll_ N k0 t) 76 S ∧ 1 ≤ P' ∧ ph S sm (f_X8_readAll_ N k0 t) ≤ 0)) := by
  intro N
  induction N with
  | zero =>
    intro k0 B P s t h _ _ hN
    have := h.1.2.2.2.1
    have := h.1.2.2.2.2.1
    omega
  | succ N ih =>
    intro k0 B P s t h hP hph hN
    obtain ⟨p, v, l1, l2, l3, l4, l5, l6, l7, l8⟩ := SM.look hc h
    obtain ⟨fin, kf⟩ : ∃ z, z = f_X8_readAll_ (N + 1) k0 t := ⟨_, rfl⟩
    rewrite [← kf]
    rewrite [f_X8_readAll_] at kf
    have p0 : 0 ≤ p := by have := h.1.2.2.1; omega
    have K := h.2.1.1
    have P0 : 0 ≤ P := by have := K.2.2.2.2.2.2.2.1; omega
    have P5 : P ≤ 5 := by have := K.2.2.2.2.2.2.2.2; omega
    have cP : s.1 c 1 = P := K.2.1.trans hP.symm
    have h5 : (sI t 70 4 p).1 70 5 = 0 := l5.1.2.2.2.2.2.2.2
    have t6 : (sI t 70 4 p).1 70 6 = S := l5.2.2.2.1
    have t76 : (sI t 70 4 p).1 76 S.toNat = P := by rw [sI_nc (p := 76) (show 76 ≠ 70 by decide)]; exact hP.symm
    have bq : ∀ k, 1 ≤ k → BQ c (f_X3_blame (sI s 34 2 p) k p) (f_X8_fails (sI t 70 4 p) k) := fun k hk => by
      refine BD.bq (BD.mk2 l5.1 hk (sI_eq _ _ _ _).symm) ?_
      exact (BN.bl (b := 0) (s := sI s 34 2 p) ⟨fun z => absurd rfl z, h.2.2.1⟩).2
    have bad : ∀ k, 1 ≤ k → f_X3_readProcedure s = f_X3_blame (sI s 34 2 p) k p → fin = f_X8_fails (sI t 70 4 p) k → ((f_X3_readProcedure s).1 34 3 = 0 → s.1 34 2 < (f_X3_readProcedure s).1 34 2 ∧ (f_X3_readProcedure s).1 34 2 ≤ 500) ∧ ((∃ k s', RUN k (f_X3_readProcedure s) s' ∧ BQ c s' fin) ∨ (∃ k s' sm B' P', RUN k (f_X3_readProcedure s) s' ∧ s'.1 34 3 = 0 ∧ f_X3_look s' = (sm, -1) ∧ f_X3_look sm = (sm, -1) ∧ SM c S 0 P' B' sm fin ∧ P' = gI fin 76 S ∧ 1 ≤ P' ∧ ph S sm fin ≤ 0)) := fun k hk z y => by
      have q := bq k hk
      rw [z, y]
      exact ⟨fun x => absurd ((q.2.1 q.1).symm.trans x) q.1, Or.inl ⟨0, _, rfl, q⟩⟩
    have j1 := bd2_e kf l2.symm
    have j2 := bd_e j1 (show (sI t 70 4 p).1 70 4 = p from sI_eq _ _ _ _)
    by_cases z1 : 65 ≤ v ∧ v ≤ 90
    · have j3 := bd_e j2 (isIn_1 z1)
      have j4 := if_t j3 (show ¬ (1 : Int) = 0 by omega)
      have j5 := bd_e j4 t6
      have j6 := bd_e j5 t76
      by_cases z2 : P = 5
      · have j7 := if_t j6 z2
        have j8 := bd_e j7 rfl
        have j9 := bd_e j8 rfl
        have j10 := bd_e j9 (good_0 (bq 3 (by omega)).1)
        have j11 := if_f j10 (fun x => x rfl)
        exact bad 3 (by omega) (rp_b3 hc h.2.2.1 l1 cP z1 (Or.inl (by omega))) j11
      · have j7 := if_f j6 z2
        have j8 := bd_e j7 t76
        by_cases z3 : v = 65 + P
        · have j9 := if_t j8 z3
          have j10 := bd_e j9 (good_1 h5)
          have j11 := if_t j10 (show ¬ (1 : Int) = 0 by omega)
          have j12 := bd_e j11 t76
          have j13 := bd_e j12 t76
          have j14 := bd_e j13 rfl
          have j15 := bd_e j14 (show sI (sI (sI t 70 4 p) 76 S.toNat (P + 1)) 70 4 (p + 1) = sI (sI t 70 4 (p + 1)) 76 S.toNat (P + 1) by rw [sI_sw (by omega), sI_sI])
          have e1 := rp_g hc h.2.2.1 l1 cP P0 (by omega) z3
          have lt : p < s.1 34 1 := by omega
          have sm0 : SM c S 0 P B (sI s 34 2 (p + 1)) (sI t 70 4 (p + 1)) := SM.mv hc h (by omega) (by omega)
          have smu : SM c S 0 P B (sI (sI s 34 2 (p + 1)) c 1 (P + 1)) (sI (sI t 70 4 (p + 1)) 76 S.toNat (P + 1)) := ⟨(sm0.1.wI (by omega) (by omega)).wJ (by decide) (by decide), RR.prc hc S0 sm0.2.1 (by rw [gI_nc (show 76 ≠ 70 by decide)]; exact hP) (by omega), sm0.2.2.1, by rw [sI_nc (p := 70) (show 70 ≠ 76 by decide)]; exact sm0.2.2.2.1, (sm0.2.2.2.2.kC hc (by omega)).kM (by omega)⟩
          have u2 : (sI (sI s 34 2 (p + 1)) c 1 (P + 1)).1 34 2 = p + 1 := by rw [sI_nc (p := 34) (show 34 ≠ c by omega), sI_eq]
          have w76 : gI (sI (sI t 70 4 (p + 1)) 76 S.toNat (P + 1)) 76 S = P + 1 := gI_eq
          have phu : ph S (sI (sI s 34 2 (p + 1)) c 1 (P + 1)) (sI (sI t 70 4 (p + 1)) 76 S.toNat (P + 1)) ≤ 0 := by
            unfold ph at hph ⊢
            rw [u2, gI_nc (show 73 ≠ 76 by decide), gI_nc (show 75 ≠ 76 by decide), gI_nc (show 73 ≠ 70 by decide), gI_nc (show 75 ≠ 70 by decide)]
            omega
          rw [e1]
          have j16 := bd2_e j15 (show ((f_X8_readBlock (sI (sI t 70 4 (p + 1)) 76 S.toNat (P + 1)) (-1) P 0).1, (f_X8_readBlock (sI (sI t 70 4 (p + 1)) 76 S.toNat (P + 1)) (-1) P 0).2) = f_X8_readBlock (sI (sI t 70 4 (p + 1)) 76 S.toNat (P + 1)) (-1) P 0 from rfl)
          have j17 := bd_e j16 rfl
          have HH := hb_all hc S0 7 0 (by omega) (by omega) P B _ _ (-1) P (-1) 0 smu (Or.inl ⟨rfl, w76, P0⟩) (fun e h0 h1 => by omega) (by rw [if_pos rfl]) (by rw [if_pos rfl]) (by rw [w76]; omega) (by omega)
          have HO := SM.opn (i := -1) (it := -1) (sec := 0) hc S0 (by omega) smu (Or.inl ⟨rfl, w76, P0⟩) (fun e h0 h1 => by omega) (by rw [if_pos rfl]) (by rw [if_pos rfl])
          rw [show m_B 7 (sI (sI t 70 4 (p + 1)) 76 S.toNat (P + 1)) (-1) P 0 = f_X8_readBlock (sI (sI t 70 4 (p + 1)) 76 S.toNat (P + 1)) (-1) P 0 from rfl] at HH
          have len5 := smu.1.2.2.2.2.1
          generalize sI (sI s 34 2 (p + 1)) c 1 (P + 1) = u at *
          generalize sI (sI t 70 4 (p + 1)) 76 S.toNat (P + 1) = w at *
          generalize f_X8_readBlock w (-1) P 0 = r at *
          refine ⟨fun x => ?_, ?_⟩
          · rcases HO with q | ⟨p', q, a1, a2, a3, a4, a5, a6, a7⟩
            · exact absurd ((q.2.1 q.1).symm.trans x) q.1
            · rw [a5, cOp_v.2.2.2.2.1]
              exact ⟨by omega, by omega⟩
          · rcases HH with ⟨k, s', r1, r2⟩ | ⟨k, s2, p3, r1, r2, r3, r4, r5, r6, r7, r8, r9⟩
            · have f0 : (sI r.1 94 (5 * S + P).toNat r.2).1 70 5 ≠ 0 := by rw [sI_nc (p := 70) (show 70 ≠ 94 by decide)]; exact r2.1
              have j18 := bd_e j17 (good_0 f0)
              have j19 := if_t j18 rfl
              refine Or.inl ⟨k, s', r1, ?_⟩
              rw [j19]
              unfold BQ at *
              rw [sI_nc (p := 70) (show 70 ≠ 94 by decide)]
              exact r2
            · have K2' := RR.top (Int.le_refl 0) r5.2.1 (if_pos rfl) r6
              rw [if_pos rfl, if_pos rfl] at K2'
              have g7 : ∀ a, a ≠ 34 → gI (sI s2 34 2 (p3 + 1)) a = gI (sI s2 34 2 p3) a := fun a ha => funext fun j => (gI_nc ha).trans (gI_nc ha).symm
              have o7 : (sI s2 34 2 p3).1 34 7 = 0 + 1 := by
                have q := r5.2.1.2.2.2.2.2.2.2
                rw [sI_ne (p := 34) (q := 7) (by omega)] at q ⊢
                exact q
              have rP : gI r.1 76 S = P + 1 := by rw [r9.2.1]; exact w76
              have cP2 : (sI s2 34 2 p3).1 c 1 = P + 1 := by
                have q := r5.2.1.1.2.1
                rw [g7 c (by omega), rP] at q
                exact q
              have cl := clo_p (s := sI s2 34 2 p3) (c := c) (p := p3) (d := 0) (it := -1) (P := P + 1) hc r5.2.2.1 cP2 (sI_eq _ _ _ _) o7 (by rw [← g7 45 (by decide)]; exact K2'.2.1) (by omega)
              rw [sI_sI, ← g7 46 (by decide), show P + 1 - 1 = P by omega] at cl
              have sm : SM c S 0 (P + 1) (fun e => if e = 0 then r.2 else B e) (sI (sI (sI s2 34 2 (p3 + 1)) 34 7 0) 44 P.toNat (gI (sI s2 34 2 (p3 + 1)) 46 0)) (sI r.1 94 (5 * S + P).toNat r.2) := by
                refine ⟨(r5.1.w7.wI (by decide) (by decide)).wJ (by decide) (by decide), ?_, r5.2.2.1, by rw [sI_nc (p := 70) (show 70 ≠ 94 by decide)]; exact r5.2.2.2.1, ((r5.2.2.2.2.kC hc (by omega)).kC hc (by omega)).kM (by omega)⟩
                exact RR.clsp (b := r.2) hc S0 P0 r5.2.1 (if_pos rfl).symm r6 (fun a h1 _ => funext fun j => gI_nc h1) (fun j h0 h1 => gI_ni h0 (by omega) h1) gI_eq (fun a h1 h2 => funext fun j => (gI_nc h1).trans (gI_nc h2)) (fun j h0 h1 => (gI_ni h0 P0 h1).trans (gI_nc (show 44 ≠ 34 by decide))) gI_eq (by rw [sI_nc (p := 34) (show 34 ≠ 44 by decide), sI_eq])
              have ct : cT s2 = f_X3_closeBlock (sI s2 34 2 p3) := by
                unfold cT
                rw [r2]
                dsimp only
                rw [if_pos (show ¬ (sI s2 34 2 p3).1 34 7 = 0 by rw [o7]; omega), if_neg (fun z => z rfl)]
              have pl : (sI (sI (sI s2 34 2 (p3 + 1)) 34 7 0) 44 P.toNat (gI (sI s2 34 2 (p3 + 1)) 46 0)).1 34 2 = p3 + 1 := by
                rw [sI_nc (p := 34) (show 34 ≠ 44 by decide), sI_ne (p := 34) (q := 2) (by omega), sI_eq]
              have le := sm.1.2.2.2.1
              have l5' := sm.1.2.2.2.2.1
              rw [pl] at le
              have rr : RT1 s2 (sI (sI (sI s2 34 2 (p3 + 1)) 34 7 0) 44 P.toNat (gI (sI s2 34 2 (p3 + 1)) 46 0)) := ⟨r3, (ct.trans cl).symm, Or.inl (by rw [r2]; dsimp only; rw [o7]; omega), fun _ => ⟨by rw [pl]; omega, by rw [pl]; omega⟩⟩
              have tP : gI (sI r.1 94 (5 * S + P).toNat r.2) 76 S = P + 1 := by rw [gI_nc (show 76 ≠ 94 by decide)]; exact rP
              have ph3 : ph S (sI (sI (sI s2 34 2 (p3 + 1)) 34 7 0) 44 P.toNat (gI (sI s2 34 2 (p3 + 1)) 46 0)) (sI r.1 94 (5 * S + P).toNat r.2) ≤ 0 := by
                unfold ph at r8 ⊢
                rw [pl, gI_nc (show 73 ≠ 94 by decide), gI_nc (show 75 ≠ 94 by decide)]
                rw [sI_eq] at r8
                unfold ph at phu
                omega
              have j18 := bd_e j17 (good_1 sm.1.2.2.2.2.2.2.2)
              have j19 := if_f j18 (show ¬ (1 : Int) = 0 by omega)
              clear j17 j18
              generalize sI (sI (sI s2 34 2 (p3 + 1)) 34 7 0) 44 P.toNat (gI (sI s2 34 2 (p3 + 1)) 46 0) = s3 at *
              generalize sI r.1 94 (5 * S + P).toNat r.2 = t3 at *
              obtain ⟨p4, v4, m1, m2, m3, m4, m5, m6, m7, m8⟩ := SM.look hc sm
              have j20 := bd2_e j19 m2.symm
              have o3 : s3.1 34 7 = 0 := sm.2.1.2.2.2.2.2.2.2
              by_cases z4 : v4 = -1
              · have j21 := if_f j20 (fun x => x z4)
                rw [j21]
                rw [z4] at m1 m3
                refine Or.inr ⟨k + 1, s3, _, _, P + 1, r1.tr (RUN.one rr), sm.1.2.2.2.2.2.2.1, m1, m3, m5, ?_, by omega, by rw [ph_mv]; omega⟩
                rw [gI_nc (show 76 ≠ 70 by decide)]
                exact tP.symm
              · have j21 := if_t j20 z4
                rw [j21]
                have I := ih 0 _ (P + 1) (sI s3 34 2 p4) (sI t3 70 4 p4) m5 (by rw [gI_nc (show 76 ≠ 70 by decide)]; exact tP.symm) (by rw [ph_mv]; omega) (by rw [sI_eq]; omega)
                have c3 : cT s3 = f_X3_readProcedure (sI s3 34 2 p4) := by
                  unfold cT
                  rw [m1]
                  dsimp only
                  rw [if_neg (fun x => x (by rw [sI_ne (p := 34) (q := 7) (by omega)]; exact o3))]
                have rr3 : RT1 s3 (f_X3_readProcedure (sI s3 34 2 p4)) := ⟨sm.1.2.2.2.2.2.2.1, c3.symm, Or.inr (by rw [m1]; exact z4), fun x => by
                  have y := I.1 x
                  rw [sI_eq] at y
                  exact ⟨by omega, y.2⟩⟩
                rcases I.2 with ⟨k2, s', q1, q2⟩ | ⟨k2, s', sm', B', P', q1, q2⟩
                · exact Or.inl ⟨k + 1 + 1 + k2, s', ((r1.tr (RUN.one rr)).tr (RUN.one rr3)).tr q1, q2⟩
                · exact Or.inr ⟨k + 1 + 1 + k2, s', sm', B', P', ((r1.tr (RUN.one rr)).tr (RUN.one rr3)).tr q1, q2⟩
        · have j9 := if_f j8 z3
          have j10 := bd_e j9 rfl
          have j11 := bd_e j10 rfl
          have j12 := bd_e j11 (good_0 (bq 3 (by omega)).1)
          have j13 := if_f j12 (fun x => x rfl)
          exact bad 3 (by omega) (rp_b3 hc h.2.2.1 l1 cP z1 (Or.inr z3)) j13
    · have j3 := bd_e j2 (isIn_0 z1)
      have j4 := if_f j3 (fun x => x rfl)
      have j5 := bd_e j4 rfl
      have j6 := bd_e j5 rfl
      have j7 := bd_e j6 (good_0 (bq 1 (by omega)).1)
      have j8 := if_f j7 (fun x => x rfl)
      exact bad 1 (by omega) (rp_b1 l1 z1) j8

