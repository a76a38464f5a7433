/-! what is shown, after another text was read -/
theorem HIS.prog {P Q : PP} {h g k : HP} {u v : Int32} (hv : Iv P h) (hg : Iv Q g) (tq : P.1.toInt = P.2.1.toInt) (l : LHs (st h)) (his : HIS (st h)) (e1 : (st g, u.toInt) = f_X7_program (st h)) (fx1 : FX KC h g) (fx2 : FX KR g k) (pa : ∃ t, PgS g t (1 - (g.2.1 70 29).toInt) ∧ PgQ t k (1 - (g.2.1 70 29).toInt) v.toInt) (po : v.toInt = -2 → OHx g.2.1 k.2.1 (1 - (g.2.1 70 29).toInt)) : HIS (st k) := by
  obtain ⟨c, d, cd, r3, r4, alt⟩ := his
  obtain ⟨t, ⟨s1, s2, s3, s4, s5, s6, s7, s8, s9⟩, q⟩ := pa
  have b0 : 0 ≤ (st h).1 0 1 := (hv.2.1 0 1).1
  have b5 : (st h).1 0 1 ≤ 500 := (hv.2.1 0 1).2
  have lv1 : (g.2.1 70 29).toInt ≤ 1 := (hg.2.1 70 29).2
  have lv0 : 0 ≤ (g.2.1 70 29).toInt := (hg.2.1 70 29).1
  have t0 : (st h).1 0 1 = P.1.toInt := congrArg Int32.toInt hv.t0
  have t1 : (h.2.1 70 2).toInt = P.2.1.toInt := congrArg Int32.toInt hv.t1
  have g2 : (g.2.1 70 2).toInt = (h.2.1 70 2).toInt := congrArg Int32.toInt (fx1 70 2 (by unfold KC; omega)).1
  have g29 : g.2.1 70 29 = h.2.1 70 29 := (fx1 70 29 (by unfold KC; omega)).1
  have g30 : g.2.1 70 30 = h.2.1 70 30 := (fx1 70 30 (by unfold KC; omega)).1
  obtain ⟨S, eS⟩ : ∃ S, S = 1 - (g.2.1 70 29).toInt := ⟨_, rfl⟩
  rw [← eS] at s1 s6 s7 s8 s9 q po
  have tx : TX ((sI (st h) 0 1 0).1 1) (t.1 72) ((st h).1 0 1) := fun j y => by
    have y2 : (j : Int) < (h.2.1 0 1).toInt := y
    have y3 : (h.2.1 0 1).toInt = (st h).1 0 1 := rfl
    rw [sI_nc (show (1 : Nat) ≠ 0 by omega), s5 j (by omega)]
    show (h.2.1 1 j).toInt = (g.2.1 71 j).toInt
    rw [(fx1 71 j (by unfold KC; omega)).1]
    exact l.1 j y
  have pgi : PGI d S ((st h).1 0 1) (sI (st h) 0 1 0) t := ⟨by omega, by omega, b0, b5, s1, by rw [s2, g2]; omega, s3, s4, tx, s6, s7, s8, s9⟩
  have A := prog_same (s := sI (st h) 0 1 0) (a := (st h).1 0 1) pgi.1 pgi.2.1 b0 b5 s1 pgi.2.2.2.2.2.1 s3 s4 tx s6 s7 s8 s9 q
  have T := tp_prog2 cd e1 r3 r4
  have kr : ∀ p j, p ≤ 69 → (st k).1 p j = (st g).1 p j ∧ (st k).2.1 p j = (st g).2.1 p j ∧ (st k).2.2 p j = (st g).2.2 p j := fun p j hp => by
    have z := fx2 p j (by unfold KR; omega)
    exact ⟨congrArg Int32.toInt z.1, z.2.1, congrArg rN z.2.2⟩
  by_cases z : (f_X3_read (sI (st h) 0 1 0) ((st h).1 0 1) d).2 = 0
  · have r := T.2.1 z
    have f0 := A.1
    rw [z] at f0
    rcases q with q | q | ⟨FL, FG, lg, q⟩
    · exact absurd (q.2.2.symm.trans f0.symm) q.1
    · exfalso
      have := q.2.2.2.2
      omega
    · rcases q with q | q
      · have e29 : (st k).1 70 29 = S := q.2.2.2.2.1
        refine ⟨d, c, by omega, (kr 0 3 (by omega)).2.2.trans r.1, (kr 0 4 (by omega)).2.2.trans r.2, Or.inr ⟨q.2.2.2.2.2, ?_⟩⟩
        rw [e29]
        refine ⟨sI (st h) 0 1 0, t, (st h).1 0 1, FL, FG, pgi, lg, q.1, fun p j p1 p2 => ?_, fun x j x1 x2 _ _ => congrArg Int32.toInt (q.2.2.2.1 x j x1 x2)⟩
        have w := T.1 p j (by omega) (by omega)
        exact ⟨(kr p j (by omega)).1.trans w.1, (kr p j (by omega)).2.1.trans w.2⟩
      · exfalso
        have := q.2.2
        omega
  · have r := T.2.2.1 z
    have o := po (A.2.2 z)
    have e30 : (st k).1 70 30 = (st h).1 70 30 := congrArg Int32.toInt (o.2.2.trans g30)
    have e29 : (st k).1 70 29 = (st h).1 70 29 := congrArg Int32.toInt (o.2.1.trans g29)
    have cells : ∀ p j, c ≤ p → p ≤ c + 15 → (st k).1 p j = (st h).1 p j ∧ (st k).2.1 p j = (st h).2.1 p j := fun p j p1 p2 => by
      have w := T.1 p j (by omega) (by omega)
      have x := T.2.2.2 p p1 p2
      exact ⟨((kr p j (by omega)).1.trans w.1).trans (congrFun x.1 j), ((kr p j (by omega)).2.1.trans w.2).trans (congrFun x.2 j)⟩
    refine ⟨c, d, cd, (kr 0 3 (by omega)).2.2.trans r.1, (kr 0 4 (by omega)).2.2.trans r.2, ?_⟩
    rw [e30, e29, (cells c 0 (by omega) (by omega)).1, (cells c 1 (by omega) (by omega)).1, (cells c 3 (by omega) (by omega)).1, (cells c 4 (by omega) (by omega)).1, (cells c 2 (by omega) (by omega)).2]
    rcases alt with a | a
    · exact Or.inl a
    · refine Or.inr ⟨a.1, HISC.cong cells (fun x j x1 x2 w1 w2 => ?_) a.2⟩
      have eL : (st h).1 70 29 = (g.2.1 70 29).toInt := congrArg Int32.toInt g29.symm
      rw [eL] at w1 w2
      have nw : ¬ (wd x * S ≤ (j : Int) ∧ (j : Int) < wd x * S + wd x) := by
        rcases (show (g.2.1 70 29).toInt = 0 ∨ (g.2.1 70 29).toInt = 1 by omega) with y | y
        · rw [y] at w1 w2
          rw [eS, y]
          omega
        · rw [y] at w1 w2
          rw [eS, y]
          omega
      exact congrArg Int32.toInt ((o.1 x j x1 x2 nw).trans (fx1 x j (by unfold KC; omega)).1)
theorem HIS.fx {K : Nat → Nat → Prop} {h g : HP} (f : FX K h g) (k : ∀ c j, (c = 0 ∧ (j = 3 ∨ j = 4)) ∨ (2 ≤ c ∧ c ≤ 33) ∨ (c = 70 ∧ (j = 29 ∨ j = 30)) ∨ (73 ≤ c ∧ c ≤ 102) → K c j) (l : HIS (st h)) : HIS (st g) :=
  HIS.cong (s := st h) (s' := st g) (congrArg rN (f 0 3 (k 0 3 (by omega))).2.2) (congrArg rN (f 0 4 (k 0 4 (by omega))).2.2) (fun q j z => congrArg Int32.toInt (f q j (k q j (by omega))).1) (fun q j q1 q2 => (f q j (k q j (by omega))).2.1) l
theorem HIS.kac {h g : HP} (f : FX KAc h g) (l : HIS (st h)) : HIS (st g) := HIS.fx f (fun c j z => by unfold KAc; omega) l
theorem HIS.kar {h g : HP} (f : FX KAr h g) (l : HIS (st h)) : HIS (st g) := HIS.fx f (fun c j z => by unfold KAr; omega) l
theorem tp8_j {s : ST} {b : Int} {j : Nat} (h : j ≠ 2) : (st8 s b).1 70 j = s.1 70 j := by
  unfold st8
  rw [sI_ne (show ¬ ((70 : Nat) = 70 ∧ j = 2) by omega), sI_nc (by omega)]
theorem tp8_fij {s : ST} {a b c d e : Int} {j : Nat} (h : j ≠ 2) : (fi8 s a b c d e).1 70 j = s.1 70 j := by
  unfold fi8
  unfold fo8
  rw [tp8_j h, tp8_j h, tp8_j h, tp8_j h, tp8_j h, tp8_j h, tp8_j h, tp8_j h, tp8_j h, tp8_j h, tp8_j h, tp8_j h, tp8_j h, tp8_j h, tp8_j h, tp8_j h, tp8_j h, tp8_j h, tp8_j h, tp8_j h]
theorem his_feed {s s1 s2 : ST} {u v a b c d e a' b' c' d' e' : Int} (e1 : (s1, u) = f_X7_feed s a b c d e) (e2 : (s2, v) = f_X8_feed s1 a' b' c' d' e') (h : HIS s) : HIS s2 := by
  unfold f_X7_feed at e1
  unfold f_X8_feed at e2
  have k1 := bd_e e1 rfl
  have j1 := bd_e e2 rfl
  have h1 : s1 = s ∨ s1 = fi7 s a b c d e := by
    by_cases q : s.1 0 1 + 20 ≤ 500
    · have k2 := if_t k1 q
      have k3 := bd_e k2 (put7 s a)
      have k4 := bd_e k3 (put7 _ b)
      have k5 := bd_e k4 (put7 _ c)
      have k6 := bd_e k5 (put7 _ d)
      have k7 := bd_e k6 (put7 _ e)
      have k8 := bd_e k7 rfl
      exact Or.inr (congrArg Prod.fst k8)
    · exact Or.inl (congrArg Prod.fst (if_f k1 q))
  have h2 : s2 = s1 ∨ s2 = fi8 s1 a' b' c' d' e' := by
    by_cases q : s1.1 70 2 + 20 ≤ 500
    · have k2 := if_t j1 q
      have k3 := bd_e k2 (put8 s1 a')
      have k4 := bd_e k3 (put8 _ b')
      have k5 := bd_e k4 (put8 _ c')
      have k6 := bd_e k5 (put8 _ d')
      have k7 := bd_e k6 (put8 _ e')
      have k8 := bd_e k7 rfl
      exact Or.inr (congrArg Prod.fst k8)
    · exact Or.inl (congrArg Prod.fst (if_f j1 q))
  have g1 : HIS s1 := by
    rcases h1 with z | z
    · rw [z]; exact h
    · rw [z]
      exact HIS.cong (s := s) (s' := fi7 s a b c d e) rfl rfl (fun q j y => congrFun (tp7_fi (show q ≠ 0 by omega) (show q ≠ 1 by omega)) j) (fun q j _ _ => rfl) h
  rcases h2 with z | z
  · rw [z]; exact g1
  · rw [z]
    refine HIS.cong (s := s1) (s' := fi8 s1 a' b' c' d' e') rfl rfl (fun q j y => ?_) (fun q j _ _ => rfl) g1
    by_cases w : q = 70
    · rw [w]; exact tp8_fij (by omega)
    · exact congrFun (tp8_fi w (by omega)) j
theorem his_end {s s1 s2 : ST} {u v a a' : Int} (e1 : (s1, u) = f_X7_end s a) (e2 : (s2, v) = f_X8_end s1 a') (h : HIS s) : HIS s2 := by
  have h1 : s1 = s ∨ s1 = sI s 0 1 a := by
    unfold f_X7_end at e1
    by_cases q : a < 0
    · exact Or.inl (congrArg Prod.fst (if_t e1 q))
    · have k0 := if_f e1 q
      have k := bd_e k0 rfl
      by_cases w : a ≤ s.1 0 1
      · have k1 := if_t k w
        have k2 := bd_e k1 rfl
        exact Or.inr (congrArg Prod.fst k2)
      · exact Or.inl (congrArg Prod.fst (if_f k w))
  have h2 : s2 = s1 ∨ s2 = sI s1 70 2 a' := by
    unfold f_X8_end at e2
    have k0 := bd_e e2 rfl
    have k := bd_e k0 rfl
    by_cases q : ¬ f_X8_isIn s1 a' 0 (s1.1 70 2) = 0
    · have k1 := if_t k q
      have k2 := bd_e k1 rfl
      exact Or.inr (congrArg Prod.fst k2)
    · exact Or.inl (congrArg Prod.fst (if_f k q))
  have g1 : HIS s1 := by
    rcases h1 with z | z
    · rw [z]; exact h
    · rw [z]
      exact HIS.cong (s := s) (s' := sI s 0 1 a) rfl rfl (fun q j y => sI_ne (by omega)) (fun q j _ _ => rfl) h
  rcases h2 with z | z
  · rw [z]; exact g1
  · rw [z]
    exact HIS.cong (s := s1) (s' := sI s1 70 2 a') rfl rfl (fun q j y => sI_ne (by omega)) (fun q j _ _ => rfl) g1
theorem his0 {h : HP} (z : ∀ c j, ¬ (c = 64 ∧ j = 6) → h.2.1 c j = 0) (l : h.2.2.1 2 2 = 0) (r3 : h.2.2.2 0 3 = .ref 2) (r4 : h.2.2.2 0 4 = .ref 18) : HIS (st h) := by
  refine ⟨2, 18, by omega, st_c r3, st_c r4, Or.inl ⟨?_, ?_, ?_, ?_, ?_, l⟩⟩
  · show (h.2.1 70 30).toInt = 0; rw [z _ _ (by omega)]; rfl
  · show (h.2.1 2 0).toInt = 0; rw [z _ _ (by omega)]; rfl
  · show (h.2.1 2 1).toInt = 0; rw [z _ _ (by omega)]; rfl
  · show (h.2.1 2 3).toInt = 0; rw [z _ _ (by omega)]; rfl
  · show (h.2.1 2 4).toInt = 0; rw [z _ _ (by omega)]; rfl

