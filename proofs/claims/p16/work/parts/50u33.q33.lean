/-! the tables that the law carries, over its moves -/
theorem TXV.fx {K : Nat → Nat → Prop} {h g : HP} (f : FX K h g) (k : ∀ c j, (c = 0 ∧ j = 3) ∨ (2 ≤ c ∧ c ≤ 33) ∨ (c = 49 ∧ j = 2) ∨ (58 ≤ c ∧ c ≤ 61) ∨ (c = 70 ∧ j = 30) ∨ (103 ≤ c ∧ c ≤ 107) → K c j) (hc : (st h).2.2 0 3 = 2 ∨ (st h).2.2 0 3 = 18) (t : TXV (st h)) : TXV (st g) :=
  TXV.cong (s := st h) (s' := st g) hc (congrArg rN (f 0 3 (k 0 3 (by omega))).2.2) (fun q j z => congrArg Int32.toInt (f q j (k q j (by omega))).1) (fun q j z => (f q j (k q j (by omega))).2.1) t
theorem TXV.kam {h g : HP} (f : FX KAm h g) (hi : HIS (st h)) (t : TXV (st h)) : TXV (st g) := TXV.fx f (fun c j z => by unfold KAm; omega) hi.c t
theorem TXV.kaq {h g : HP} (f : FX KAq h g) (hi : HIS (st h)) (t : TXV (st h)) : TXV (st g) := TXV.fx f (fun c j z => by unfold KAq; omega) hi.c t
theorem TXV.kp {h g : HP} (b74 : ∀ j, (st h).1 74 j ≤ 280) (hi : HIS (st h)) (hig : HIS (st g)) (t : TXV (st h)) (q : ∃ h1 : HP, (st h1 = st h ∨ ∃ c, h.2.2.2 0 3 = .ref c ∧ st h1 = f_X4_prepare2 (st h) c) ∧ FX KRN h1 g) : TXV (st g) := by
  obtain ⟨h1, e, f⟩ := q
  have p : PQf (st h) (st h1) := by
    refine ⟨st h1, ?_, GQf.rfl⟩
    rcases e with e | ⟨c, e1, e2⟩
    · exact Or.inl e
    · exact Or.inr (by rw [e2, st_c e1])
  have t1 := TXV.pq b74 hi t p
  have r : (st g).2.2 0 3 = (st h1).2.2 0 3 := congrArg rN (f 0 3 (by unfold KRN; omega)).2.2
  refine TXV.fx f (fun c j z => by unfold KRN; omega) ?_ t1
  rw [← r]
  exact hig.c
theorem txv_feed2 {s s1 s2 : ST} {u v a b c d e a' b' c' d' e' : Int} (e1 : (s1, u) = f_X7_feed s a b c d e) (e2 : (s2, v) = f_X8_feed s1 a' b' c' d' e') (hi : HIS s) (h : TXV s) : TXV s2 := by
  unfold f_X7_feed at e1
  unfold f_X8_feed at e2
  have k1 := bd_e e1 rfl
  have j1 := bd_e e2 rfl
  have h1 : s1 = s ∨ s1 = fi7 s a b c d e := by
    by_cases q : s.1 0 1 + 20 ≤ 500
    · have k2 := if_t k1 q
      have k3 := bd_e k2 (put7 s a)
      have k4 := bd_e k3 (put7 _ b)
      have k5 := bd_e k4 (put7 _ c)
      have k6 := bd_e k5 (put7 _ d)
      have k7 := bd_e k6 (put7 _ e)
      have k8 := bd_e k7 rfl
      exact Or.inr (congrArg Prod.fst k8)
    · exact Or.inl (congrArg Prod.fst (if_f k1 q))
  have h2 : s2 = s1 ∨ s2 = fi8 s1 a' b' c' d' e' := by
    by_cases q : s1.1 70 2 + 20 ≤ 500
    · have k2 := if_t j1 q
      have k3 := bd_e k2 (put8 s1 a')
      have k4 := bd_e k3 (put8 _ b')
      have k5 := bd_e k4 (put8 _ c')
      have k6 := bd_e k5 (put8 _ d')
      have k7 := bd_e k6 (put8 _ e')
      have k8 := bd_e k7 rfl
      exact Or.inr (congrArg Prod.fst k8)
    · exact Or.inl (congrArg Prod.fst (if_f j1 q))
  have g1 : TXV s1 ∧ (s1.2.2 0 3 = 2 ∨ s1.2.2 0 3 = 18) := by
    rcases h1 with z | z
    · rw [z]; exact ⟨h, hi.c⟩
    · rw [z]
      exact ⟨TXV.cong (s := s) (s' := fi7 s a b c d e) hi.c rfl (fun q j y => congrFun (tp7_fi (show q ≠ 0 by omega) (show q ≠ 1 by omega)) j) (fun q j _ => rfl) h, hi.c⟩
  rcases h2 with z | z
  · rw [z]; exact g1.1
  · rw [z]
    refine TXV.cong (s := s1) (s' := fi8 s1 a' b' c' d' e') g1.2 rfl (fun q j y => ?_) (fun q j _ => rfl) g1.1
    by_cases w : q = 70
    · rw [w]; exact tp8_fij (by omega)
    · exact congrFun (tp8_fi w (by omega)) j
theorem txv_end {s s1 s2 : ST} {u v a a' : Int} (e1 : (s1, u) = f_X7_end s a) (e2 : (s2, v) = f_X8_end s1 a') (hi : HIS s) (h : TXV s) : TXV s2 := by
  have h1 : s1 = s ∨ s1 = sI s 0 1 a := by
    unfold f_X7_end at e1
    by_cases q : a < 0
    · exact Or.inl (congrArg Prod.fst (if_t e1 q))
    · have k0 := if_f e1 q
      have k := bd_e k0 rfl
      by_cases w : a ≤ s.1 0 1
      · have k1 := if_t k w
        have k2 := bd_e k1 rfl
        exact Or.inr (congrArg Prod.fst k2)
      · exact Or.inl (congrArg Prod.fst (if_f k w))
  have h2 : s2 = s1 ∨ s2 = sI s1 70 2 a' := by
    unfold f_X8_end at e2
    have k0 := bd_e e2 rfl
    have k := bd_e k0 rfl
    by_cases q : ¬ f_X8_isIn s1 a' 0 (s1.1 70 2) = 0
    · have k1 := if_t k q
      have k2 := bd_e k1 rfl
      exact Or.inr (congrArg Prod.fst k2)
    · exact Or.inl (congrArg Prod.fst (if_f k q))
  have g1 : TXV s1 ∧ (s1.2.2 0 3 = 2 ∨ s1.2.2 0 3 = 18) := by
    rcases h1 with z | z
    · rw [z]; exact ⟨h, hi.c⟩
    · rw [z]
      exact ⟨TXV.cong (s := s) (s' := sI s 0 1 a) hi.c rfl (fun q j y => sI_ne (by omega)) (fun q j _ => rfl) h, hi.c⟩
  rcases h2 with z | z
  · rw [z]; exact g1.1
  · rw [z]
    exact TXV.cong (s := s1) (s' := sI s1 70 2 a') g1.2 rfl (fun q j y => sI_ne (by omega)) (fun q j _ => rfl) g1.1
theorem txv0 {h : HP} (z : ∀ c j, ¬ (c = 64 ∧ j = 6) → h.2.1 c j = 0) : TXV (st h) := by
  refine ⟨Or.inl ?_, Or.inl ?_⟩
  · show (h.2.1 70 30).toInt = 0; rw [z _ _ (by omega)]; rfl
  · show (h.2.1 49 2).toInt = 0; rw [z _ _ (by omega)]; rfl
theorem tp_prog3 {s s1 : ST} {u : Int} {c d : Nat} (cd : c = 2 ∧ d = 18 ∨ c = 18 ∧ d = 2) (e1 : (s1, u) = f_X7_program s) (r4 : s.2.2 0 4 = d) :
    ((f_X3_read (sI s 0 1 0) (s.1 0 1) d).2 = 0 → s1.1 49 2 = 0) ∧ ((f_X3_read (sI s 0 1 0) (s.1 0 1) d).2 ≠ 0 → ∀ p j, 49 ≤ p → s1.1 p j = s.1 p j ∧ s1.2.1 p j = s.2.1 p j) := by
  have kg : KGp d (sI s 0 1 0) (f_X3_read (sI s 0 1 0) (s.1 0 1) d) := kg_X3_read (by omega) rfl
  unfold f_X7_program at e1
  have k1 := bd_e e1 rfl
  have k2 := bd_e k1 rfl
  have k3 := bd_e k2 (show (sI s 0 1 0).2.2 0 4 = d from r4)
  generalize f_X3_read (sI s 0 1 0) (s.1 0 1) d = R at k3 kg ⊢
  obtain ⟨s8, v⟩ := R
  have k4 := bd2_e k3 rfl
  have k5 := bd_e k4 rfl
  have fr : ∀ p, 49 ≤ p → s8.1 p = (sI s 0 1 0).1 p ∧ s8.2.1 p = s.2.1 p := fun p hp => ⟨(kg.2.2 p hp).1, (kg.2.2 p hp).2.1⟩
  dsimp only at fr ⊢
  by_cases q : v = 0
  · have k6 := if_t k5 q
    have k7 := bd_e k6 rfl
    have k8 := bd_e k7 rfl
    have k9 := bd_e k8 rfl
    have k10 := bd_e k9 rfl
    have k11 := bd_e k10 rfl
    have k12 := bd_e k11 rfl
    have k13 := bd_e k12 rfl
    have k14 := bd_e k13 rfl
    have a1 := congrArg Prod.fst k14
    dsimp only at a1
    refine ⟨fun _ => ?_, fun z => absurd q z⟩
    rw [a1, fg2 (by omega)]
    exact sI_eq _ 49 2 0
  · have k6 := if_f k5 q
    have a1 := congrArg Prod.fst k6
    dsimp only at a1
    refine ⟨fun z => absurd z q, fun _ p j hp => ⟨?_, ?_⟩⟩
    · rw [a1, sI_nc (by omega), (fr p hp).1, sI_nc (by omega)]
    · rw [a1]
      show s8.2.1 p j = _
      rw [(fr p hp).2]
theorem TXV.prog {P Q : PP} {h g k : HP} {u v : Int32} (hv : Iv P h) (hg : Iv Q g) (tq : P.1.toInt = P.2.1.toInt) (l : LHs (st h)) (his : HIS (st h)) (hik : HIS (st k)) (b74 : ∀ j, (st k).1 74 j ≤ 280) (h01 : H01 (st k).1) (t : TXV (st h)) (e1 : (st g, u.toInt) = f_X7_program (st h)) (fx1 : FX KC h g) (fx2 : FX KR g k) (pa : ∃ t, PgS g t (1 - (g.2.1 70 29).toInt) ∧ PgQ t k (1 - (g.2.1 70 29).toInt) v.toInt) (po : v.toInt = -2 → OHx g.2.1 k.2.1 (1 - (g.2.1 70 29).toInt)) (pl : 0 ≤ v.toInt → ∃ s1 : ST, st k = f_X8_laysAll2 s1 ∧ s1.1 70 6 = (k.2.1 70 29).toInt) (pk : v.toInt = -2 → FX KRt g k) : TXV (st k) := by
  obtain ⟨c, d, cd, r3, r4, alt⟩ := his
  obtain ⟨tt, ⟨s1, s2, s3, s4, s5, s6, s7, s8, s9⟩, q⟩ := pa
  have b0 : 0 ≤ (st h).1 0 1 := (hv.2.1 0 1).1
  have b5 : (st h).1 0 1 ≤ 500 := (hv.2.1 0 1).2
  have lv1 : (g.2.1 70 29).toInt ≤ 1 := (hg.2.1 70 29).2
  have lv0 : 0 ≤ (g.2.1 70 29).toInt := (hg.2.1 70 29).1
  have t0 : (st h).1 0 1 = P.1.toInt := congrArg Int32.toInt hv.t0
  have t1 : (h.2.1 70 2).toInt = P.2.1.toInt := congrArg Int32.toInt hv.t1
  have g2 : (g.2.1 70 2).toInt = (h.2.1 70 2).toInt := congrArg Int32.toInt (fx1 70 2 (by unfold KC; omega)).1
  obtain ⟨S, eS⟩ : ∃ S, S = 1 - (g.2.1 70 29).toInt := ⟨_, rfl⟩
  rw [← eS] at s1 s6 s7 s8 s9 q po
  have tx : TX ((sI (st h) 0 1 0).1 1) (tt.1 72) ((st h).1 0 1) := fun j y => by
    have y2 : (j : Int) < (h.2.1 0 1).toInt := y
    have y3 : (h.2.1 0 1).toInt = (st h).1 0 1 := rfl
    rw [sI_nc (show (1 : Nat) ≠ 0 by omega), s5 j (by omega)]
    show (h.2.1 1 j).toInt = (g.2.1 71 j).toInt
    rw [(fx1 71 j (by unfold KC; omega)).1]
    exact l.1 j y
  have A := prog_same (s := sI (st h) 0 1 0) (c := d) (a := (st h).1 0 1) (by omega) (by omega) b0 b5 s1 (by rw [s2, g2]; omega) s3 s4 tx s6 s7 s8 s9 q
  have T := tp_prog2 cd e1 r3 r4
  have T3 := tp_prog3 cd e1 r4
  have kr : ∀ p j, p ≤ 69 → (st k).1 p j = (st g).1 p j ∧ (st k).2.1 p j = (st g).2.1 p j ∧ (st k).2.2 p j = (st g).2.2 p j := fun p j hp => by
    have z := fx2 p j (by unfold KR; omega)
    exact ⟨congrArg Int32.toInt z.1, z.2.1, congrArg rN z.2.2⟩
  by_cases z : (f_X3_read (sI (st h) 0 1 0) ((st h).1 0 1) d).2 = 0
  · have v0 : 0 ≤ v.toInt := by
      rw [A.2.1 z, ← (T.1 d 0 (by omega) (by omega)).1]
      show 0 ≤ (g.2.1 d 0).toInt
      rcases (show d = 2 ∨ d = 18 by omega) with y | y
      · rw [y]; exact (hg.2.1 2 0).1
      · rw [y]; exact (hg.2.1 18 0).1
    obtain ⟨w1, ek, e6⟩ := pl v0
    refine ⟨?_, Or.inl ?_⟩
    · obtain ⟨c', d', cd', h3, h4, alt'⟩ := hik
      rw [h3]
      rcases alt' with a | a
      · exact Or.inl a.1
      · have b := HISC.bri b74 a.2
        exact Or.inr (RTB.laid (S := (st k).1 70 29) e6 ek b.1 h01)
    · rw [(kr 49 2 (by omega)).1]
      exact T3.1 z
  · have r := T.2.2.1 z
    have vm : v.toInt = -2 := A.2.2 z
    have o := pk vm
    have oo := po vm
    have e3 : (st k).2.2 0 3 = c := (kr 0 3 (by omega)).2.2.trans r.1
    have F : EQF c (st h).1 (st k).1 := fun p p1 p2 => funext fun j => by
      have w := T.1 p j (by omega) (by omega)
      have x := T.2.2.2 p p1 p2
      exact ((kr p j (by omega)).1.trans w.1).trans (congrFun x.1 j)
    have i3 : ∀ p j, 103 ≤ p → p ≤ 107 → (st k).1 p j = (st h).1 p j ∧ (st k).2.1 p j = (st h).2.1 p j := fun p j p1 p2 => by
      have a := o p j (by unfold KRt; omega)
      have b := fx1 p j (by unfold KC; omega)
      exact ⟨(congrArg Int32.toInt a.1).trans (congrArg Int32.toInt b.1), a.2.1.trans b.2.1⟩
    have i4 : ∀ p j, 49 ≤ p → p ≤ 69 → (st k).1 p j = (st h).1 p j ∧ (st k).2.1 p j = (st h).2.1 p j := fun p j p1 p2 => by
      have a := kr p j p2
      have b := T3.2 z p j p1
      exact ⟨a.1.trans b.1, a.2.1.trans b.2⟩
    unfold TXV at t ⊢
    rw [e3]
    rw [r3] at t
    refine ⟨?_, ?_⟩
    · rcases t.1 with w | w
      · refine Or.inl ?_
        have e30 : (st k).1 70 30 = (st h).1 70 30 := congrArg Int32.toInt (oo.2.2.trans (fx1 70 30 (by unfold KC; omega)).1)
        rw [e30]
        exact w
      · exact Or.inr (RTB.cg F (RTB.s (fun j => (i3 103 j (by omega) (by omega)).1) (fun p j hp => (i3 p j (by omega) (by omega)).2) w))
    · rcases t.2 with w | w
      · refine Or.inl ?_
        rw [(i4 49 2 (by omega) (by omega)).1]
        exact w
      · exact Or.inr (TBL.cg F (TBL.s (fun p j p1 p2 => (i4 p j (by omega) (by omega)).2) w))
