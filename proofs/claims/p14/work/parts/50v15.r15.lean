/-! the law's moves: the tables of both sides -/
theorem TXW.fx {K : Nat → Nat → Prop} {h g : HP} (f : FX K h g) (k : ∀ c j, (c = 0 ∧ j = 3) ∨ (2 ≤ c ∧ c ≤ 33) ∨ (c = 49 ∧ (j = 1 ∨ j = 2 ∨ j = 10)) ∨ c = 50 ∨ c = 51 ∨ c = 55 ∨ (58 ≤ c ∧ c ≤ 61) ∨ (c = 70 ∧ j = 30) ∨ (103 ≤ c ∧ c ≤ 108) ∨ c = 111 → K c j) (hc : (st h).2.2 0 3 = 2 ∨ (st h).2.2 0 3 = 18) (t : TXW (st h)) : TXW (st g) :=
  TXW.cong (s := st h) (s' := st g) hc (congrArg rN (f 0 3 (k 0 3 (by omega))).2.2) (congrArg rN (f 49 1 (k 49 1 (by omega))).2.2) (fun q j z => congrArg Int32.toInt (f q j (k q j (by omega))).1) (fun q j z => (f q j (k q j (by omega))).2.1) t
theorem TXW.kam {h g : HP} (f : FX KAm h g) (hi : HIS (st h)) (t : TXW (st h)) : TXW (st g) := TXW.fx f (fun c j z => by unfold KAm; omega) hi.c t
theorem TXW.kaq {h g : HP} (f : FX KAq h g) (hi : HIS (st h)) (t : TXW (st h)) : TXW (st g) := TXW.fx f (fun c j z => by unfold KAq; omega) hi.c t
theorem TXW.kp {h g : HP} (b74 : ∀ j, (st h).1 74 j ≤ 280) (hi : HIS (st h)) (hig : HIS (st g)) (t : TXW (st h)) (q : ∃ h1 : HP, (st h1 = st h ∨ ∃ c, h.2.2.2 0 3 = .ref c ∧ st h1 = f_X4_prepare2 (st h) c) ∧ FX KRN h1 g) : TXW (st g) := by
  obtain ⟨h1, e, f⟩ := q
  have t1 : TXW (st h1) := by
    rcases e with e | ⟨c, e1, e2⟩
    · rw [e]; exact t
    · have p := (TXW.prep b74 hi t).2.2
      rw [st_c e1] at p
      rw [e2]
      exact p
  have r : (st g).2.2 0 3 = (st h1).2.2 0 3 := congrArg rN (f 0 3 (by unfold KRN; omega)).2.2
  refine TXW.fx f (fun c j z => by unfold KRN; omega) ?_ t1
  rw [← r]
  exact hig.c
theorem txw_feed2 {s s1 s2 : ST} {u v a b c d e a' b' c' d' e' : Int} (e1 : (s1, u) = f_X7_feed s a b c d e) (e2 : (s2, v) = f_X8_feed s1 a' b' c' d' e') (hi : HIS s) (h : TXW s) : TXW s2 := by
  unfold f_X7_feed at e1
  unfold f_X8_feed at e2
  have k1 := bd_e e1 rfl
  have j1 := bd_e e2 rfl
  have h1 : s1 = s ∨ s1 = fi7 s a b c d e := by
    by_cases q : s.1 0 1 + 20 ≤ 500
    · have k2 := if_t k1 q
      have k3 := bd_e k2 (put7 s a)
      have k4 := bd_e k3 (put7 _ b)
      have k5 := bd_e k4 (put7 _ c)
      have k6 := bd_e k5 (put7 _ d)
      have k7 := bd_e k6 (put7 _ e)
      have k8 := bd_e k7 rfl
      exact Or.inr (congrArg Prod.fst k8)
    · exact Or.inl (congrArg Prod.fst (if_f k1 q))
  have h2 : s2 = s1 ∨ s2 = fi8 s1 a' b' c' d' e' := by
    by_cases q : s1.1 70 2 + 20 ≤ 500
    · have k2 := if_t j1 q
      have k3 := bd_e k2 (put8 s1 a')
      have k4 := bd_e k3 (put8 _ b')
      have k5 := bd_e k4 (put8 _ c')
      have k6 := bd_e k5 (put8 _ d')
      have k7 := bd_e k6 (put8 _ e')
      have k8 := bd_e k7 rfl
      exact Or.inr (congrArg Prod.fst k8)
    · exact Or.inl (congrArg Prod.fst (if_f j1 q))
  have g1 : TXW s1 ∧ (s1.2.2 0 3 = 2 ∨ s1.2.2 0 3 = 18) := by
    rcases h1 with z | z
    · rw [z]; exact ⟨h, hi.c⟩
    · rw [z]
      exact ⟨TXW.cong (s := s) (s' := fi7 s a b c d e) hi.c rfl rfl (fun q j y => congrFun (tp7_fi (show q ≠ 0 by omega) (show q ≠ 1 by omega)) j) (fun q j _ => rfl) h, hi.c⟩
  rcases h2 with z | z
  · rw [z]; exact g1.1
  · rw [z]
    refine TXW.cong (s := s1) (s' := fi8 s1 a' b' c' d' e') g1.2 rfl rfl (fun q j y => ?_) (fun q j _ => rfl) g1.1
    by_cases w : q = 70
    · rw [w]; exact tp8_fij (by omega)
    · exact congrFun (tp8_fi w (by omega)) j
theorem txw_end {s s1 s2 : ST} {u v a a' : Int} (e1 : (s1, u) = f_X7_end s a) (e2 : (s2, v) = f_X8_end s1 a') (hi : HIS s) (h : TXW s) : TXW s2 := by
  have h1 : s1 = s ∨ s1 = sI s 0 1 a := by
    unfold f_X7_end at e1
    by_cases q : a < 0
    · exact Or.inl (congrArg Prod.fst (if_t e1 q))
    · have k0 := if_f e1 q
      have k := bd_e k0 rfl
      by_cases w : a ≤ s.1 0 1
      · have k1 := if_t k w
        have k2 := bd_e k1 rfl
        exact Or.inr (congrArg Prod.fst k2)
      · exact Or.inl (congrArg Prod.fst (if_f k w))
  have h2 : s2 = s1 ∨ s2 = sI s1 70 2 a' := by
    unfold f_X8_end at e2
    have k0 := bd_e e2 rfl
    have k := bd_e k0 rfl
    by_cases q : ¬ f_X8_isIn s1 a' 0 (s1.1 70 2) = 0
    · have k1 := if_t k q
      have k2 := bd_e k1 rfl
      exact Or.inr (congrArg Prod.fst k2)
    · exact Or.inl (congrArg Prod.fst (if_f k q))
  have g1 : TXW s1 ∧ (s1.2.2 0 3 = 2 ∨ s1.2.2 0 3 = 18) := by
    rcases h1 with z | z
    · rw [z]; exact ⟨h, hi.c⟩
    · rw [z]
      exact ⟨TXW.cong (s := s) (s' := sI s 0 1 a) hi.c rfl rfl (fun q j y => sI_ne (by omega)) (fun q j _ => rfl) h, hi.c⟩
  rcases h2 with z | z
  · rw [z]; exact g1.1
  · rw [z]
    exact TXW.cong (s := s1) (s' := sI s1 70 2 a') g1.2 rfl rfl (fun q j y => sI_ne (by omega)) (fun q j _ => rfl) g1.1
theorem txw0 {h : HP} (z : ∀ c j, ¬ (c = 64 ∧ j = 6) → h.2.1 c j = 0) : TXW (st h) := by
  refine ⟨Or.inl ?_, Or.inl ?_⟩
  · show (h.2.1 70 30).toInt = 0; rw [z _ _ (by omega)]; rfl
  · show (h.2.1 49 2).toInt = 0; rw [z _ _ (by omega)]; rfl
/-- what the class's reading leaves behind its codes -/
theorem tp_prog4 {s s1 : ST} {u : Int} {c d : Nat} (cd : c = 2 ∧ d = 18 ∨ c = 18 ∧ d = 2) (e1 : (s1, u) = f_X7_program s) (r4 : s.2.2 0 4 = d) :
    ((f_X3_read (sI s 0 1 0) (s.1 0 1) d).2 = 0 → s1.1 49 2 = 0) ∧ ((f_X3_read (sI s 0 1 0) (s.1 0 1) d).2 ≠ 0 → ∀ p j, 49 ≤ p → s1.1 p j = s.1 p j ∧ s1.2.1 p j = s.2.1 p j ∧ s1.2.2 p j = s.2.2 p j) := by
  have kg : KGp d (sI s 0 1 0) (f_X3_read (sI s 0 1 0) (s.1 0 1) d) := kg_X3_read (by omega) rfl
  have z := tp_prog3 cd e1 r4
  refine ⟨z.1, fun n p j hp => ⟨(z.2 n p j hp).1, (z.2 n p j hp).2, ?_⟩⟩
  unfold f_X7_program at e1
  have k1 := bd_e e1 rfl
  have k2 := bd_e k1 rfl
  have k3 := bd_e k2 (show (sI s 0 1 0).2.2 0 4 = d from r4)
  generalize f_X3_read (sI s 0 1 0) (s.1 0 1) d = R at k3 kg n
  obtain ⟨s8, v⟩ := R
  have k4 := bd2_e k3 rfl
  have k5 := bd_e k4 rfl
  have k6 := if_f k5 n
  have a1 := congrArg Prod.fst k6
  dsimp only at a1
  rw [a1]
  show s8.2.2 p j = _
  rw [(kg.2.2 p hp).2.2]
  rfl
theorem RW.laid {c : Nat} {S : Int} {s1 k : ST} (hS : s1.1 70 6 = S) (hk : k = f_X8_laysAll2 s1) (b : BRI c S k.1) (h01 : H01 k.1) : RTB c k.1 k ∧ RT2 c k.1 k := by
  refine ⟨RTB.laid hS hk b h01, ?_⟩
  have fr : GLf s1 k := by
    rw [hk]
    exact glf_X8_laysAll2
  have e : ∀ p, p < 70 ∨ (70 < p ∧ p < 103) → s1.1 p = k.1 p := fun p hp => funext fun j => (fr.2.1 p j (by omega)).symm
  have b1 : BRI c S s1.1 := b.cg e
  have h1 : H01 s1.1 := fun q j hq => by
    rw [e q (by omega)]
    exact h01 q j hq
  have l := laysAll2_ok hS b1 h1
  rw [← hk] at l
  exact RT2.cg (F := s1.1) (fun p p1 p2 => (e p (by have := b.1; omega)).symm) l
theorem TXW.prog {P Q : PP} {h g k : HP} {u v : Int32} (hv : Iv P h) (hg : Iv Q g) (tq : P.1.toInt = P.2.1.toInt) (l : LHs (st h)) (his : HIS (st h)) (hik : HIS (st k)) (b74 : ∀ j, (st k).1 74 j ≤ 280) (h01 : H01 (st k).1) (t : TXW (st h)) (e1 : (st g, u.toInt) = f_X7_program (st h)) (fx1 : FX KC h g) (fx2 : FX KR g k) (pa : ∃ t, PgS g t (1 - (g.2.1 70 29).toInt) ∧ PgQ t k (1 - (g.2.1 70 29).toInt) v.toInt) (po : v.toInt = -2 → OHx g.2.1 k.2.1 (1 - (g.2.1 70 29).toInt)) (pl : 0 ≤ v.toInt → ∃ s1 : ST, st k = f_X8_laysAll2 s1 ∧ s1.1 70 6 = (k.2.1 70 29).toInt) (pk : v.toInt = -2 → FX KRt g k) : TXW (st k) := by
  obtain ⟨c, d, cd, r3, r4, alt⟩ := his
  obtain ⟨tt, ⟨s1, s2, s3, s4, s5, s6, s7, s8, s9⟩, q⟩ := pa
  have b0 : 0 ≤ (st h).1 0 1 := (hv.2.1 0 1).1
  have b5 : (st h).1 0 1 ≤ 500 := (hv.2.1 0 1).2
  have lv1 : (g.2.1 70 29).toInt ≤ 1 := (hg.2.1 70 29).2
  have lv0 : 0 ≤ (g.2.1 70 29).toInt := (hg.2.1 70 29).1
  have t0 : (st h).1 0 1 = P.1.toInt := congrArg Int32.toInt hv.t0
  have t1 : (h.2.1 70 2).toInt = P.2.1.toInt := congrArg Int32.toInt hv.t1
  have g2 : (g.2.1 70 2).toInt = (h.2.1 70 2).toInt := congrArg Int32.toInt (fx1 70 2 (by unfold KC; omega)).1
  obtain ⟨S, eS⟩ : ∃ S, S = 1 - (g.2.1 70 29).toInt := ⟨_, rfl⟩
  rw [← eS] at s1 s6 s7 s8 s9 q po
  have tx : TX ((sI (st h) 0 1 0).1 1) (tt.1 72) ((st h).1 0 1) := fun j y => by
    have y2 : (j : Int) < (h.2.1 0 1).toInt := y
    have y3 : (h.2.1 0 1).toInt = (st h).1 0 1 := rfl
    rw [sI_nc (show (1 : Nat) ≠ 0 by omega), s5 j (by omega)]
    show (h.2.1 1 j).toInt = (g.2.1 71 j).toInt
    rw [(fx1 71 j (by unfold KC; omega)).1]
    exact l.1 j y
  have A := prog_same (s := sI (st h) 0 1 0) (c := d) (a := (st h).1 0 1) (by omega) (by omega) b0 b5 s1 (by rw [s2, g2]; omega) s3 s4 tx s6 s7 s8 s9 q
  have T := tp_prog2 cd e1 r3 r4
  have T3 := tp_prog4 cd e1 r4
  have kr : ∀ p j, p ≤ 69 → (st k).1 p j = (st g).1 p j ∧ (st k).2.1 p j = (st g).2.1 p j ∧ (st k).2.2 p j = (st g).2.2 p j := fun p j hp => by
    have z := fx2 p j (by unfold KR; omega)
    exact ⟨congrArg Int32.toInt z.1, z.2.1, congrArg rN z.2.2⟩
  by_cases z : (f_X3_read (sI (st h) 0 1 0) ((st h).1 0 1) d).2 = 0
  · have v0 : 0 ≤ v.toInt := by
      rw [A.2.1 z, ← (T.1 d 0 (by omega) (by omega)).1]
      show 0 ≤ (g.2.1 d 0).toInt
      rcases (show d = 2 ∨ d = 18 by omega) with y | y
      · rw [y]; exact (hg.2.1 2 0).1
      · rw [y]; exact (hg.2.1 18 0).1
    obtain ⟨w1, ek, e6⟩ := pl v0
    refine ⟨?_, Or.inl ?_⟩
    · obtain ⟨c', d', cd', h3, h4, alt'⟩ := hik
      rw [h3]
      rcases alt' with a | a
      · exact Or.inl a.1
      · have b := HISC.bri b74 a.2
        exact Or.inr (RW.laid (S := (st k).1 70 29) e6 ek b.1 h01)
    · rw [(kr 49 2 (by omega)).1]
      exact T3.1 z
  · have r := T.2.2.1 z
    have vm : v.toInt = -2 := A.2.2 z
    have o := pk vm
    have oo := po vm
    have e3 : (st k).2.2 0 3 = c := (kr 0 3 (by omega)).2.2.trans r.1
    have ic : ∀ p j, c ≤ p → p ≤ c + 15 → (st k).1 p j = (st h).1 p j := fun p j p1 p2 => by
      have w := T.1 p j (by omega) (by omega)
      have x := T.2.2.2 p p1 p2
      exact ((kr p j (by omega)).1.trans w.1).trans (congrFun x.1 j)
    have i3 : ∀ p j, 103 ≤ p → p ≤ 111 → (st k).1 p j = (st h).1 p j ∧ (st k).2.1 p j = (st h).2.1 p j := fun p j p1 p2 => by
      have a := o p j (by unfold KRt; omega)
      have b := fx1 p j (by unfold KC; omega)
      exact ⟨(congrArg Int32.toInt a.1).trans (congrArg Int32.toInt b.1), a.2.1.trans b.2.1⟩
    have i4 : ∀ p j, 49 ≤ p → p ≤ 69 → (st k).1 p j = (st h).1 p j ∧ (st k).2.1 p j = (st h).2.1 p j ∧ (st k).2.2 p j = (st h).2.2 p j := fun p j p1 p2 => by
      have a := kr p j p2
      have b := T3.2 z p j p1
      exact ⟨a.1.trans b.1, a.2.1.trans b.2.1, a.2.2.trans b.2.2⟩
    have e30 : (st k).1 70 30 = (st h).1 70 30 := congrArg Int32.toInt (oo.2.2.trans (fx1 70 30 (by unfold KC; omega)).1)
    unfold TXW at t ⊢
    rw [e3]
    rw [r3] at t
    refine ⟨t.1.cong (fun p j hp => ?_) (fun p j hp => (i3 p j (by omega) (by omega)).2), t.2.cong (fun p j hp => ?_) (i4 49 1 (by omega) (by omega)).2.2 (fun p j hp => (i4 p j (by omega) (by omega)).2.1)⟩
    · rcases hp with hp | hp | hp | hp
      · exact ic p j hp.1 hp.2
      · rw [hp.1, hp.2]; exact e30
      · exact (i3 p j (by omega) (by omega)).1
      · exact (i3 p j (by omega) (by omega)).1
    · rcases hp with hp | hp | hp
      · exact ic p j hp.1 hp.2
      · exact (i4 p j (by omega) (by omega)).1
      · exact (i4 p j (by omega) (by omega)).1
/-- questions to the class -/
theorem txw_same {s s' : ST} (b74 : ∀ j, s.1 74 j ≤ 280) (h : HIS s) (t : TXW s) (e : s' = s ∨ s' = f_X4_prepare2 s (s.2.2 0 3)) : TXW s' := by
  rcases e with e | e
  · rw [e]; exact t
  · rw [e]; exact (TXW.prep b74 h t).2.2
theorem txw_hangs {s : ST} {a b : Int} (b74 : ∀ j, s.1 74 j ≤ 280) (h : HIS s) (t : TXW s) : TXW (f_X7_hangs2 s a b).1 := by
  refine txw_same b74 h t ?_
  unfold f_X7_hangs2
  rw [bd_r]
  by_cases z : f_X7_isStatement s a = 0
  · rw [if_pos z]; exact Or.inl rfl
  · rw [if_neg z, bd_r]
    by_cases y : f_X7_isStatement s b = 0
    · rw [if_neg (fun w => w y)]; exact Or.inl rfl
    · rw [if_pos y]; exact Or.inr rfl
theorem txw_begun {s : ST} {a : Int} (b74 : ∀ j, s.1 74 j ≤ 280) (h : HIS s) (t : TXW s) : TXW (f_X7_begun2 s a).1 := by
  refine txw_same b74 h t ?_
  unfold f_X7_begun2
  rw [bd_r]
  by_cases z : f_X7_isProcedure2 s a = 0
  · rw [if_neg (fun w => w z)]; exact Or.inl rfl
  · rw [if_pos z]; exact Or.inr rfl
theorem txw_summary {s : ST} {a b d : Int} (b74 : ∀ j, s.1 74 j ≤ 280) (h : HIS s) (t : TXW s) : TXW (f_X7_summary2 s a b d).1 := (q_summary b74 h t).1
theorem txw_back {s : ST} {a : Int} (b74 : ∀ j, s.1 74 j ≤ 280) (h : HIS s) (t : TXW s) : TXW (f_X7_back2 s a).1 := (q_back b74 h t).1
theorem txw_forth {s : ST} {a : Int} (b74 : ∀ j, s.1 74 j ≤ 280) (h : HIS s) (t : TXW s) : TXW (f_X7_forth2 s a).1 := (q_forth b74 h t).1
theorem txw_between {s : ST} {a b : Int} (b74 : ∀ j, s.1 74 j ≤ 280) (h : HIS s) (t : TXW s) : TXW (f_X7_between2 s a b).1 := (q_between b74 h t).1
theorem txw_backOf {s : ST} {a b : Int} (b74 : ∀ j, s.1 74 j ≤ 280) (h : HIS s) (t : TXW s) : TXW (f_X7_backOf2 s a b).1 := (q_backOf b74 h t).1
section LAW
variable {h g : HP}
theorem law_c (b74g : ∀ j, (st g).1 74 j ≤ 280) (hig : HIS (st g)) (tg : TXW (st g)) (fx : FX KAc h g) : TXU ((st h).2.2 0 3) (st g) ∧ EQF ((st h).2.2 0 3) (st h).1 (st g).1 ∨ ¬ ((st h).2.2 0 3 = 2 ∨ (st h).2.2 0 3 = 18) := by
  have e : (st g).2.2 0 3 = (st h).2.2 0 3 := congrArg rN (fx 0 3 (by unfold KAc; omega)).2.2
  by_cases hc : (st h).2.2 0 3 = 2 ∨ (st h).2.2 0 3 = 18
  · refine Or.inl ⟨?_, fun p p1 p2 => funext fun j => congrArg Int32.toInt (fx p j (by unfold KAc; omega)).1⟩
    have t := TXU.of b74g hig tg
    rw [e] at t
    exact t
  · exact Or.inr hc
theorem backOf_law {k : HP} {v w : Int64} {a a' b b' : Int32} (b74 : ∀ j, (st h).1 74 j ≤ 280) (b74g : ∀ j, (st g).1 74 j ≤ 280) (hi : HIS (st h)) (hig : HIS (st g)) (t : TXW (st h)) (tg : TXW (st g)) (fx : FX KAc h g) (f7 : (st g, v) = f_X7_backOf2 (st h) a.toInt b.toInt) (f8 : (st k, w) = f_X8_backOf2 (st g) a'.toInt b'.toInt) (ea : a'.toInt = a.toInt) (eb : b'.toInt = b.toInt) : v = w := by
  rw [ea, eb] at f8
  rcases law_c b74g hig tg fx with ⟨tu, E⟩ | n
  · have q7 := (q_backOf b74 hi t (p := a.toInt) (k := b.toInt)).2
    have q8 := q8_backOf tu (p := a.toInt) (k := b.toInt)
    rw [← f7] at q7
    rw [← f8, E _ (by omega) (by omega), bo_c E] at q8
    exact ROW.eq Iff.rfl (fun _ _ => Iff.rfl) q7 q8
  · exact absurd hi.c n
end LAW
