/-! tests and loops -/
theorem blk1 {c : Nat} {S D pc i p3 : Int} {B : Int → Int} {t u w s2 : ST} {r : ST × Int} (hc : c = 2 ∨ c = 18) (S0 : 0 ≤ S) (D0 : 0 ≤ D) (hi : CJ w S i) (h85 : gI w 85 i = -1) (ke : KE S t w) (t73 : 0 ≤ gI t 73 S) (hti : 130 * S + gI t 73 S ≤ i)
    (r2 : f_X3_look s2 = (sI s2 34 2 p3, 125)) (r5 : SM c S (D + 1) pc (fun e => if e = D then r.2 else B e) (sI s2 34 2 (p3 + 1)) r.1) (r6 : gI r.1 92 r.2 = i) (r8 : ph S (sI s2 34 2 (p3 + 1)) r.1 + 2 ≤ ph S u w) (r9 : KE S w r.1) :
    ∃ sC, cT s2 = f_X3_readSecond sC (i - 130 * S) ∧ SM c S D pc B sC (sI r.1 85 i.toNat r.2) ∧ sC.1 34 2 = p3 + 1 ∧ ph S sC (sI r.1 85 i.toNat r.2) + 2 ≤ ph S u w ∧ ¬ (f_X3_look s2).1.1 34 7 = 0 ∧ KE S t (sI r.1 85 i.toNat r.2) ∧ CJ (sI r.1 85 i.toNat r.2) S i ∧ ¬ gI (sI r.1 85 i.toNat r.2) 85 i = -1 ∧ gI (sI r.1 85 i.toNat r.2) 77 i = gI w 77 i ∧ (∀ e, 0 ≤ e → e < D → gI (sI r.1 85 i.toNat r.2) 92 (B e) < i) ∧ gI (sI r.1 85 i.toNat r.2) 76 S = gI w 76 S ∧ (gI (sI r.1 85 i.toNat r.2) 79 i = pc ∧ gI (sI r.1 85 i.toNat r.2) 86 i = -1) := by
  have i0 : 0 ≤ i := by have := hi.1; omega
  have ci : CJ r.1 S i := by unfold CJ at *; have := r9.1; omega
  have K := RR.top D0 r5.2.1 (if_pos rfl) r6
  have e85 : gI r.1 85 i = -1 := by rw [(r9.2.2.1 i hi).2.2.1]; exact h85
  rw [if_neg (show ¬ i = -1 by omega), if_neg (show ¬ i = -1 by omega), if_pos e85] at K
  have g7 : ∀ a, a ≠ 34 → gI (sI s2 34 2 (p3 + 1)) a = gI (sI s2 34 2 p3) a := fun a ha => funext fun j => (gI_nc ha).trans (gI_nc ha).symm
  have o7 : (sI s2 34 2 p3).1 34 7 = D + 1 := by
    have q := r5.2.1.2.2.2.2.2.2.2
    rw [sI_ne (p := 34) (q := 7) (by omega)] at q ⊢
    exact q
  have cl := clo_1 (s := sI s2 34 2 p3) (p := p3) (d := D) (it := i - 130 * S) (sI_eq _ _ _ _) o7 (by rw [← g7 45 (by decide)]; exact K.2.1) (by have := hi.1; omega) (by rw [← g7 47 (by decide)]; exact K.2.2)
  rw [sI_sI, ← g7 46 (by decide)] at cl
  have sm := SM.cls (x := gI (sI s2 34 2 (p3 + 1)) 46 D) (b := r.2) (i := i) (B := B) hc S0 D0 r5 (fun e he => if_neg (by omega)) (if_pos rfl).symm r6.symm ci e85 rfl
  have ct : cT s2 = f_X3_closeBlock (sI s2 34 2 p3) := by
    unfold cT
    rw [r2]
    dsimp only
    rw [if_pos (show ¬ (sI s2 34 2 p3).1 34 7 = 0 by rw [o7]; omega), if_neg (fun z => z rfl)]
  have pl : (sI (sI (sI s2 34 2 (p3 + 1)) 34 7 D) 39 (i - 130 * S).toNat (gI (sI s2 34 2 (p3 + 1)) 46 D)).1 34 2 = p3 + 1 := by
    rw [sI_nc (p := 34) (show 34 ≠ 39 by decide), sI_ne (p := 34) (q := 2) (by omega), sI_eq]
  have cb := K.1.1
  refine ⟨_, ct.trans cl, sm, pl, ?_, by rw [r2]; dsimp only; rw [o7]; omega, KE.put S0 (ke.tr r9) t73 hti (by decide) (by decide) (by decide) (by decide), ?_, ?_, ?_, fun e h0 h1 => ?_, ?_, ?_⟩
  · unfold ph at r8 ⊢
    rw [pl, gI_nc (show 73 ≠ 85 by decide), gI_nc (show 75 ≠ 85 by decide)]
    rw [sI_eq] at r8
    omega
  · unfold CJ at *
    rw [gI_nc (show 73 ≠ 85 by decide)]
    exact ci
  · rw [gI_eq]; omega
  · rw [gI_nc (show 77 ≠ 85 by decide)]
    exact (r9.2.2.1 i hi).1
  · have q := (r5.2.1.2.2.2.2.2.2.1.1 e h0 (by omega)).2.2 D (by omega) (by omega)
    have q2 := q.2
    simp only [if_neg (show ¬ e = D by omega), if_true] at q2
    rw [gI_nc (show 92 ≠ 85 by decide)]
    rw [r6] at q2
    exact q2
  · rw [gI_nc (show 76 ≠ 85 by decide)]
    exact r9.2.1
  · rw [gI_nc (show 79 ≠ 85 by decide), gI_nc (show 86 ≠ 85 by decide)]
    have q := r5.2.1.2.2.2.2.2.2.1.2.2.1 D (by omega) (by omega)
    simp only [if_true] at q
    rw [r6] at q
    rcases q with z | z
    · omega
    · exact ⟨z.1, z.2.1⟩
theorem cT_st {s sm : ST} {v : Int} (hl : f_X3_look s = (sm, v)) (ho : ¬ sm.1 34 7 = 0) (h1 : ¬ v = 125) (h2 : ¬ v = 37) : cT s = f_X3_readStatement sm v := by
  unfold cT
  rw [hl]
  dsimp only
  rw [if_pos ho, if_pos h1, if_pos h2]
/-- what both know of an item with a number -/
theorem RR.num {c : Nat} {S d pc i : Int} {B : Int → Int} {s t : ST} (h : RR c S d pc B s t) (hi : CJ t S i) (h6 : ¬ gI t 77 i = 6) : ∃ n, 0 ≤ n ∧ gI s 37 (i - 130 * S) = n ∧ gI s (c + 2) n = gI t 77 i := by
  have k := h.2.2.1 (i - 130 * S) (by have := hi.1; omega) (by have := hi.2; omega)
  have a := k.2.1
  unfold K3a at a
  rw [show 130 * S + (i - 130 * S) = i by omega] at k a
  rcases a with a | a
  · exact absurd a.2 h6
  · refine ⟨gI t 78 i, a.1, k.1, ?_⟩
    have q := (h.2.1 (gI t 78 i) a.1 a.2.1).2.2.1
    rw [a.2.2.2] at q
    exact q
set_option maxHeartbeats 4000000 in
theorem it_test {c : Nat} {S d pc n m p its v : Int} {B : Int → Int} {s sm t : ST} {g : ST → Int → Int → Int → ST × Int} (gY : ST → Int → Int → Int → ST) (hc : c = 2 ∨ c = 18) (S0 : 0 ≤ S) (d0 : 0 ≤ d) (hB : HB c S g (d + 1)) (h : SM c S (d + 1) pc B sm t) (hl : f_X3_look s = (sm, v)) (h03 : s.1 34 3 = 0) (hsp : s.1 34 2 ≤ sm.1 34 2) (hpl : sm.1 34 2 < sm.1 34 1) (hn : n = gI t 75 S) (n39 : n ≤ 39) (hm : m = gI t 73 S) (m1 : m < 128) (hp : gI t 76 S - 1 = p) (hk : f_X3_kindBegunBy sm v = its) (hits : its = 2 ∨ its = 3) (hv1 : ¬ v = 125) (hv2 : ¬ v = 37) (hph : ph S sm t ≤ 5 * d) : IQ c S (d + 1) pc B s sm t (f_X8_readItem_b_ (f_X8_readTest_b g) gY 14 70 (B d) p d (-1) its t) := by
  obtain ⟨f, hf⟩ : ∃ f, f = gI t 90 (B d) := ⟨_, rfl⟩
  obtain ⟨l, hl9⟩ : ∃ l, l = gI t 91 (B d) := ⟨_, rfl⟩
  have K := h.2.1.1
  have m0 : 0 ≤ m := by have := K.2.2.2.2.2.1; omega
  have n0 : 0 ≤ n := by have := K.2.2.2.1; omega
  have op : sm.1 34 7 = d + 1 := h.2.1.2.2.2.2.2.2.2
  have e1 := new_c (v := v) (pr := gI t 76 S) hc (show sm.1 c 0 = n from K.1.trans hn.symm) (show sm.1 36 0 = m from K.2.2.1.trans hm.symm) op rfl (show sm.1 c 1 = gI t 76 S from K.2.1) h.2.2.1 (by omega) m1 m0 hk (by omega)
  have e2 := new_m (f_X8_readTest_b g) gY (p := p) (d := d) (nm := -1) (its := its) (b := B d) (m := m) (n := n) (f := f) (l := l) h.2.2.2.1 hm.symm hn.symm h.1.2.2.2.2.2.2.2 hl9.symm hf.symm rfl
  have e1' : f_X3_readStatement sm v = f_X3_readCondition (cNw sm c n m (d + 1) (sm.1 34 2) its p (sm.1 46 (d + 1 - 1).toNat)) n m := by
    rewrite [e1, hp, if_pos (show ¬ its = 0 by omega)]
    rcases hits with z | z
    · rewrite [if_pos z]; rfl
    · rewrite [if_neg (show ¬ its = 2 by omega), if_neg (show ¬ ¬ its = 3 by omega)]; rfl
  have e2' : f_X8_readItem_b_ (f_X8_readTest_b g) gY 14 70 (B d) p d (-1) its t = f_X8_readTest_b g (mCl (mC1 t S n m p d (t.1 70 4) (-1) its (B d)) S m (t.1 70 4) (B d) f l) (130 * S + m) p d := by
    rewrite [e2, if_neg (show ¬ its = 6 by omega), if_pos (show ¬ its = 0 by omega)]
    rcases hits with z | z
    · rewrite [if_pos z]; rfl
    · rewrite [if_neg (show ¬ its = 2 by omega), if_neg (show ¬ ¬ its = 3 by omega)]; rfl
  obtain ⟨c1, c2, c3, c4, c5, c6, c7, c8, c9, c10⟩ := SM.cre (nm := -1) (its := its) hc S0 d0 h hpl hn n39 hm hp (by omega) hf hl9
  have cO := SM.creO (p := p) (nm := -1) (its := its) (f := f) (l := l) (pl := sm.1 34 2) (at1 := t.1 70 4) (x := sm.1 46 (d + 1 - 1).toNat) hc S0 h hn hm (Or.inr rfl)
  have x2 : (cNw sm c n m (d + 1) (sm.1 34 2) its p (sm.1 46 (d + 1 - 1).toNat)).1 34 2 = sm.1 34 2 + 1 := cNw_2 hc
  have xr : (cNw sm c n m (d + 1) (sm.1 34 2) its p (sm.1 46 (d + 1 - 1).toNat)).2.2 34 4 = c := by rw [cNw_r hc]; exact h.2.2.1
  have x6 : sI (cNw sm c n m (d + 1) (sm.1 34 2) its p (sm.1 46 (d + 1 - 1).toNat)) (c + 6) n.toNat (-1) = cNw sm c n m (d + 1) (sm.1 34 2) its p (sm.1 46 (d + 1 - 1).toNat) := by
    have q := sI_same (cNw sm c n m (d + 1) (sm.1 34 2) its p (sm.1 46 (d + 1 - 1).toNat)) (c + 6) n.toNat
    rewrite [cNw_6 hc] at q
    exact q
  have y92 : ∀ j, gI (mCl (mC1 t S n m p d (t.1 70 4) (-1) its (B d)) S m (t.1 70 4) (B d) f l) 92 j = gI t 92 j := fun j => by
    rw [mCl_o (q := 92) (by decide) (by decide) (by decide) (by decide), m1_o (q := 92) (by decide) (by decide) (by decide) (by decide) (by decide) (by decide) (by decide) (by decide) (by decide) (by decide) (by decide) (by decide) (by decide) (by decide) (by decide) (by decide)]
  rewrite [x6] at c2 cO
  rewrite [e2']
  clear x6 e1 e2 e2'
  generalize cNw sm c n m (d + 1) (sm.1 34 2) its p (sm.1 46 (d + 1 - 1).toNat) = X at *
  generalize mCl (mC1 t S n m p d (t.1 70 4) (-1) its (B d)) S m (t.1 70 4) (B d) f l = Y at *
  rewrite [cond_c] at e1'
  have ct : cT s = f_X3_openBlock (cCo X n) m 0 := (cT_st hl (by rw [op]; omega) hv1 hv2).trans e1'
  have hx : ¬ (f_X3_look s).1.1 34 7 = 0 ∨ ¬ (f_X3_look s).2 = -1 := Or.inl (by rw [hl]; dsimp only; rw [op]; omega)
  have q := QQ.cond (n := n) (i := 130 * S + m) hc n0 (by omega) (Or.inl (GD.rfl c1 xr) : QQ c n (130 * S + m) X Y X Y)
  obtain ⟨fin, kf⟩ : ∃ z, z = f_X8_readTest_b g Y (130 * S + m) p d := ⟨_, rfl⟩
  rewrite [← kf]
  unfold f_X8_readTest_b at kf
  have j1 := bd_e kf rfl
  have j2 := bd_e j1 rfl
  have j3 := bd_e j2 (show f_X8_operand (f_X8_must (f_X8_operand Y (130 * S + m) 0) 60) (130 * S + m) 1 = mCo Y (130 * S + m) from rfl)
  clear kf j1 j2
  generalize mCo Y (130 * S + m) = w at *
  generalize cCo X n = u at *
  rcases q with qg | q
  · have oo := cO.gd c2 n0 (by omega) c7.symm S0 qg
    obtain ⟨a1, a2, a3, a4, a5, -⟩ := qg
    have gw : ∀ a j, a ≠ 70 → a ≠ 83 → a ≠ 89 → gI w a j = gI Y a j := fun a j h1 h2 h3 => a5 a _ (fun z => h1 z.1) h2 h3
    have smu : SM c S (d + 1) pc B u w := ⟨a1, RR.congr hc c2 a4 a5, a3, (a5 70 6 (by omega) (by omega) (by omega)).trans c3, oo⟩
    have keu : KE S t w := c4.tr (KE.ag a5)
    have w73 : gI w 73 S = m + 1 := (gw 73 S (by decide) (by decide) (by decide)).trans c5
    have w75 : gI w 75 S = n + 1 := (gw 75 S (by decide) (by decide) (by decide)).trans c6
    have phu : ph S u w ≤ ph S sm t := by unfold ph; omega
    have hiw : CJ w S (130 * S + m) := by unfold CJ; omega
    have ho : ∀ e, 0 ≤ e → e < d + 1 → gI w 92 (B e) < 130 * S + m := fun e h0 h1 => by
      rw [gw 92 _ (by decide) (by decide) (by decide), y92]
      rcases (h.2.1.2.2.2.2.2.1 e h0 h1).2.1 with z | z
      · omega
      · have := z.2; omega
    have w85 : gI w 85 (130 * S + m) = -1 := (gw 85 _ (by decide) (by decide) (by decide)).trans c9
    have w77 : gI w 77 (130 * S + m) = its := (gw 77 _ (by decide) (by decide) (by decide)).trans c8
    have hit : m = if 130 * S + m = -1 then -1 else 130 * S + m - 130 * S := by rw [if_neg (by omega)]; omega
    have hsec : (0 : Int) = if 130 * S + m = -1 then 0 else if gI w 85 (130 * S + m) = -1 then 0 else 1 := by rw [if_neg (by omega), if_pos w85]
    have wp : gI w 76 S - 1 = p := by rw [keu.2.1]; exact hp
    have w79 : gI w 79 (130 * S + m) = pc ∧ gI w 86 (130 * S + m) = -1 ∧ (gI w 77 (130 * S + m) = 2 ∨ gI w 77 (130 * S + m) = 6 ∨ (gI w 77 (130 * S + m) = 3 ∧ gI w 85 (130 * S + m) = -1)) := ⟨(gw 79 _ (by decide) (by decide) (by decide)).trans c10.1, (gw 86 _ (by decide) (by decide) (by decide)).trans c10.2, by omega⟩
    have rt : RT1 s (f_X3_openBlock u m 0) := RT1.opn hc S0 (by omega) smu (Or.inr ⟨hiw, w79, by omega⟩) ho hit hsec h03 ct.symm hx (by omega)
    have t73 : 0 ≤ gI t 73 S := by omega
    have hti : 130 * S + gI t 73 S ≤ 130 * S + m := by omega
    have mi : 130 * S + m - 130 * S = m := by omega
    have j4 := bd_e j3 (good_1 a1.2.2.2.2.2.2.2)
    have j5 := if_t j4 (show ¬ (1 : Int) = 0 by omega)
    have j6 := bd2_e j5 (show ((g w (130 * S + m) p (d + 1)).1, (g w (130 * S + m) p (d + 1)).2) = g w (130 * S + m) p (d + 1) from rfl)
    have j7 := bd_e j6 rfl
    have HH := hB pc B u w (130 * S + m) p m 0 smu (Or.inr ⟨hiw, w79, by omega⟩) ho hit hsec wp (by omega)
    clear j3 j4 j5 j6
    generalize g w (130 * S + m) p (d + 1) = r at *
    rcases HH with ⟨k, s', r1, r2⟩ | ⟨k, s2, p3, r1, r2, r3, r4, r5, r6, r7, r8, r9⟩
    · have f0 : (sI r.1 85 (130 * S + m).toNat r.2).1 70 5 ≠ 0 := by rw [sI_nc (p := 70) (show 70 ≠ 85 by decide)]; exact r2.1
      have j8 := bd_e j7 (good_0 f0)
      have j9 := if_t j8 rfl
      refine Or.inl ⟨1 + k, s', (RUN.one rt).tr r1, ?_⟩
      rw [j9]
      unfold BQ at *
      rw [sI_nc (p := 70) (show 70 ≠ 85 by decide)]
      exact r2
    · obtain ⟨sC, b1, b2, b3, b4, b5, b6, b7, b8, b9, b10, b11, b12⟩ := blk1 hc S0 (show 0 ≤ d + 1 by omega) hiw w85 keu t73 hti r2 r5 r6 r8 r9
      have j8 := bd_e j7 (good_1 b2.1.2.2.2.2.2.2.2)
      have j9 := if_f j8 (show ¬ (1 : Int) = 0 by omega)
      generalize sI r.1 85 (130 * S + m).toNat r.2 = tC at *
      have j10 := bd_e j9 (show tC.1 77 (130 * S + m).toNat = its from b9.trans w77)
      obtain ⟨p4, v4, l1, l2, l3, l4, l5, l6, l7, l8⟩ := SM.look hc b2
      obtain ⟨n', n0', q1, q2⟩ := RR.num b2.2.1 b7 (by rw [b9, w77]; omega)
      rw [b9, w77] at q2
      have rs := rs_s hc b2.2.2.1 l1 q1 n0' q2
      rw [mi] at rs b1
      have rx : ¬ (f_X3_look s2).1.1 34 7 = 0 ∨ ¬ (f_X3_look s2).2 = -1 := Or.inl b5
      have s5 : p4 ≤ 500 := by have := b2.1.2.2.2.2.1; omega
      have pp : (sI sC 34 2 p4).1 34 2 = p4 := sI_eq _ _ _ _
      have p8 : ph S (sI sC 34 2 p4) (sI tC 70 4 p4) ≤ ph S sm t := by rw [ph_mv]; omega
      have done : f_X3_readSecond sC m = sI sC 34 2 p4 → (fin = tC ∨ fin = sI tC 70 4 p4) → IQ c S (d + 1) pc B s sm t fin := fun z y => by
        have rr : RT1 s2 (sI sC 34 2 p4) := ⟨r3, (b1.trans z).symm, rx, fun _ => ⟨by rw [pp]; omega, by rw [pp]; exact s5⟩⟩
        refine Or.inr ⟨1 + k + 1, sI sC 34 2 p4, sI sC 34 2 p4, sI tC 70 4 p4, v4, ((RUN.one rt).tr r1).tr (RUN.one rr), l5.1.2.2.2.2.2.2.1, ?_, l3, ?_, l3, l4, l5, Int.le_refl _, by rw [pp]; omega, p8, b6.mv⟩
        · rcases y with y | y
          · rw [y]; exact b2.1.2.2.2.2.2.2.2
          · rw [y]; exact l5.1.2.2.2.2.2.2.2
        · rcases y with y | y
          · rw [y]; exact l2
          · rw [y]; exact l4
      rcases hits with z2 | z3
      · have j11 := if_f j10 (show ¬ its = 3 by omega)
        have j12 := bd2_e j11 l2.symm
        have j13 := bd_e j12 (show (sI tC 70 4 p4).1 70 4 = p4 from sI_eq _ _ _ _)
        rw [if_neg (show ¬ ¬ its = 2 by omega)] at rs
        by_cases z5 : v4 = 58
        · have j14 := if_t j13 z5
          rw [if_neg (show ¬ ¬ v4 = 58 by omega)] at rs
          have lt : p4 < sC.1 34 1 := by omega
          have smn : SM c S (d + 1) pc B (sI sC 34 2 (p4 + 1)) (sI tC 70 4 (p4 + 1)) := SM.mv hc b2 (by have := b2.1.2.2.1; omega) (by omega)
          have g7 : ∀ a, a ≠ 70 → gI (sI tC 70 4 (p4 + 1)) a = gI tC a := fun a ha => funext fun j => gI_nc ha
          have cj : CJ (sI tC 70 4 (p4 + 1)) S (130 * S + m) := by unfold CJ at *; rw [g7 73 (by decide)]; exact b7
          have ho2 : ∀ e, 0 ≤ e → e < d + 1 → gI (sI tC 70 4 (p4 + 1)) 92 (B e) < 130 * S + m := fun e h0 h1 => by rw [g7 92 (by decide)]; exact b10 e h0 h1
          have n85 : ¬ gI (sI tC 70 4 (p4 + 1)) 85 (130 * S + m) = -1 := by rw [g7 85 (by decide)]; exact b8
          have hp2 : gI (sI tC 70 4 (p4 + 1)) 76 S - 1 = p := by rw [g7 76 (by decide), b11]; exact wp
          have n79 : gI (sI tC 70 4 (p4 + 1)) 79 (130 * S + m) = pc ∧ gI (sI tC 70 4 (p4 + 1)) 86 (130 * S + m) = -1 ∧ (gI (sI tC 70 4 (p4 + 1)) 77 (130 * S + m) = 2 ∨ gI (sI tC 70 4 (p4 + 1)) 77 (130 * S + m) = 6 ∨ (gI (sI tC 70 4 (p4 + 1)) 77 (130 * S + m) = 3 ∧ gI (sI tC 70 4 (p4 + 1)) 85 (130 * S + m) = -1)) := by rw [g7 79 (by decide), g7 86 (by decide), g7 77 (by decide)]; exact ⟨b12.1, b12.2, Or.inl (by rw [b9, w77]; exact z2)⟩
          have pn : (sI sC 34 2 (p4 + 1)).1 34 2 = p4 + 1 := sI_eq _ _ _ _
          have phn : ph S (sI sC 34 2 (p4 + 1)) (sI tC 70 4 (p4 + 1)) ≤ 5 * (d + 1) := by rw [ph_mv]; omega
          have rt2 : RT1 s2 (f_X3_openBlock (sI sC 34 2 (p4 + 1)) m 1) := RT1.opn hc S0 (by omega) smn (Or.inr ⟨cj, n79, by omega⟩) ho2 hit (by rw [if_neg (by omega), if_neg n85]) r3 (b1.trans rs).symm rx (by rw [pn]; omega)
          have B2 := blk2 hc S0 (show 0 ≤ d + 1 by omega) hB smn cj ho2 n85 hp2 phn b6.mv t73 hti ⟨n79, by omega⟩
          have j15 := bd_e j14 (sI_sI tC 70 4 p4 (p4 + 1))
          rw [mi] at B2
          have j16 := bd2_e j15 (show ((g (sI tC 70 4 (p4 + 1)) (130 * S + m) p (d + 1)).1, (g (sI tC 70 4 (p4 + 1)) (130 * S + m) p (d + 1)).2) = g (sI tC 70 4 (p4 + 1)) (130 * S + m) p (d + 1) from rfl)
          have j17 := bd_e j16 rfl
          rw [j17]
          rcases B2 with ⟨k2, s', t1, t2⟩ | ⟨k2, s', t1, t2, t3, t4, t5⟩
          · exact Or.inl ⟨1 + k + 1 + k2, s', (((RUN.one rt).tr r1).tr (RUN.one rt2)).tr t1, t2⟩
          · refine IQ.of hc ((((RUN.one rt).tr r1).tr (RUN.one rt2)).tr t1) t2 (by rw [pn] at t3; omega) ?_ t5
            rw [ph_mv] at t4
            omega
        · have j14 := if_f j13 z5
          rw [if_pos z5] at rs
          exact done rs (Or.inr j14)
      · have j11 := if_t j10 z3
        rw [if_pos (show ¬ its = 2 by omega)] at rs
        exact done rs (Or.inl j11)
  · have j4 := bd_e j3 (good_0 q.1)
    have j5 := if_f j4 (fun z => z rfl)
    have bq : BQ c (f_X3_openBlock u m 0) w := ⟨q.1, q.2.opn⟩
    refine Or.inl ⟨1, _, RUN.one ⟨h03, ct.symm, hx, fun z => absurd ((bq.2.1 bq.1).symm.trans z) bq.1⟩, ?_⟩
    rw [j5]
    exact bq

