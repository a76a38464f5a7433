/-! trys -/
theorem SM.crt {c : Nat} {S d pc m p f l : Int} {B : Int → Int} {s t : ST} (hc : c = 2 ∨ c = 18) (S0 : 0 ≤ S) (d0 : 0 ≤ d) (h : SM c S (d + 1) pc B s t) (hpl : s.1 34 2 < s.1 34 1) (hm : m = gI t 73 S) (hf : f = gI t 90 (B d)) (hl : l = gI t 91 (B d)) (hp : gI t 76 S - 1 = p) :
    SM c S (d + 1) pc B (cNt s m (d + 1) (s.1 34 2) (s.1 46 (d + 1 - 1).toNat)) (mCl (mC0 t S m p d (t.1 70 4) (-1) 6 (B d)) S m (t.1 70 4) (B d) f l) ∧ KE S t (mCl (mC0 t S m p d (t.1 70 4) (-1) 6 (B d)) S m (t.1 70 4) (B d) f l) ∧ gI (mCl (mC0 t S m p d (t.1 70 4) (-1) 6 (B d)) S m (t.1 70 4) (B d) f l) 73 S = m + 1 ∧ gI (mCl (mC0 t S m p d (t.1 70 4) (-1) 6 (B d)) S m (t.1 70 4) (B d) f l) 75 S = gI t 75 S ∧ gI (mCl (mC0 t S m p d (t.1 70 4) (-1) 6 (B d)) S m (t.1 70 4) (B d) f l) 77 (130 * S + m) = 6 ∧ gI (mCl (mC0 t S m p d (t.1 70 4) (-1) 6 (B d)) S m (t.1 70 4) (B d) f l) 85 (130 * S + m) = -1 ∧ (∀ j, gI (mCl (mC0 t S m p d (t.1 70 4) (-1) 6 (B d)) S m (t.1 70 4) (B d) f l) 92 j = gI t 92 j)  ∧ (gI (mCl (mC0 t S m p d (t.1 70 4) (-1) 6 (B d)) S m (t.1 70 4) (B d) f l) 79 (130 * S + m) = pc ∧ gI (mCl (mC0 t S m p d (t.1 70 4) (-1) 6 (B d)) S m (t.1 70 4) (B d) f l) 86 (130 * S + m) = -1) := by
  obtain ⟨hps, hr, hcc, hS, hO⟩ := h
  have hk := hr.1
  have m0 : 0 ≤ m := by have := hk.2.2.2.2.2.1; omega
  have cl : ∀ q, q ≠ 70 → q ≠ 87 → q ≠ 90 → q ≠ 91 → gI (mCl (mC0 t S m p d (t.1 70 4) (-1) 6 (B d)) S m (t.1 70 4) (B d) f l) q = gI (mC0 t S m p d (t.1 70 4) (-1) 6 (B d)) q := fun q h1 h2 h3 h4 => mCl_o h1 h2 h3 h4
  have hpp : p = pc := by
    have q := (hr.2.2.2.2.2.2.1.2.2.2.1 (by omega)).1
    omega
  refine ⟨⟨?_, ?_, ?_, ?_, ?_⟩, ?_, ?_, ?_, ?_, ?_, ?_, ?_⟩
  · obtain ⟨a1, a2, a3, a4, a5, a6, a7, a8⟩ := hps
    unfold PS
    rw [cNt_34 (show 1 ≠ 2 by decide), cNt_34 (show 3 ≠ 2 by decide), cNt_2, cNt_1, mCl_4, mCl_70 (show 3 ≠ 4 by decide), mCl_70 (show 5 ≠ 4 by decide), mCl_72, mC0_70, mC0_72]
    exact ⟨a1, by rw [a2], by omega, by omega, a5, a6, a7, a8⟩
  · exact RR.crt hc S0 hr (by omega) (by rw [show d + 1 - 1 = d by omega]) hm rfl hl hf rfl rfl hpp
  · rw [cNt_r]; exact hcc
  · rw [mCl_70 (show 6 ≠ 4 by decide), mC0_70]; exact hS
  · have mo := mC0_op (t := t) (p := p) (d1 := d) (at1 := t.1 70 4) (nm := -1) (its := 6) (b := B d) S0 m0
    have e75 : gI (mCl (mC0 t S m p d (t.1 70 4) (-1) 6 (B d)) S m (t.1 70 4) (B d) f l) 75 S = gI t 75 S := by rw [cl 75 (by decide) (by decide) (by decide) (by decide), m0_o (q := 75) (by decide) (by decide) (by decide) (by decide) (by decide) (by decide) (by decide) (by decide) (by decide) (by decide) (by decide) (by decide) (by decide) (by decide)]
    have e93 : gI (mCl (mC0 t S m p d (t.1 70 4) (-1) 6 (B d)) S m (t.1 70 4) (B d) f l) 93 = gI t 93 := by rw [cl 93 (by decide) (by decide) (by decide) (by decide), m0_o (q := 93) (by decide) (by decide) (by decide) (by decide) (by decide) (by decide) (by decide) (by decide) (by decide) (by decide) (by decide) (by decide) (by decide) (by decide)]
    have cc : ∀ q : Nat, q = 8 ∨ q = 9 ∨ q = 10 → (cNt s m (d + 1) (s.1 34 2) (s.1 46 (d + 1 - 1).toNat)).1 (c + q) = s.1 (c + q) := fun q hq => by
      unfold cNt
      rw [sI_nc (show c + q ≠ 34 by omega), sI_nc (show c + q ≠ 46 by omega), sI_nc (show c + q ≠ 38 by omega), sI_nc (show c + q ≠ 41 by omega), sI_nc (show c + q ≠ 40 by omega), sI_nc (show c + q ≠ 39 by omega), sI_nc (show c + q ≠ 38 by omega), sI_nc (show c + q ≠ 37 by omega), sI_nc (show c + q ≠ 36 by omega)]
    intro k k0 k1
    rw [e75] at k1
    have q := hr.2.1 k k0 k1
    have q1 := q.1.1
    have q2 := q.1.2
    have u := mo.1 (gI t 93 (40 * S + k)) (by omega) (by omega)
    have x77 := m0_77 (t := t) (m := m) (p := p) (d1 := d) (at1 := t.1 70 4) (nm := -1) (its := 6) (b := B d) S0 m0 (gI t 93 (40 * S + k)) (by omega) (by omega)
    have x82 := m0_82 (t := t) (m := m) (p := p) (d1 := d) (at1 := t.1 70 4) (nm := -1) (its := 6) (b := B d) S0 m0 (gI t 93 (40 * S + k)) (by omega) (by omega)
    rw [e93, cl 77 (by decide) (by decide) (by decide) (by decide), cl 82 (by decide) (by decide) (by decide) (by decide), x77, x82]
    refine ⟨?_, (hO k k0 k1).2⟩
    unfold OE
    rw [cc 8 (by omega), cc 9 (by omega), cc 10 (by omega)]
    show OV (s.1 (c + 9) k.toNat) (gI (mCl (mC0 t S m p d (t.1 70 4) (-1) 6 (B d)) S m (t.1 70 4) (B d) f l) 89 (2 * gI t 93 (40 * S + k))) ∧ OV (s.1 (c + 10) k.toNat) (gI (mCl (mC0 t S m p d (t.1 70 4) (-1) 6 (B d)) S m (t.1 70 4) (B d) f l) 89 (2 * gI t 93 (40 * S + k) + 1)) ∧ SV (s.1 (c + 8) k.toNat) (gI (mCl (mC0 t S m p d (t.1 70 4) (-1) 6 (B d)) S m (t.1 70 4) (B d) f l) 83 (gI t 93 (40 * S + k)))
    rw [cl 89 (by decide) (by decide) (by decide) (by decide), cl 83 (by decide) (by decide) (by decide) (by decide)]
    show OV (s.1 (c + 9) k.toNat) ((mC0 t S m p d (t.1 70 4) (-1) 6 (B d)).1 89 (2 * gI t 93 (40 * S + k)).toNat) ∧ OV (s.1 (c + 10) k.toNat) ((mC0 t S m p d (t.1 70 4) (-1) 6 (B d)).1 89 (2 * gI t 93 (40 * S + k) + 1).toNat) ∧ SV (s.1 (c + 8) k.toNat) ((mC0 t S m p d (t.1 70 4) (-1) 6 (B d)).1 83 (gI t 93 (40 * S + k)).toNat)
    rw [u.1, u.2.1, u.2.2]
    exact (hO k k0 k1).1
  · refine ⟨?_, ?_, fun x hx => ?_, by rw [cl 74 (by decide) (by decide) (by decide) (by decide), m0_o (q := 74) (by decide) (by decide) (by decide) (by decide) (by decide) (by decide) (by decide) (by decide) (by decide) (by decide) (by decide) (by decide) (by decide) (by decide)]; exact Int.le_refl _, fun x _ => by rw [cl 92 (by decide) (by decide) (by decide) (by decide), m0_o (q := 92) (by decide) (by decide) (by decide) (by decide) (by decide) (by decide) (by decide) (by decide) (by decide) (by decide) (by decide) (by decide) (by decide) (by decide)]⟩
    · rw [cl 73 (by decide) (by decide) (by decide) (by decide), m0_73v]; omega
    · rw [cl 76 (by decide) (by decide) (by decide) (by decide), m0_o (q := 76) (by decide) (by decide) (by decide) (by decide) (by decide) (by decide) (by decide) (by decide) (by decide) (by decide) (by decide) (by decide) (by decide) (by decide)]
    · have x0 : 0 ≤ x := by have := hx.1; omega
      have x1 : x ≠ 130 * S + m := by have := hx.2; omega
      rw [cl 77 (by decide) (by decide) (by decide) (by decide), cl 78 (by decide) (by decide) (by decide) (by decide), cl 85 (by decide) (by decide) (by decide) (by decide), cl 86 (by decide) (by decide) (by decide) (by decide)]
      exact ⟨m0_77 S0 m0 x x0 x1, m0_78 S0 m0 x x0 x1, m0_85 S0 m0 x x0 x1, m0_86 S0 m0 x x0 x1⟩
  · rw [cl 73 (by decide) (by decide) (by decide) (by decide), m0_73v]
  · rw [cl 75 (by decide) (by decide) (by decide) (by decide), m0_o (q := 75) (by decide) (by decide) (by decide) (by decide) (by decide) (by decide) (by decide) (by decide) (by decide) (by decide) (by decide) (by decide) (by decide) (by decide)]
  · rw [cl 77 (by decide) (by decide) (by decide) (by decide), m0_77v]
  · rw [cl 85 (by decide) (by decide) (by decide) (by decide), m0_85v]
  · intro j
    rw [cl 92 (by decide) (by decide) (by decide) (by decide), m0_o (q := 92) (by decide) (by decide) (by decide) (by decide) (by decide) (by decide) (by decide) (by decide) (by decide) (by decide) (by decide) (by decide) (by decide) (by decide)]
  · rw [cl 79 (by decide) (by decide) (by decide) (by decide), m0_79v, cl 86 (by decide) (by decide) (by decide) (by decide), m0_86v]; exact ⟨hpp, rfl⟩
theorem SM.nam {c : Nat} {S d pc i v : Int} {B : Int → Int} {s t : ST} (hc : c = 2 ∨ c = 18) (S0 : 0 ≤ S) (h : SM c S d pc B s t) (hi0 : CJ t S i) (h77 : gI t 77 i = 6) : SM c S d pc B (sI s 41 (i - 130 * S).toNat v) (sI t 82 i.toNat v) := by
  obtain ⟨hp, hr, hcc, hS, hO⟩ := h
  have i0 : 0 ≤ i := by have := hi0.1; omega
  have i1 : 0 ≤ i - 130 * S := by have := hi0.1; omega
  refine ⟨(hp.wI (by omega) (by omega)).wJ (by omega) (by omega), ?_, hcc, ?_, ?_⟩
  · exact RR.nam (v := v) hc S0 hr hi0 h77 (fun a h1 _ => funext fun j => gI_nc h1) (fun j h0 h1 => gI_ni h0 i0 h1) gI_eq (fun a h1 _ => funext fun j => gI_nc h1) (fun j h0 h1 => gI_ni h0 i1 h1) gI_eq (by rw [sI_nc (p := 34) (show 34 ≠ 41 by decide)])
  · rw [sI_nc (p := 70) (show 70 ≠ 82 by decide)]; exact hS
  · intro k k0 k1
    rw [gI_nc (show 75 ≠ 82 by decide)] at k1
    have q := hr.2.1 k k0 k1
    have o := hO k k0 k1
    have q1 := q.1.1
    rw [gI_nc (show 93 ≠ 82 by decide), gI_nc (show 77 ≠ 82 by decide)]
    refine ⟨?_, ?_⟩
    · show OV (gI (sI s 41 (i - 130 * S).toNat v) (c + 9) k) (gI (sI t 82 i.toNat v) 89 _) ∧ OV (gI (sI s 41 (i - 130 * S).toNat v) (c + 10) k) (gI (sI t 82 i.toNat v) 89 _) ∧ SV (gI (sI s 41 (i - 130 * S).toNat v) (c + 8) k) (gI (sI t 82 i.toNat v) 83 _)
      rw [gI_nc (show c + 9 ≠ 41 by omega), gI_nc (show c + 10 ≠ 41 by omega), gI_nc (show c + 8 ≠ 41 by omega), gI_nc (show 89 ≠ 82 by decide), gI_nc (show 89 ≠ 82 by decide), gI_nc (show 83 ≠ 82 by decide)]
      exact o.1
    · rcases o.2 with z | z | z
      · exact Or.inl z
      · exact Or.inr (Or.inl z)
      · by_cases y : gI t 93 (40 * S + k) = i
        · have k6 : gI t 77 (gI t 93 (40 * S + k)) ≠ 6 := by
            have w := hr.2.2.1 (gI t 93 (40 * S + k) - 130 * S) (by omega) (by have := q.1.2; omega)
            have w2 := w.2.1
            unfold K3a at w2
            rw [show 130 * S + (gI t 93 (40 * S + k) - 130 * S) = gI t 93 (40 * S + k) by omega] at w2
            rcases w2 with w2 | w2
            · have := q.2.1
              omega
            · exact w2.2.2.1
          exact absurd (by rw [y]; exact h77) k6
        · rw [gI_ni (by omega) i0 y]
          exact Or.inr (Or.inr z)
set_option maxHeartbeats 4000000 in
theorem it_try {c : Nat} {S d pc m p : Int} {B : Int → Int} {s sm t : ST} {g : ST → Int → Int → Int → ST × Int} (gT : ST → Int → Int → Int → ST) (hc : c = 2 ∨ c = 18) (S0 : 0 ≤ S) (d0 : 0 ≤ d) (hB : HB c S g (d + 1)) (h : SM c S (d + 1) pc B sm t) (hl : f_X3_look s = (sm, 37)) (h03 : s.1 34 3 = 0) (hsp : s.1 34 2 ≤ sm.1 34 2) (hpl : sm.1 34 2 < sm.1 34 1) (hm : m = gI t 73 S) (m1 : m < 128) (hp : gI t 76 S - 1 = p) (hph : ph S sm t ≤ 5 * d) : IQ c S (d + 1) pc B s sm t (f_X8_readItem_b_ gT (f_X8_readTry_b g) 14 70 (B d) p d (-1) 6 t) := by
  obtain ⟨f, hf⟩ : ∃ f, f = gI t 90 (B d) := ⟨_, rfl⟩
  obtain ⟨l, hl9⟩ : ∃ l, l = gI t 91 (B d) := ⟨_, rfl⟩
  obtain ⟨n, hn⟩ : ∃ n, n = gI t 75 S := ⟨_, rfl⟩
  have K := h.2.1.1
  have m0 : 0 ≤ m := by have := K.2.2.2.2.2.1; omega
  have op : sm.1 34 7 = d + 1 := h.2.1.2.2.2.2.2.2.2
  have e1 := new_t (show sm.1 36 0 = m from K.2.2.1.trans hm.symm) op rfl m1 m0
  have e2 := new_m gT (f_X8_readTry_b g) (p := p) (d := d) (nm := -1) (its := 6) (b := B d) (m := m) (n := n) (f := f) (l := l) h.2.2.2.1 hm.symm hn.symm h.1.2.2.2.2.2.2.2 hl9.symm hf.symm rfl
  rewrite [if_pos rfl] at e2
  obtain ⟨smu, keu, w73, w75, w77, w85, y92, w79⟩ := SM.crt (p := p) hc S0 d0 h hpl hm hf hl9 hp
  have x2 : (cNt sm m (d + 1) (sm.1 34 2) (sm.1 46 (d + 1 - 1).toNat)).1 34 2 = sm.1 34 2 + 1 := cNt_2
  rewrite [e2]
  clear e2
  generalize cNt sm m (d + 1) (sm.1 34 2) (sm.1 46 (d + 1 - 1).toNat) = u at *
  generalize mCl (mC0 t S m p d (t.1 70 4) (-1) 6 (B d)) S m (t.1 70 4) (B d) f l = w at *
  have ct : cT s = f_X3_openBlock u m 0 := by
    unfold cT
    rw [hl]
    dsimp only
    rw [if_pos (show ¬ sm.1 34 7 = 0 by rw [op]; omega), if_pos (show ¬ (37 : Int) = 125 by omega), if_neg (fun z => z rfl)]
    exact e1
  have hx : ¬ (f_X3_look s).1.1 34 7 = 0 ∨ ¬ (f_X3_look s).2 = -1 := Or.inl (by rw [hl]; dsimp only; rw [op]; omega)
  obtain ⟨fin, kf⟩ : ∃ z, z = f_X8_readTry_b g w (130 * S + m) p d := ⟨_, rfl⟩
  rewrite [← kf]
  unfold f_X8_readTry_b at kf
  have phu : ph S u w ≤ ph S sm t + 5 := by unfold ph; omega
  have hiw : CJ w S (130 * S + m) := by unfold CJ; omega
  have ho : ∀ e, 0 ≤ e → e < d + 1 → gI w 92 (B e) < 130 * S + m := fun e h0 h1 => by
    rw [y92]
    rcases (h.2.1.2.2.2.2.2.1 e h0 h1).2.1 with z | z
    · omega
    · have := z.2; omega
  have hit : m = if 130 * S + m = -1 then -1 else 130 * S + m - 130 * S := by rw [if_neg (by omega)]; omega
  have hsec : (0 : Int) = if 130 * S + m = -1 then 0 else if gI w 85 (130 * S + m) = -1 then 0 else 1 := by rw [if_neg (by omega), if_pos w85]
  have wp : gI w 76 S - 1 = p := by rw [keu.2.1]; exact hp
  have rt : RT1 s (f_X3_openBlock u m 0) := RT1.opn hc S0 (by omega) smu (Or.inr ⟨hiw, ⟨w79.1, w79.2, Or.inr (Or.inl w77)⟩, by omega⟩) ho hit hsec h03 ct.symm hx (by omega)
  have t73 : 0 ≤ gI t 73 S := by omega
  have hti : 130 * S + gI t 73 S ≤ 130 * S + m := by omega
  have mi : 130 * S + m - 130 * S = m := by omega
  have j6 := bd2_e kf (show ((g w (130 * S + m) p (d + 1)).1, (g w (130 * S + m) p (d + 1)).2) = g w (130 * S + m) p (d + 1) from rfl)
  have j7 := bd_e j6 rfl
  have HH := hB pc B u w (130 * S + m) p m 0 smu (Or.inr ⟨hiw, ⟨w79.1, w79.2, Or.inr (Or.inl w77)⟩, by omega⟩) ho hit hsec wp (by omega)
  clear kf j6
  generalize g w (130 * S + m) p (d + 1) = r at *
  rcases HH with ⟨k, s', r1, r2⟩ | ⟨k, s2, p3, r1, r2, r3, r4, r5, r6, r7, r8, r9⟩
  · have f0 : (sI r.1 85 (130 * S + m).toNat r.2).1 70 5 ≠ 0 := by rw [sI_nc (p := 70) (show 70 ≠ 85 by decide)]; exact r2.1
    have j8 := bd_e j7 (good_0 f0)
    have j9 := if_f j8 (fun z => z rfl)
    refine Or.inl ⟨1 + k, s', (RUN.one rt).tr r1, ?_⟩
    rw [j9]
    unfold BQ at *
    rw [sI_nc (p := 70) (show 70 ≠ 85 by decide)]
    exact r2
  · obtain ⟨sC, b1, b2, b3, b4, b5, b6, b7, b8, b9, b10, b11, b12⟩ := blk1 hc S0 (show 0 ≤ d + 1 by omega) hiw w85 keu t73 hti r2 r5 r6 r8 r9
    have j8 := bd_e j7 (good_1 b2.1.2.2.2.2.2.2.2)
    have j9 := if_t j8 (show ¬ (1 : Int) = 0 by omega)
    generalize sI r.1 85 (130 * S + m).toNat r.2 = tC at *
    obtain ⟨p4, v4, l1, l2, l3, l4, l5, l6, l7, l8⟩ := SM.look hc b2
    have s37 : gI sC 37 m = -1 := by
      have k3 := b2.2.1.2.2.1 m m0 (by have := b7.2; omega)
      have a := k3.2.1
      unfold K3a at a
      rcases a with a | a
      · rw [k3.1]; exact a.1
      · exact absurd (b9.trans w77) a.2.2.1
    obtain ⟨nm, hnm⟩ : ∃ nm, nm = if 97 ≤ v4 ∧ v4 ≤ 102 then v4 - 97 else if 119 ≤ v4 ∧ v4 ≤ 122 then 6 + v4 - 119 else -1 := ⟨_, rfl⟩
    have rs := rs_t l1 s37 hnm
    rw [mi] at b1
    have rx : ¬ (f_X3_look s2).1.1 34 7 = 0 ∨ ¬ (f_X3_look s2).2 = -1 := Or.inl b5
    have j10 := bd2_e j9 (nameHere_r (a := 0) l2).symm
    have j11 := bd_e j10 (show (sI tC 70 4 p4).1 70 4 = p4 from sI_eq _ _ _ _)
    have p40 : 0 ≤ p4 := by have := b2.1.2.2.1; omega
    by_cases z1 : 97 ≤ v4 ∧ v4 ≤ 102
    · rw [if_pos z1] at hnm
      rw [if_pos (show 0 ≤ nm ∧ nm < 6 by omega)] at rs
      rw [if_pos z1, ← hnm] at j11
      have j12 := bd_e j11 rfl
      have j13 := bd_e j12 (show (sI (sI tC 70 4 p4) 82 (130 * S + m).toNat nm).1 82 (130 * S + m).toNat = nm from sI_eq _ _ _ _)
      have j14 := if_t j13 (show ¬ nm = -1 by omega)
      have j15 := bd_e j14 (show sI (sI (sI tC 70 4 p4) 82 (130 * S + m).toNat nm) 70 4 (p4 + 1) = sI (sI tC 70 4 (p4 + 1)) 82 (130 * S + m).toNat nm by rw [sI_sw (by omega), sI_sI])
      have smn0 : SM c S (d + 1) pc B (sI sC 34 2 (p4 + 1)) (sI tC 70 4 (p4 + 1)) := SM.mv hc b2 (by omega) (by omega)
      have g7 : ∀ a, a ≠ 70 → a ≠ 82 → gI (sI (sI tC 70 4 (p4 + 1)) 82 (130 * S + m).toNat nm) a = gI tC a := fun a ha hb => funext fun j => (gI_nc hb).trans (gI_nc ha)
      have cj0 : CJ (sI tC 70 4 (p4 + 1)) S (130 * S + m) := by unfold CJ at *; rw [gI_nc (show 73 ≠ 70 by decide)]; exact b7
      have smn := SM.nam (v := nm) hc S0 smn0 cj0 (by rw [gI_nc (show 77 ≠ 70 by decide)]; exact b9.trans w77)
      rw [mi] at smn
      have cj : CJ (sI (sI tC 70 4 (p4 + 1)) 82 (130 * S + m).toNat nm) S (130 * S + m) := by unfold CJ at *; rw [g7 73 (by decide) (by decide)]; exact b7
      have ho2 : ∀ e, 0 ≤ e → e < d + 1 → gI (sI (sI tC 70 4 (p4 + 1)) 82 (130 * S + m).toNat nm) 92 (B e) < 130 * S + m := fun e h0 h1 => by rw [g7 92 (by decide) (by decide)]; exact b10 e h0 h1
      have n85 : ¬ gI (sI (sI tC 70 4 (p4 + 1)) 82 (130 * S + m).toNat nm) 85 (130 * S + m) = -1 := by rw [g7 85 (by decide) (by decide)]; exact b8
      have hp2 : gI (sI (sI tC 70 4 (p4 + 1)) 82 (130 * S + m).toNat nm) 76 S - 1 = p := by rw [g7 76 (by decide) (by decide), b11]; exact wp
      have n79 : gI (sI (sI tC 70 4 (p4 + 1)) 82 (130 * S + m).toNat nm) 79 (130 * S + m) = pc ∧ gI (sI (sI tC 70 4 (p4 + 1)) 82 (130 * S + m).toNat nm) 86 (130 * S + m) = -1 ∧ (gI (sI (sI tC 70 4 (p4 + 1)) 82 (130 * S + m).toNat nm) 77 (130 * S + m) = 2 ∨ gI (sI (sI tC 70 4 (p4 + 1)) 82 (130 * S + m).toNat nm) 77 (130 * S + m) = 6 ∨ (gI (sI (sI tC 70 4 (p4 + 1)) 82 (130 * S + m).toNat nm) 77 (130 * S + m) = 3 ∧ gI (sI (sI tC 70 4 (p4 + 1)) 82 (130 * S + m).toNat nm) 85 (130 * S + m) = -1)) := by rw [g7 79 (by decide) (by decide), g7 86 (by decide) (by decide), g7 77 (by decide) (by decide)]; exact ⟨b12.1, b12.2, Or.inr (Or.inl (b9.trans w77))⟩
      have pn : (sI (sI sC 34 2 (p4 + 1)) 41 m.toNat nm).1 34 2 = p4 + 1 := by rw [sI_nc (p := 34) (show 34 ≠ 41 by decide), sI_eq]
      have pe : ph S (sI (sI sC 34 2 (p4 + 1)) 41 m.toNat nm) (sI (sI tC 70 4 (p4 + 1)) 82 (130 * S + m).toNat nm) = ph S sC tC + sC.1 34 2 - (p4 + 1) := by
        unfold ph
        rw [pn, g7 73 (by decide) (by decide), g7 75 (by decide) (by decide)]
        omega
      have rt2 : RT1 s2 (f_X3_openBlock (sI (sI sC 34 2 (p4 + 1)) 41 m.toNat nm) m 1) := RT1.opn hc S0 (by omega) smn (Or.inr ⟨cj, n79, by omega⟩) ho2 hit (by rw [if_neg (by omega), if_neg n85]) r3 (b1.trans rs).symm rx (by rw [pn]; omega)
      have ke2 : KE S t (sI (sI tC 70 4 (p4 + 1)) 82 (130 * S + m).toNat nm) := KE.put S0 b6.mv t73 hti (by decide) (by decide) (by decide) (by decide)
      have B2 := blk2 hc S0 (show 0 ≤ d + 1 by omega) hB smn cj ho2 n85 hp2 (by rw [pe]; omega) ke2 t73 hti ⟨n79, by omega⟩
      rw [mi] at B2
      have j16 := bd2_e j15 (show ((g (sI (sI tC 70 4 (p4 + 1)) 82 (130 * S + m).toNat nm) (130 * S + m) p (d + 1)).1, (g (sI (sI tC 70 4 (p4 + 1)) 82 (130 * S + m).toNat nm) (130 * S + m) p (d + 1)).2) = g (sI (sI tC 70 4 (p4 + 1)) 82 (130 * S + m).toNat nm) (130 * S + m) p (d + 1) from rfl)
      have j17 := bd_e j16 rfl
      rw [j17]
      rcases B2 with ⟨k2, s', t1, t2⟩ | ⟨k2, s', t1, t2, t3, t4, t5⟩
      · exact Or.inl ⟨1 + k + 1 + k2, s', (((RUN.one rt).tr r1).tr (RUN.one rt2)).tr t1, t2⟩
      · refine IQ.of hc ((((RUN.one rt).tr r1).tr (RUN.one rt2)).tr t1) t2 (by rw [pn] at t3; omega) ?_ t5
        rw [pe] at t4
        omega
    · have nn : ¬ (0 ≤ nm ∧ nm < 6) := by
        rw [hnm, if_neg z1]
        by_cases z2 : 119 ≤ v4 ∧ v4 ≤ 122
        · rw [if_pos z2]; omega
        · rw [if_neg z2]; omega
      rw [if_neg nn] at rs
      rw [if_neg z1, if_neg (show ¬ (¬ (0 : Int) = 0 ∧ 119 ≤ v4 ∧ v4 ≤ 122) from fun z => z.1 rfl)] at j11
      have j12 := bd_e j11 rfl
      have j13 := bd_e j12 (show (sI (sI tC 70 4 p4) 82 (130 * S + m).toNat (-1)).1 82 (130 * S + m).toNat = -1 from sI_eq _ _ _ _)
      have j14 := if_f j13 (fun z => z rfl)
      rewrite [bd_r] at j14
      rw [j14]
      have hps : PS (sI sC 34 2 p4) (sI (sI tC 70 4 p4) 82 (130 * S + m).toNat (-1)) := l5.1.wJ (by omega) (by omega)
      have bq : BQ c (f_X3_blame (sI sC 34 2 p4) 1 p4) (f_X8_fails (sI (sI tC 70 4 p4) 82 (130 * S + m).toNat (-1)) 1) := by
        refine BD.bq (BD.mk2 hps (by omega) ?_) ?_
        · rw [sI_nc (p := 70) (show 70 ≠ 82 by decide), sI_eq]
        · exact (BN.bl (b := 0) (s := sI sC 34 2 p4) ⟨fun z => absurd rfl z, b2.2.2.1⟩).2
      refine Or.inl ⟨1 + k + 1, _, ((RUN.one rt).tr r1).tr (RUN.one ⟨r3, (b1.trans rs).symm, rx, fun z => absurd ((bq.2.1 bq.1).symm.trans z) bq.1⟩), bq⟩

