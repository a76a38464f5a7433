/-! blocks: the loop of their items, and all levels -/
theorem SM.at {c : Nat} {S d pc v : Int} {B : Int → Int} {sm tm : ST} (hc : c = 2 ∨ c = 18) (h : SM c S d pc B sm tm) (hl : f_X3_look sm = (sm, v)) : v = -1 ∨ sm.1 34 2 < sm.1 34 1 := by
  obtain ⟨p, v', e1, -, -, -, -, -, -, h3⟩ := SM.look hc h
  have e := hl.symm.trans e1
  have ev : v = v' := congrArg Prod.snd e
  have ep : sm.1 34 2 = p := by
    have q := congrArg (fun x : ST × Int => x.1.1 34 2) e
    dsimp only at q
    rw [sI_eq] at q
    exact q
  rcases h3 with z | z
  · exact Or.inl (ev.trans z.1)
  · exact Or.inr (by omega)
theorem must_at {tm : ST} {a : Int} (h5 : tm.1 70 5 = 0) (hh : f_X8_here tm = (tm, a)) : f_X8_must tm a = sI tm 70 4 (tm.1 70 4 + 1) := by
  obtain ⟨fin, kf⟩ : ∃ z, z = f_X8_must tm a := ⟨_, rfl⟩
  rewrite [← kf]
  unfold f_X8_must at kf
  have j1 := bd_e kf (good_1 h5)
  have j2 := if_t j1 (show ¬ (1 : Int) = 0 by omega)
  have j3 := bd2_e j2 hh.symm
  have j4 := bd_e j3 rfl
  have j5 := if_f j4 (fun z => z rfl)
  exact j5
theorem loop_f {G : ST → Int → Int → Int → ST} {N k : Nat} {p d b : Int} {t : ST} (h : t.1 70 5 ≠ 0) : (f_X8_readBlock_b_ G N k p d b t).1 = t := by
  cases N with
  | zero => rfl
  | succ N =>
    obtain ⟨fin, kf⟩ : ∃ z, z = f_X8_readBlock_b_ G (N + 1) k p d b t := ⟨_, rfl⟩
    rewrite [← kf]
    rewrite [f_X8_readBlock_b_] at kf
    have j1 := bd_e kf (good_0 h)
    have j2 := if_t j1 rfl
    rewrite [bd_r, must_f h] at j2
    rw [j2]
theorem blk_loop {c : Nat} {S d pc p : Int} {B : Int → Int} {g : ST → Int → Int → Int → ST × Int} (hc : c = 2 ∨ c = 18) (S0 : 0 ≤ S) (d0 : 0 ≤ d) (d6 : d ≤ 6) (hB : HB c S g (d + 1)) : ∀ (N k0 : Nat) (s sm t tm : ST) (v : Int), f_X3_look s = (sm, v) → f_X8_here t = (tm, v) → f_X3_look sm = (sm, v) → f_X8_here tm = (tm, v) → SM c S (d + 1) pc B sm tm → s.1 34 3 = 0 → t.1 70 5 = 0 → s.1 34 2 ≤ sm.1 34 2 → gI tm 76 S - 1 = p → ph S sm tm ≤ 5 * d → 500 - sm.1 34 2 < N →
    (∃ k s', RUN k s s' ∧ BQ c s' (f_X8_readBlock_b_ (f_X8_readItem_b (f_X8_readTest_b g) (f_X8_readTry_b g)) N k0 p d (B d) t).1) ∨ (∃ k s2 p3, RUN k s s2 ∧ f_X3_look s2 = (sI s2 34 2 p3, 125) ∧ s2.1 34 3 = 0 ∧ s2.1 34 2 ≤ p3 ∧ SM c S (d + 1) pc B (sI s2 34 2 (p3 + 1)) (f_X8_readBlock_b_ (f_X8_readItem_b (f_X8_readTest_b g) (f_X8_readTry_b g)) N k0 p d (B d) t).1 ∧ (f_X8_readBlock_b_ (f_X8_readItem_b (f_X8_readTest_b g) (f_X8_readTry_b g)) N k0 p d (B d) t).2 = B d ∧ sm.1 34 2 ≤ p3 ∧ ph S (sI s2 34 2 (p3 + 1)) (f_X8_readBlock_b_ (f_X8_readItem_b (f_X8_readTest_b g) (f_X8_readTry_b g)) N k0 p d (B d) t).1 + 1 ≤ ph S sm tm ∧ KE S tm (f_X8_readBlock_b_ (f_X8_readItem_b (f_X8_readTest_b g) (f_X8_readTry_b g)) N k0 p d (B d) t).1) := by
  intro N
  induction N with
  | zero =>
    intro k0 s sm t tm v _ _ _ _ h _ _ _ _ _ hN
    have := h.1.2.2.2.1
    have := h.1.2.2.2.2.1
    omega
  | succ N ih =>
    intro k0 s sm t tm v hl hh hl2 hh2 h h03 h05 hsp hp hph hN
    obtain ⟨fin, kf⟩ : ∃ z, z = f_X8_readBlock_b_ (f_X8_readItem_b (f_X8_readTest_b g) (f_X8_readTry_b g)) (N + 1) k0 p d (B d) t := ⟨_, rfl⟩
    rewrite [← kf]
    rewrite [f_X8_readBlock_b_] at kf
    have j1 := bd_e kf (good_1 h05)
    have j2 := if_f j1 (show ¬ (1 : Int) = 0 by omega)
    have j3 := bd2_e j2 hh.symm
    have at1 := SM.at hc h hl2
    by_cases v1 : v = 125
    · have j4 := if_t j3 v1
      rewrite [bd_r, must_at h.1.2.2.2.2.2.2.2 (by rw [v1] at hh2; exact hh2)] at j4
      right
      obtain ⟨p', v', ex⟩ := look_ex s
      have es : sm = sI s 34 2 p' := congrArg Prod.fst (hl.symm.trans ex)
      have ep : sm.1 34 2 = p' := by rw [es, sI_eq]
      have ez : sI s 34 2 (sm.1 34 2 + 1) = sI sm 34 2 (sm.1 34 2 + 1) := by rw [ep, es, sI_sI]
      have et : tm.1 70 4 = sm.1 34 2 := h.1.2.1.symm
      rw [j4]
      dsimp only
      rw [et]
      have p0 := h.1.2.2.1
      refine ⟨0, s, sm.1 34 2, rfl, ?_, h03, hsp, ?_, rfl, Int.le_refl _, ?_, KE.rfl.mv⟩
      · rw [hl, v1, ep, ← es]
      · rw [ez]
        exact SM.mv hc h (by omega) (by omega)
      · rw [ez, ph_mv]
        omega
    · have j4 := if_f j3 v1
      rewrite [bd_r] at j4
      have it := it_all hc S0 d0 d6 hB h hl hh2 h03 hsp at1 v1 hp hph
      rw [j4]
      rcases it with ⟨k, s', r1, r2⟩ | ⟨k, s', sm', tm', v', r1, r2, r3, r4, r5, r6, r7, r8, r9, r10, r11, r12⟩
      · refine Or.inl ⟨k, s', r1, ?_⟩
        rw [loop_f r2.1]
        exact r2
      · have q := ih 8 s' sm' _ tm' v' r4 r5 r6 r7 r8 r2 r3 r9 (by rw [r12.2.1]; exact hp) (by omega) (by omega)
        rcases q with ⟨k2, s2, q1, q2⟩ | ⟨k2, s2, p3, q1, q2, q3, q4, q5, q6, q7, q8, q9⟩
        · exact Or.inl ⟨k + k2, s2, r1.tr q1, q2⟩
        · exact Or.inr ⟨k + k2, s2, p3, r1.tr q1, q2, q3, q4, q5, q6, by omega, by omega, r12.tr q9⟩
theorem KE.op {S q p p' i : Int} {t : ST} (hq : q = gI t 74 S) (q0 : 0 ≤ q) (S0 : 0 ≤ S) : KE S t (mOp (sI t 70 4 p') S q p i) := by
  have g : ∀ a, a ≠ 70 → a ≠ 74 → a ≠ 90 → a ≠ 91 → a ≠ 92 → gI (mOp (sI t 70 4 p') S q p i) a = gI t a := fun a h1 h2 h3 h4 h5 => (mOp_o h1 h2 h3 h4 h5).trans (funext fun j => gI_nc h1)
  refine ⟨by rw [g 73 (by decide) (by decide) (by decide) (by decide) (by decide)]; exact Int.le_refl _, by rw [g 76 (by decide) (by decide) (by decide) (by decide) (by decide)], fun x _ => ?_, ?_, fun b hb => ?_⟩
  · rw [g 77 (by decide) (by decide) (by decide) (by decide) (by decide), g 78 (by decide) (by decide) (by decide) (by decide) (by decide), g 85 (by decide) (by decide) (by decide) (by decide) (by decide), g 86 (by decide) (by decide) (by decide) (by decide) (by decide)]
    exact ⟨_root_.rfl, _root_.rfl, _root_.rfl, _root_.rfl⟩
  · rw [mOp_v.1]; omega
  · rw [mOp_92 (by omega) b (by have := hb.1; omega) (by have := hb.2; omega), gI_nc (show 92 ≠ 70 by decide)]
theorem hb_all {c : Nat} {S : Int} (hc : c = 2 ∨ c = 18) (S0 : 0 ≤ S) : ∀ (n : Nat) (d : Int), 0 ≤ d → 7 ≤ d + n → HB c S (m_B n) d := by
  intro n
  induction n with
  | zero =>
    intro d d0 d7 pc B s t i p it sec h hi ho hit hsec hp hph
    rcases SM.opn hc S0 d0 h hi ho hit hsec with q | ⟨p', q, a1, _⟩
    · refine Or.inl ⟨0, _, rfl, ?_⟩
      have e : (m_B 0 t i p d).1 = (f_X8_newBlock t i d).1 := by
        obtain ⟨fin, kf⟩ : ∃ z, z = m_B 0 t i p d := ⟨_, rfl⟩
        rewrite [← kf]
        unfold m_B f_X8_readBlock_b at kf
        rewrite [bd2_r] at kf
        rw [kf]
        exact loop_f q.1
      rw [e]
      exact q
    · omega
  | succ n ih =>
    intro d d0 d7 pc B s t i p it sec h hi ho hit hsec hp hph
    obtain ⟨fin, kf⟩ : ∃ z, z = m_B (n + 1) t i p d := ⟨_, rfl⟩
    rewrite [← kf]
    unfold m_B f_X8_readBlock_b at kf
    rewrite [bd2_r] at kf
    rcases SM.opn hc S0 d0 h hi ho hit hsec with q | ⟨p', q, d6, a2, a3, a4, a5, a6, a7⟩
    · refine Or.inl ⟨0, _, rfl, ?_⟩
      rw [kf, loop_f q.1]
      exact q
    · have hB := ih (d + 1) (by omega) (by omega)
      have q0 : 0 ≤ q := by have := h.2.1.1.2.2.2.2.2.2.1; omega
      have ke1 : KE S t (f_X8_newBlock t i d).1 := by rw [a6]; exact KE.op a4 q0 S0
      have b92 : gI (f_X8_newBlock t i d).1 92 (280 * S + q) = i := by rw [a6]; exact mOp_v.2.2.2.1
      have b2 : (f_X8_newBlock t i d).2 = 280 * S + q := by rw [a6]
      have pl : (f_X3_openBlock s it sec).1 34 2 = p' := by rw [a5]; exact cOp_v.2.2.2.2.1
      have ph1 : ph S (f_X3_openBlock s it sec) (f_X8_newBlock t i d).1 + 1 ≤ ph S s t := by
        have e3 : gI (f_X8_newBlock t i d).1 73 S = gI t 73 S := by rw [a6]; exact congrFun ((mOp_o (by decide) (by decide) (by decide) (by decide) (by decide)).trans (funext fun j => gI_nc (by decide))) S
        have e5 : gI (f_X8_newBlock t i d).1 75 S = gI t 75 S := by rw [a6]; exact congrFun ((mOp_o (by decide) (by decide) (by decide) (by decide) (by decide)).trans (funext fun j => gI_nc (by decide))) S
        unfold ph
        omega
      rw [b2] at kf
      generalize f_X3_openBlock s it sec = s1 at *
      generalize f_X8_newBlock t i d = nb at *
      obtain ⟨p4, v, l1, l2, l3, l4, l5, l6, l7, l8⟩ := SM.look hc a7
      have bt : (fun e => if e = d then 280 * S + q else B e) d = 280 * S + q := if_pos rfl
      have lp := blk_loop (p := p) hc S0 d0 d6 hB 3022 8 s1 _ nb.1 _ v l1 l2 l3 l4 l5 a7.1.2.2.2.2.2.2.1 a7.1.2.2.2.2.2.2.2 (by rw [sI_eq]; exact l6) (by rw [gI_nc (show 76 ≠ 70 by decide), ke1.2.1]; exact hp) (by rw [ph_mv]; omega) (by rw [sI_eq]; have := a7.1.2.2.1; omega)
      rw [show (if d = d then 280 * S + q else B d) = 280 * S + q from if_pos rfl, ← kf] at lp
      rcases lp with ⟨k, s', q1, q2⟩ | ⟨k, s2, p3, q1, q2, q3, q4, q5, q6, q7, q8, q9⟩
      · exact Or.inl ⟨k, s', q1, q2⟩
      · right
        rw [sI_eq] at q7
        rw [ph_mv] at q8
        have cbq : CB (sI nb.1 70 4 p4) S (280 * S + q) := by
          have := RR.top d0 l5.2.1 bt rfl
          exact this.1
        refine ⟨k, s2, p3, q1, q2, q3, q4, ?_, ?_, by omega, by omega, ?_⟩
        · rw [q6]; exact q5
        · rw [q6, q9.2.2.2.2 _ cbq, gI_nc (show 92 ≠ 70 by decide)]
          exact b92
        · exact (ke1.mv).tr q9

