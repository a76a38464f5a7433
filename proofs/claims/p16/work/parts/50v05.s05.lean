/-! statements, loops, calls, procedures -/
section K
variable {c : Nat} {S P L : Int} {T x y : ST} {EN FI EO BH TB O : Int → Int} {F : Nat → Nat → Int}
/-- where what a statement throws is caught -/
theorem va_t {i : Int} (st : STF c P T FI BH TB F i) (hk : gI T 77 i = 1 ∨ gI T 77 i = 4) (ht : ¬ TB (gI T 88 i) = -1) : F (c + 13) (gI T 78 i).toNat = en (gI T 79 i) (FI (gI T 86 (TB (gI T 88 i)))) ∧ F (c + 14) (gI T 78 i).toNat = gI T 82 (TB (gI T 88 i)) := by
  obtain ⟨_, _, _, _, _, _, _, _, _, _, _, s13, s14, _⟩ := st
  rw [s13, s14]
  unfold vA vV cA
  rw [if_neg (by omega), if_neg (by omega), if_neg ht, if_neg ht]
  exact ⟨rfl, rfl⟩
theorem vv_n {i : Int} (st : STF c P T FI BH TB F i) (ht : TB (gI T 88 i) = -1) : F (c + 14) (gI T 78 i).toNat = -1 := by
  obtain ⟨_, _, _, _, _, _, _, _, _, _, _, _, s14, _⟩ := st
  rw [s14]
  unfold vV
  rw [if_pos ht]
/-- the try around a statement -/
theorem tbk_ok {i : Int} (f : RNF c S P T EN FI EO BH TB F) (ht : ¬ TB (gI T 88 i) = -1) (hh : ¬ TB (gI T 88 i) = -1 → CJ T S (TB (gI T 88 i)) ∧ gI T 77 (TB (gI T 88 i)) = 6) : 0 ≤ gI T 82 (TB (gI T 88 i)) ∧ gI T 82 (TB (gI T 88 i)) < 6 := by
  have q := hh ht
  have n := f.2.2.2.2.2.2.2.1 _ q.1 q.2
  exact ⟨n.1, n.2.1⟩
/-- thrown by statement k in this procedure: what the class does -/
theorem raise_o (f : RNF c S P T EN FI EO BH TB F) (tk : ∀ i, CJ T S i → ¬ TB (gI T 88 i) = -1 → CJ T S (TB (gI T 88 i)) ∧ gI T 77 (TB (gI T 88 i)) = 6) {i k v : Int} (ci : CJ T S i) (st : STF c P T FI BH TB F i) (ek : gI T 78 i = k) (kd : gI T 77 i = 4) (r : REL c S F O L x y) (hv : y.1 70 52 = v) {eo : Int} : OUT c S T FI F O L (TB (gI T 88 i)) eo (f_X2_raise2 x k v) y 2 := by
  unfold f_X2_raise2
  rw [bd_r, r.1.2.2.1, bd_r, r.2.2.1 (c + 14) (by omega) (by omega)]
  by_cases ht : TB (gI T 88 i) = -1
  · have e := vv_n st ht
    rw [ek] at e
    rw [e, if_pos (by decide), bd_r]
    exact Or.inr (Or.inr (Or.inl ⟨rfl, ht, x, r, by rw [hv]⟩))
  · have e := va_t st (Or.inr kd) ht
    have n := tbk_ok f ht (tk i ci)
    rw [ek] at e
    rw [e.2, if_neg (by omega), bd_r, r.2.2.1 (c + 14) (by omega) (by omega), e.2, bd_r, bd_r, bd_r]
    have s := store_xy (v := v) r n.1 (show gI T 82 (TB (gI T 88 i)) ≤ 9 by omega)
    have et : f_X8_tellsName_x y L (gI T 82 (TB (gI T 88 i))) v = sI y 114 (6 * L + gI T 82 (TB (gI T 88 i))).toNat v := by
      unfold f_X8_tellsName_x
      rw [if_neg (by omega), bd_r]
    rw [et] at s
    rw [s.1.2.2.1, bd_r, s.2.2.1 (c + 13) (by omega) (by omega), e.1, bd_r]
    refine Or.inr (Or.inr (Or.inr (Or.inl ⟨rfl, ht, ?_, UMT.of (q := gI T 79 i) (sI_eq _ _ _ _) (by obtain ⟨_, _, _, _, _, _, _, _, _, _, _, _, _, s79⟩ := st; exact s79)⟩)))
    rw [hv]
    exact s.ox (fun p j h => sI_ne (by omega)) rfl
/-- a statement -/
theorem sd_1 (f : RNF c S P T EN FI EO BH TB F) (tk : ∀ i, CJ T S i → ¬ TB (gI T 88 i) = -1 → CJ T S (TB (gI T 88 i)) ∧ gI T 77 (TB (gI T 88 i)) = 6) {nn : Nat} {C : ST → Int → Int → Int → Int → ST × Int} {G H : ST → Int → Int → ST × Int}
    (sg : ∀ b O L x y, CB T S b → HGb T L b nn → REL c S F O L x y → UMT x (FI b) → SIM c S T FI F O L (TB b) (EO b) x y (G y b L))
    (sl : ∀ i O L x y, CJ T S i → gI T 77 i = 3 → 30 * (30 - L) + 3 * (7 - gI T 80 i) + 1 ≤ (nn : Int) → REL c S F O L x y → SIN c S T FI F O L (TB (gI T 88 i)) (BH i) (f_X2_perform2 x (gI T 78 i)) y (H y i L))
    (sc : ∀ i O L x y, CJ T S i → gI T 77 i = 1 → 30 * (30 - L) + 1 ≤ (nn : Int) → REL c S F O L x y → SIN c S T FI F O L (TB (gI T 88 i)) (BH i) (f_X2_perform2 x (gI T 78 i)) y (C y i L (f_X8_number_ y L i 0) (f_X8_number_ y L i 1)))
    {i : Int} (ci : CJ T S i) (k6 : ¬ gI T 77 i = 6) (n9 : gI T 82 i ≤ 9) (hg : HGi T L i (nn + 1)) (r : REL c S F O L x y) (u : UMT x (EN i)) : SIM c S T FI F O L (TB (gI T 88 i)) (BH i) x y (f_X8_does_b C G H y i L) := by
  have X := f.2.2.2.1
  have w := f.2.2.1
  have tr := f.2.2.2.2.1
  have st := f.2.2.2.2.2.2.2.2.1 i ci k6
  have k0 := st.1.1
  have k1 := st.1.2
  have en1 := w.1 i ci
  rw [if_neg k6] at en1
  rw [en1] at u
  have uk : x.1 64 4 = gI T 78 i := by
    rcases u with u | u
    · omega
    · exact u.2
  have i0 : ¬ i = -1 := by
    have q := ci
    unfold CJ at q
    have := f.2.1.1
    omega
  have d6 := (X.2.2.2.2.2 i ci)
  unfold f_X8_does_b
  rw [bd_r]
  by_cases d : y.1 70 53 = 3000
  · rw [if_neg (fun z => z d)]
    have h1 := MVS.one r.1.2.1
    have h2 := step_cut r uk k0 k1 d
    refine ⟨1, _, h1, ?_, fun h => absurd rfl h, Or.inr (Or.inr (Or.inr (Or.inr ⟨rfl, h2⟩)))⟩
    show (1 : Int) ≤ 2 * (y.1 70 53 - y.1 70 53) + 1
    omega
  · rw [if_pos d, show sI y 70 53 (y.1 70 53 + 1) = YD y from rfl, bd_r]
    have rd := done_xy r d
    refine SIN.of r uk k0 k1 d ?_
    generalize XD x = X1 at rd ⊢
    generalize YD y = Y1 at rd ⊢
    rw [bd_r, bd_r, bd_r, rd.2.2.2.2.1 77 (by omega) (by omega), tr 77 i (by omega) (by omega) ci]
    have yq : ∀ {y1 x1 : ST}, REL c S F O L x1 y1 → ∀ (q : Nat), 77 ≤ q → q ≤ 88 → y1.1 q i.toNat = gI T q i := fun r q q1 q2 => by rw [r.2.2.2.2.1 q (by omega) (by omega)]; exact tr q i q1 q2 ci
    have hb : ∀ b, gI T 92 b = i → HGb T L b nn := fun b e => by
      unfold HGi at hg
      unfold HGb
      rw [e]
      exact ⟨fun z => absurd z i0, fun _ => by omega⟩
    unfold HGi at hg
    by_cases z0 : gI T 77 i = 0
    · rw [if_pos z0, bd_r, yq rd 83 (by omega) (by omega)]
      have cp := comp_eq rd st rfl
      by_cases s0 : gI T 83 i = 0
      · rw [if_neg (fun z => z s0), bd_r, bd_r, bd_r, yq rd 82 (by omega) (by omega)]
        rw [if_neg (fun z => z s0)] at cp
        have s := do_set rd st rfl z0 cp.symm n9
        exact SIN.done (by rw [sees_d, tells_d]) (Or.inl ⟨rfl, s⟩)
      · rw [if_pos s0, bd_r, bd_r, bd_r, yq rd 82 (by omega) (by omega), bd_r, bd_r]
        rw [if_pos s0] at cp
        have s := do_set rd st rfl z0 cp.symm n9
        exact SIN.done (by rw [sees_d, tells_d]) (Or.inl ⟨rfl, s⟩)
    · rw [if_neg z0]
      by_cases z1 : gI T 77 i = 1
      · rw [if_pos z1, bd2_r]
        exact sc i O L X1 Y1 ci z1 (by omega) rd
      · rw [if_neg z1]
        by_cases z2 : gI T 77 i = 2
        · rw [if_pos z2]
          have t := do_tst rd st rfl (Or.inl z2)
          have o5 : CB T S (gI T 85 i) ∧ gI T 92 (gI T 85 i) = i := by
            rcases (X.2.2.2.1 i ci).1 with q | q
            · exact absurd q ((X.2.2.2.2.1 i ci).2 (Or.inl z2))
            · exact q
          have ob : ∀ b, CB T S b → gI T 92 b = i → EO b = BH i ∧ TB b = TB (gI T 88 i) := fun b cb e => by
            have q := w.2.2.1 b cb
            rw [e, if_neg i0, if_neg (by omega)] at q
            have q2 := w.2.2.2.2.1 b cb
            rw [e, if_neg i0, if_neg (by omega)] at q2
            exact ⟨q, q2⟩
          by_cases le : f_X8_number_ Y1 L i 1 ≤ f_X8_number_ Y1 L i 0
          · rw [if_pos le, bd_r]
            have t1 := t.1 le
            have e86 := yq t1.1 86 (by omega) (by omega)
            generalize hY : f_X8_sees_x Y1 i 0 = Y2 at t1 e86 ⊢
            have eY : Y2.1 70 53 = Y1.1 70 53 := by rw [← hY]; exact sees_d
            rw [if_pos le, bd_r, e86]
            by_cases n6 : gI T 86 i = -1
            · rw [if_neg (fun z => z n6)]
              rw [if_neg (fun z => z.2 n6)] at t1
              exact SIN.done eY (Or.inl ⟨rfl, t1⟩)
            · rw [if_pos n6, bd_r, bd2_r]
              rw [if_pos ⟨z2, n6⟩] at t1
              have o6 : CB T S (gI T 86 i) ∧ gI T 92 (gI T 86 i) = i := by
                rcases (X.2.2.2.1 i ci).2 with q | q
                · exact absurd q n6
                · exact q
              have s := sg _ O L _ _ o6.1 (hb _ o6.2) t1.1 t1.2
              rw [(ob _ o6.1 o6.2).1, (ob _ o6.1 o6.2).2] at s
              have s2 := s.n
              unfold SIN at s2 ⊢
              rw [eY] at s2
              exact s2
          · rw [if_neg le, bd_r]
            have t1 := t.2 le
            have e85 := yq t1.1 85 (by omega) (by omega)
            generalize hY : f_X8_sees_x Y1 i 1 = Y2 at t1 e85 ⊢
            have eY : Y2.1 70 53 = Y1.1 70 53 := by rw [← hY]; exact sees_d
            rw [if_neg le, bd_r, e85, bd2_r]
            have s := sg _ O L _ _ o5.1 (hb _ o5.2) t1.1 t1.2
            rw [(ob _ o5.1 o5.2).1, (ob _ o5.1 o5.2).2] at s
            have s2 := s.n
            unfold SIN at s2 ⊢
            rw [eY] at s2
            exact s2
        · rw [if_neg z2]
          by_cases z3 : gI T 77 i = 3
          · rw [if_pos z3, bd2_r]
            exact sl i O L X1 Y1 ci z3 (by omega) rd
          · rw [if_neg z3, bd_r, bd_r, bd_r]
            have s45 : gI T 77 i = 4 ∨ gI T 77 i = 5 := by
              have q := st.2.1
              omega
            obtain ⟨V, hV⟩ : ∃ V, V = sI (f_X8_sees_x Y1 i (f_X8_number_ Y1 L i 0)) 70 52 (f_X8_number_ Y1 L i 0) := ⟨_, rfl⟩
            have ed : V.1 70 53 = Y1.1 70 53 := by rw [hV, sI_ne (by omega), sees_d]
            have ev : V.1 70 52 = f_X8_number_ Y1 L i 0 := by rw [hV]; exact sI_eq _ _ _ _
            rw [← hV]
            rcases s45 with q | q
            · obtain ⟨x1, r1, e1⟩ := do_thr rd st rfl q
              rw [← hV] at r1
              rw [yq r1 77 (by omega) (by omega), q, if_neg (by decide), e1]
              exact SIN.done ed (raise_o f tk ci st rfl q r1 ev)
            · obtain ⟨x1, r1, e1⟩ := do_ret rd st rfl q
              rw [← hV] at r1
              rw [yq r1 77 (by omega) (by omega), q, if_pos (by decide), e1]
              exact SIN.done ed (Or.inr (Or.inl ⟨rfl, x1, r1, by rw [ev]⟩))
/-- a loop -/
theorem slo_n (f : RNF c S P T EN FI EO BH TB F) {nn : Nat} {G : ST → Int → Int → ST × Int}
    (sg : ∀ b O L x y, CB T S b → HGb T L b nn → REL c S F O L x y → UMT x (FI b) → SIM c S T FI F O L (TB b) (EO b) x y (G y b L))
    {i : Int} (ci : CJ T S i) (k3 : gI T 77 i = 3) (hg : 30 * (30 - L) + 3 * (7 - gI T 80 i) + 1 ≤ ((nn + 1 : Nat) : Int)) : ∀ (n lab : Nat) (so : Int) (x y : ST), 3010 - y.1 70 53 < (n : Int) → REL c S F O L x y → ((so = 0 ∧ UMT x (BH i)) ∨ (¬ so = 0 ∧ UMT x (FI (gI T 85 i)))) → SIM c S T FI F O L (TB (gI T 88 i)) (BH i) x y (f_X8_loops_b_ G n lab i L so y) := by
  have X := f.2.2.2.1
  have w := f.2.2.1
  have tr := f.2.2.2.2.1
  have st := f.2.2.2.2.2.2.2.2.1 i ci (by omega)
  have i0 : ¬ i = -1 := by
    have q := ci
    unfold CJ at q
    have := f.2.1.1
    omega
  have o5 : CB T S (gI T 85 i) ∧ gI T 92 (gI T 85 i) = i := by
    rcases (X.2.2.2.1 i ci).1 with q | q
    · exact absurd q ((X.2.2.2.2.1 i ci).2 (Or.inr k3))
    · exact q
  have eb : EO (gI T 85 i) = gI T 78 i ∧ TB (gI T 85 i) = TB (gI T 88 i) := by
    have q := w.2.2.1 _ o5.1
    rw [o5.2, if_neg i0, if_pos k3] at q
    have q2 := w.2.2.2.2.1 _ o5.1
    rw [o5.2, if_neg i0, if_neg (by omega)] at q2
    exact ⟨q, q2⟩
  have hb : HGb T L (gI T 85 i) nn := by
    unfold HGb
    rw [o5.2]
    exact ⟨fun z => absurd z i0, fun _ => by omega⟩
  intro n
  induction n with
  | zero =>
    intro lab so x y hm r _
    have := r.2.2.2.2.2.1.2.2
    omega
  | succ n ih =>
    intro lab so x y hm r hu
    rw [f_X8_loops_b_]
    by_cases z : so = 0
    · rw [if_pos z]
      rcases hu with hu | hu
      · exact SIM.nil r hu.2
      · exact absurd z hu.1
    · rw [if_neg z, bd_r, r.2.2.2.2.1 85 (by omega) (by omega), tr 85 i (by omega) (by omega) ci, bd2_r]
      have u : UMT x (FI (gI T 85 i)) := by
        rcases hu with hu | hu
        · exact absurd hu.1 z
        · exact hu.2
      have s := sg _ O L x y o5.1 hb r u
      rw [eb.1, eb.2] at s
      generalize G y (gI T 85 i) L = q at s ⊢
      rw [bd_r]
      by_cases h0 : q.2 = 0
      · rw [if_pos h0]
        have mono : y.1 70 53 ≤ q.1.1 70 53 := by
          obtain ⟨m, _, _, _, a3, _⟩ := s
          have := a3 (by omega)
          omega
        refine s.seq h0 (fun x1 r1 u1 => ?_)
        have k0 := st.1.1
        have k1 := st.1.2
        have uk : x1.1 64 4 = gI T 78 i := by
          rcases u1 with u1 | u1
          · omega
          · exact u1.2
        by_cases d : q.1.1 70 53 = 3000
        · rw [if_neg (fun g => g d)]
          refine ⟨1, _, MVS.one r1.1.2.1, ?_, fun h => absurd rfl h, Or.inr (Or.inr (Or.inr (Or.inr ⟨rfl, step_cut r1 uk k0 k1 d⟩)))⟩
          show (1 : Int) ≤ 2 * (q.1.1 70 53 - q.1.1 70 53) + 1
          omega
        · rw [if_pos d, show sI q.1 70 53 (q.1.1 70 53 + 1) = YD q.1 from rfl, bd_r]
          have rd := done_xy r1 d
          have dy : (YD q.1).1 70 53 = q.1.1 70 53 + 1 := sI_eq _ _ _ _
          refine SIN.of r1 uk k0 k1 d ?_
          generalize XD x1 = X1 at rd ⊢
          generalize YD q.1 = Y1 at rd dy ⊢
          rw [bd_r, bd_r]
          have t := do_tst rd st rfl (Or.inr k3)
          by_cases le : f_X8_number_ Y1 L i 1 ≤ f_X8_number_ Y1 L i 0
          · rw [if_pos le, bd_r]
            have t1 := t.1 le
            rw [if_neg (by omega)] at t1
            have eY : (f_X8_sees_x Y1 i 0).1 70 53 = Y1.1 70 53 := sees_d
            have s2 := (ih 37 0 _ _ (by rw [eY]; omega) t1.1 (Or.inl ⟨rfl, t1.2⟩)).n
            unfold SIN at s2 ⊢
            rw [eY] at s2
            exact s2
          · rw [if_neg le, bd_r]
            have t1 := t.2 le
            have eY : (f_X8_sees_x Y1 i 1).1 70 53 = Y1.1 70 53 := sees_d
            have s2 := (ih 37 1 _ _ (by rw [eY]; omega) t1.1 (Or.inr ⟨by decide, t1.2⟩)).n
            unfold SIN at s2 ⊢
            rw [eY] at s2
            exact s2
      · rw [if_neg h0]
        exact s.stop h0
theorem sl_1 (f : RNF c S P T EN FI EO BH TB F) {nn : Nat} {G : ST → Int → Int → ST × Int}
    (sg : ∀ b O L x y, CB T S b → HGb T L b nn → REL c S F O L x y → UMT x (FI b) → SIM c S T FI F O L (TB b) (EO b) x y (G y b L))
    {i : Int} (ci : CJ T S i) (k3 : gI T 77 i = 3) (hg : 30 * (30 - L) + 3 * (7 - gI T 80 i) + 1 ≤ ((nn + 1 : Nat) : Int)) (r : REL c S F O L x y) : SIN c S T FI F O L (TB (gI T 88 i)) (BH i) (f_X2_perform2 x (gI T 78 i)) y (f_X8_loops_b G y i L) := by
  have st := f.2.2.2.2.2.2.2.2.1 i ci (by omega)
  have t := do_tst r st rfl (Or.inr k3)
  have d0 := r.2.2.2.2.2.1.2.1
  unfold f_X8_loops_b
  rw [bd_r, bd_r]
  by_cases le : f_X8_number_ y L i 1 ≤ f_X8_number_ y L i 0
  · rw [if_pos le, bd_r]
    have t1 := t.1 le
    rw [if_neg (by omega)] at t1
    have eY : (f_X8_sees_x y i 0).1 70 53 = y.1 70 53 := sees_d
    have s2 := (slo_n f sg ci k3 hg 10001 37 0 _ _ (by rw [eY]; omega) t1.1 (Or.inl ⟨rfl, t1.2⟩)).n
    unfold SIN at s2 ⊢
    rw [eY] at s2
    exact s2
  · rw [if_neg le, bd_r]
    have t1 := t.2 le
    have eY : (f_X8_sees_x y i 1).1 70 53 = y.1 70 53 := sees_d
    have s2 := (slo_n f sg ci k3 hg 10001 37 1 _ _ (by rw [eY]; omega) t1.1 (Or.inr ⟨by decide, t1.2⟩)).n
    unfold SIN at s2 ⊢
    rw [eY] at s2
    exact s2
end K
