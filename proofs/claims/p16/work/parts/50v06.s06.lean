/-! calls and procedures; all of it together -/
/-- beside each other but for the variables of level L, which a procedure sets -/
def REV (c : Nat) (S : Int) (F : Nat → Nat → Int) (O : Int → Int) (L : Int) (x y : ST) : Prop := (x.1 64 3 = L ∧ x.1 64 6 = 3 ∧ x.2.2 64 11 = c ∧ x.2.1 64 12 = 1099511627775) ∧ (0 ≤ L ∧ L ≤ 30 ∧ c ≤ 18) ∧ (∀ p, c ≤ p → p ≤ c + 15 → x.1 p = F p) ∧ (y.1 70 6 = S ∧ y.1 70 29 = S ∧ y.2.1 70 55 = -1) ∧ (∀ q, 73 ≤ q → q ≤ 102 → y.1 q = F q) ∧ (x.1 64 5 = y.1 70 53 ∧ 0 ≤ y.1 70 53 ∧ y.1 70 53 ≤ 3000) ∧ (∀ j : Nat, j < 4 → x.1 65 j = y.1 113 j) ∧ (∀ l v : Int, 0 ≤ l → l < L → 0 ≤ v → v < 6 → x.1 66 (6 * l + v).toNat = y.1 114 (6 * l + v).toNat) ∧ (∀ l, 1 ≤ l → l ≤ L → x.1 67 l.toNat = O l)
/-- a procedure's numbers -/
def NUMS (s : ST) (q : Nat) (B a b : Int) : Prop := ∀ j, 0 ≤ j → j < 6 → s.1 q (B + j).toNat = if j = 0 then a else if j = 1 then b else 0
theorem en_n2 {p a b B : Int} (B0 : 0 ≤ B) : ∀ (n lab : Nat) (l : Int) (s : ST), 0 ≤ l → l ≤ 6 → 10 - l < (n : Int) → (∀ j, 0 ≤ j → j < l → s.1 66 (B + j).toNat = 0) → (f_X2_enter2_ n lab p a b B l s).2 = s.2 ∧ NUMS (f_X2_enter2_ n lab p a b B l s) 66 B a b ∧ (f_X2_enter2_ n lab p a b B l s).1 64 4 = (if 66 = s.2.2 64 11 + 1 then (f_X2_enter2_ n lab p a b B l s).1 66 p.toNat else s.1 (s.2.2 64 11 + 1) p.toNat) ∧ ∀ q j, ¬ (q = 64 ∧ j = 4) → ¬ (q = 66 ∧ B.toNat ≤ j ∧ j < B.toNat + 6) → (f_X2_enter2_ n lab p a b B l s).1 q j = s.1 q j := by
  intro n
  induction n with
  | zero => intros; omega
  | succ n ih =>
    intro lab l s l0 l1 hm hz
    rw [f_X2_enter2_]
    by_cases z : 6 ≤ l
    · rw [if_pos z, bd_r, bd_r, bd_r, bd_r, bd_r]
      refine ⟨rfl, fun j j0 j1 => ?_, ?_, fun q j h1 h2 => ?_⟩
      · rw [sI_nc (show (66 : Nat) ≠ 64 by decide)]
        by_cases j2 : j = 0
        · rw [if_pos j2, sI_ne (by omega), show (B + j).toNat = B.toNat by omega, sI_eq]
        · rw [if_neg j2]
          by_cases j3 : j = 1
          · rw [if_pos j3, j3, sI_eq]
          · rw [if_neg j3, sI_ne (by omega), sI_ne (by omega)]
            exact hz j j0 (by omega)
      · rw [sI_eq]
        show (sI (sI s 66 B.toNat a) 66 (B + 1).toNat b).1 (s.2.2 64 11 + 1) p.toNat = _
        by_cases k : 66 = s.2.2 64 11 + 1
        · rw [if_pos k, ← k, sI_nc (show (66 : Nat) ≠ 64 by decide)]
        · rw [if_neg k, sI_nc (fun e => k e.symm), sI_nc (fun e => k e.symm)]
      · rw [sI_ne h1, sI_ne (by omega), sI_ne (by omega)]
    · rw [if_neg z, bd_r]
      have e := ih 12 (l + 1) (sI s 66 (B + l).toNat 0) (by omega) (by omega) (by omega) (fun j j0 j1 => by
        by_cases k : j = l
        · rw [k, sI_eq]
        · rw [sI_ne (by omega)]
          exact hz j j0 (by omega))
      generalize f_X2_enter2_ n 12 p a b B (l + 1) (sI s 66 (B + l).toNat 0) = t at e ⊢
      refine ⟨e.1, e.2.1, ?_, fun q j h1 h2 => ?_⟩
      · rw [e.2.2.1]
        show (if 66 = s.2.2 64 11 + 1 then _ else (sI s 66 (B + l).toNat 0).1 (s.2.2 64 11 + 1) p.toNat) = _
        by_cases k : 66 = s.2.2 64 11 + 1
        · rw [if_pos k, if_pos k]
        · rw [if_neg k, if_neg k, sI_nc (fun e => k e.symm)]
      · rw [e.2.2.2 q j h1 h2, sI_ne (by omega)]
theorem pv_n {G : ST → Int → Int → ST × Int} {p L a b : Int} (L0 : 0 ≤ L) : ∀ (n lab : Nat) (l : Int) (s : ST), 0 ≤ l → l ≤ 6 → 10 - l < (n : Int) → (∀ j, 0 ≤ j → j < l → s.1 114 (6 * L + j).toNat = if j = 0 then a else if j = 1 then b else 0) → ∃ w, f_X8_procedure_b_ G n lab p L a b l s = (bd (w.1 70 29) fun v4 => bd (w.1 94 (((5 * v4) + p)).toNat) fun v10 => bd2 (G w v10 L) fun s16 v20 => if ¬ v20 = 0 then ((s16, v20)) else (bd (sI s16 70 52 0) fun s31 => (s31, 1))) ∧ w.2 = s.2 ∧ NUMS w 114 (6 * L) a b ∧ ∀ q j, ¬ (q = 114 ∧ (6 * L).toNat ≤ j ∧ j < (6 * L).toNat + 6) → w.1 q j = s.1 q j := by
  intro n
  induction n with
  | zero => intros; omega
  | succ n ih =>
    intro lab l s l0 l1 hm hz
    rw [f_X8_procedure_b_]
    by_cases z : 6 ≤ l
    · rw [if_pos z]
      exact ⟨s, rfl, rfl, fun j j0 j1 => hz j j0 (by omega), fun _ _ _ => rfl⟩
    · rw [if_neg z]
      have go : ∀ v, v = (if l = 0 then a else if l = 1 then b else 0) → ∃ w, f_X8_procedure_b_ G n 3 p L a b (l + 1) (sI s 114 (6 * L + l).toNat v) = (bd (w.1 70 29) fun v4 => bd (w.1 94 (((5 * v4) + p)).toNat) fun v10 => bd2 (G w v10 L) fun s16 v20 => if ¬ v20 = 0 then ((s16, v20)) else (bd (sI s16 70 52 0) fun s31 => (s31, 1))) ∧ w.2 = s.2 ∧ NUMS w 114 (6 * L) a b ∧ ∀ q j, ¬ (q = 114 ∧ (6 * L).toNat ≤ j ∧ j < (6 * L).toNat + 6) → w.1 q j = s.1 q j := fun v hv => by
        obtain ⟨w, e1, e2, e3, e4⟩ := ih 3 (l + 1) (sI s 114 (6 * L + l).toNat v) (by omega) (by omega) (by omega) (fun j j0 j1 => by
          by_cases k : j = l
          · rw [k, sI_eq]; exact hv
          · rw [sI_ne (by omega)]
            exact hz j j0 (by omega))
        exact ⟨w, e1, e2, e3, fun q j h => by rw [e4 q j h, sI_ne (by omega)]⟩
      by_cases y0 : l = 0
      · rw [if_neg (fun g => g y0), bd_r]
        exact go a (by rw [if_pos y0])
      · rw [if_pos y0]
        by_cases y1 : l = 1
        · rw [if_neg (fun g => g y1), bd_r]
          exact go b (by rw [if_neg y0, if_pos y1])
        · rw [if_pos y1, bd_r]
          exact go 0 (by rw [if_neg y0, if_neg y1])
section K
variable {c : Nat} {S P L : Int} {T x y : ST} {EN FI EO BH TB O : Int → Int} {F : Nat → Nat → Int}
/-- a procedure begins, on both sides -/
theorem enter_xy (r : REV c S F O L x y) {p a b : Int} {w : ST} (w2 : w.2 = y.2) (wn : NUMS w 114 (6 * L) a b) (we : ∀ q j, ¬ (q = 114 ∧ (6 * L).toNat ≤ j ∧ j < (6 * L).toNat + 6) → w.1 q j = y.1 q j) : REL c S F O L (f_X2_enter2 x p a b) w ∧ (f_X2_enter2 x p a b).1 64 4 = F (c + 1) p.toNat := by
  obtain ⟨⟨r1, r2, r3, r4⟩, r5, r6, r7, r8, r9, r11, r12, r13⟩ := r
  unfold f_X2_enter2
  rw [bd_r, r1, show L * 6 = 6 * L by omega]
  obtain ⟨e1, e2, e3, e4⟩ := en_n2 (p := p) (a := a) (b := b) (B := 6 * L) (by omega) 37 12 0 x (by omega) (by omega) (by omega) (fun j j0 j1 => by omega)
  generalize f_X2_enter2_ 37 12 p a b (6 * L) 0 x = t at e1 e2 e3 e4 ⊢
  have hc := r5.2.2
  rw [r3, if_neg (by omega), r6 (c + 1) (by omega) (by omega)] at e3
  refine ⟨⟨⟨by rw [e4 64 3 (by omega) (by omega)]; exact r1, by rw [e4 64 6 (by omega) (by omega)]; exact r2, by rw [e1]; exact r3, by rw [e1]; exact r4⟩, r5, fun q p1 p2 => ?_, ⟨by rw [we 70 6 (by omega)]; exact r7.1, by rw [we 70 29 (by omega)]; exact r7.2.1, by rw [w2]; exact r7.2.2⟩, fun q q1 q2 => ?_, ⟨by rw [e4 64 5 (by omega) (by omega), we 70 53 (by omega)]; exact r9.1, by rw [we 70 53 (by omega)]; exact r9.2⟩, fun j hj => by rw [e4 65 j (by omega) (by omega), we 113 j (by omega)]; exact r11 j hj, fun l v l0 l1 v0 v1 => ?_, fun l l0 l1 => by rw [e4 67 _ (by omega) (by omega)]; exact r13 l l0 l1⟩, e3⟩
  · rw [← r6 q p1 p2]
    funext j
    exact e4 q j (by omega) (by omega)
  · rw [← r8 q q1 q2]
    funext j
    exact we q j (by omega)
  · by_cases k : l = L
    · rw [k, e2 v v0 v1, wn v v0 v1]
    · rw [e4 66 _ (by omega) (by omega), we 114 _ (by omega)]
      exact r12 l v l0 (by omega) v0 v1
/-- a procedure -/
theorem spq_1 (f : RNF c S P T EN FI EO BH TB F) {nn : Nat} {G : ST → Int → Int → ST × Int}
    (sg : ∀ b O L x y, CB T S b → HGb T L b nn → REL c S F O L x y → UMT x (FI b) → SIM c S T FI F O L (TB b) (EO b) x y (G y b L))
    {p a b : Int} (p0 : 0 ≤ p) (p1 : p < P) (hg : 30 * (30 - L) + 27 ≤ ((nn + 1 : Nat) : Int)) (r : REV c S F O L x y) : SIN c S T FI F O L (-1) (-1) (f_X2_enter2 x p a b) y (f_X8_procedure_b G y p L a b) ∧ ¬ (f_X8_procedure_b G y p L a b).2 = 0 := by
  have w0 := f.2.2.1
  obtain ⟨t1, t2, t3, t4⟩ := f.2.2.2.2.2.2.1 p p0 p1
  unfold f_X8_procedure_b
  obtain ⟨w, e1, e2, e3, e4⟩ := pv_n (G := G) (p := p) (L := L) (a := a) (b := b) r.2.1.1 37 3 0 y (by omega) (by omega) (by omega) (fun j j0 j1 => by omega)
  rw [e1]
  have en := enter_xy r (p := p) e2 e3 e4
  have e94 : w.1 94 (5 * w.1 70 29 + p).toNat = gI T 94 (5 * S + p) := by
    rw [en.1.2.2.2.1.2.1, en.1.2.2.2.2.1 94 (by omega) (by omega)]
    exact t1
  rw [bd_r, bd_r, e94, bd2_r]
  have dw : w.1 70 53 = y.1 70 53 := e4 70 53 (by omega)
  have s := sg _ O L _ w t2 (by unfold HGb; exact ⟨fun _ => by omega, fun z => absurd t3 z⟩) en.1 (UMT.of (q := p) (en.2.trans t4) p0)
  have eo := w0.2.2.1 _ t2
  rw [if_pos t3] at eo
  have tb := w0.2.2.2.2.1 _ t2
  rw [if_pos t3] at tb
  rw [eo, tb] at s
  generalize G w (gI T 94 (5 * S + p)) L = z at s ⊢
  obtain ⟨m, x', a1, a2, a3, o⟩ := s
  rw [dw] at a2 a3
  by_cases h0 : z.2 = 0
  · rw [if_neg (fun g => g h0), bd_r]
    refine ⟨?_, by show ¬ (1 : Int) = 0; decide⟩
    have rr : REL c S F O L x' z.1 ∧ UMT x' (-1) := by
      rcases o with o | o | o | o | o
      · exact o.2
      · omega
      · omega
      · omega
      · omega
    have u40 : 40 ≤ x'.1 64 4 := by
      rcases rr.2 with u | u
      · exact u.2
      · exact absurd rfl u.1
    have s1 := MVS.one rr.1.1.2.1
    rw [step_end u40] at s1
    have a4 := a3 (by omega)
    have d2 : (sI z.1 70 52 0).1 70 53 = z.1.1 70 53 := sI_ne (by omega)
    refine ⟨m + 1, _, MVS.tr m 1 _ _ _ a1 s1, ?_, Or.inr (Or.inl ⟨rfl, x', rr.1.oy (fun p j h => sI_ne (by omega)) rfl, ?_⟩)⟩
    · show ((m + 1 : Nat) : Int) ≤ 2 * ((sI z.1 70 52 0).1 70 53 - y.1 70 53) + 1
      rw [d2, Int.natCast_add]
      omega
    · show f_X2_leave2 x' 0 0 = f_X2_leave2 x' ((sI z.1 70 52 0).1 70 52) 0
      rw [sI_eq]
  · rw [if_pos h0]
    refine ⟨⟨m, x', a1, a2, ?_⟩, h0⟩
    rcases o with o | o
    · exact absurd o.1 h0
    · exact Or.inr o
theorem REL.o {O' : Int → Int} (r : REL c S F O L x y) (h : ∀ l, 1 ≤ l → l ≤ L → O' l = O l) : REL c S F O' L x y := by
  obtain ⟨r1, r5, r6, r7, r8, r9, r11, r12, r13⟩ := r
  exact ⟨r1, r5, r6, r7, r8, r9, r11, r12, fun l l0 l1 => (r13 l l0 l1).trans (h l l0 l1).symm⟩
theorem sees_v {i v : Int} : (f_X8_sees_x y i v).1 70 52 = y.1 70 52 := by
  unfold f_X8_sees_x
  rw [bd_r]
  by_cases z : y.1 70 54 = 500
  · rw [if_neg (fun w => w z)]
  · rw [if_pos z, bd_r, bd_r, bd_r, bd_r, sI_ne (by omega), sI_ne (by omega), sI_ne (by omega)]
/-- a call -/
theorem sc_1 (f : RNF c S P T EN FI EO BH TB F) (tk : ∀ i, CJ T S i → ¬ TB (gI T 88 i) = -1 → CJ T S (TB (gI T 88 i)) ∧ gI T 77 (TB (gI T 88 i)) = 6) {nn : Nat} {Q : ST → Int → Int → Int → Int → ST × Int}
    (sp : ∀ p a b O L x y, 0 ≤ p → p < P → 30 * (30 - L) + 27 ≤ (nn : Int) → REV c S F O L x y → SIN c S T FI F O L (-1) (-1) (f_X2_enter2 x p a b) y (Q y p L a b) ∧ ¬ (Q y p L a b).2 = 0)
    {i : Int} (ci : CJ T S i) (k1 : gI T 77 i = 1) (n9 : gI T 82 i ≤ 9) (hg : 30 * (30 - L) + 1 ≤ ((nn + 1 : Nat) : Int)) (r : REL c S F O L x y) : SIN c S T FI F O L (TB (gI T 88 i)) (BH i) (f_X2_perform2 x (gI T 78 i)) y (f_X8_calls__b Q y i L (f_X8_number_ y L i 0) (f_X8_number_ y L i 1)) := by
  have st := f.2.2.2.2.2.2.2.2.1 i ci (by omega)
  have tr := f.2.2.2.2.1
  obtain ⟨⟨k0, k40⟩, _, s2, s6, s7, nm, cq, o1, o2, _, s12, s13, s14, s79⟩ := st
  have st := f.2.2.2.2.2.2.2.2.1 i ci (by omega)
  have n0 := nm (by omega)
  have cc := cq k1
  have yq : ∀ {y1 x1 : ST} {O1 : Int → Int} {L1 : Int}, REL c S F O1 L1 x1 y1 → ∀ (q : Nat), 77 ≤ q → q ≤ 88 → y1.1 q i.toNat = gI T q i := fun r q q1 q2 => by rw [r.2.2.2.2.1 q (by omega) (by omega)]; exact tr q i q1 q2 ci
  have hL := r.2.1
  have hp : f_X2_perform2 x (gI T 78 i) = f_X2_open2 x (gI T 78 i) := by
    unfold f_X2_perform2
    rw [bd_r, r.1.2.2.1, bd_r, r.2.2.1 (c + 2) (by omega) (by omega), s2, k1, if_neg (by decide), if_pos rfl, bd_r]
  rw [hp]
  unfold f_X2_open2 f_X8_calls__b
  rw [bd_r, r.1.1]
  by_cases z : L = 30
  · rw [if_neg (by omega), if_neg (fun g => g z), bd_r]
    exact SIN.done rfl (Or.inr (Or.inr (Or.inr (Or.inr ⟨rfl, sI_eq _ _ _ _⟩))))
  · rw [if_pos (by omega), if_pos z, bd_r, r.1.2.2.1, bd_r, r.2.2.1 (c + 9) (by omega) (by omega), bd_r, bd_r, bd_r, r.2.2.1 (c + 10) (by omega) (by omega), bd_r, bd_r, bd_r, bd_r, bd_r, yq r 84 (by omega) (by omega)]
    rw [num_eq (j := 0) r (by rw [show 2 * i + 0 = 2 * i by omega]; exact o1), num_eq (j := 1) r o2]
    generalize f_X8_number_ y L i 0 = a
    generalize f_X8_number_ y L i 1 = b
    obtain ⟨X, hX⟩ : ∃ X, X = sI (sI x 64 3 (L + 1)) 67 (L + 1).toNat (gI T 78 i) := ⟨_, rfl⟩
    rw [← hX]
    obtain ⟨O', hO⟩ : ∃ O' : Int → Int, O' = fun l => if l = L + 1 then gI T 78 i else O l := ⟨_, rfl⟩
    have oL : O' (L + 1) = gI T 78 i := by rw [hO]; exact if_pos rfl
    have ol : ∀ l, l ≤ L → O' l = O l := fun l h => by rw [hO]; exact if_neg (by omega)
    have rv : REV c S F O' (L + 1) X y := by
      obtain ⟨⟨r1, r2, r3, r4⟩, r5, r6, r7, r8, r9, r11, r12, r13⟩ := r
      have hc := r5.2.2
      rw [hX]
      refine ⟨⟨by rw [sI_ne (by omega), sI_eq], by rw [sI_ne (by omega), sI_ne (by omega)]; exact r2, r3, r4⟩, ⟨by omega, by omega, hc⟩, fun p p1 p2 => by rw [sI_nc (by omega), sI_nc (by omega)]; exact r6 p p1 p2, r7, r8, ⟨by rw [sI_ne (by omega), sI_ne (by omega)]; exact r9.1, r9.2⟩, fun j hj => by rw [sI_ne (by omega), sI_ne (by omega)]; exact r11 j hj, fun l v l0 l1 v0 v1 => by rw [sI_ne (by omega), sI_ne (by omega)]; exact r12 l v l0 (by omega) v0 v1, fun l l0 l1 => ?_⟩
      by_cases k : l = L + 1
      · rw [k, sI_eq, oL]
      · rw [sI_ne (by omega), sI_ne (by omega), ol l (by omega)]
        exact r13 l l0 (by omega)
    have eX : X.1 (X.2.2 64 11 + 7) (gI T 78 i).toNat = gI T 84 i := by
      rw [rv.1.2.2.1, rv.2.2.1 (c + 7) (by omega) (by omega)]
      exact s7
    rw [eX, bd_r, bd_r, bd2_r]
    have s := sp (gI T 84 i) a b O' (L + 1) X y cc.1 cc.2 (by omega) rv
    generalize Q y (gI T 84 i) (L + 1) a b = q at s ⊢
    obtain ⟨⟨m, x', a1, a2, o⟩, h0⟩ := s
    have lv : ∀ x1, REL c S F O' (L + 1) x1 q.1 → ∀ v, REL c S F O L (POPS v x1) q.1 ∧ x1.1 67 (L + 1).toNat = gI T 78 i := fun x1 r1 v => by
      have pp := pops_xy (v := v) r1 (by omega)
      rw [show L + 1 - 1 = L by omega] at pp
      exact ⟨pp.1.o (fun l _ h => (ol l h).symm), pp.2.trans oL⟩
    by_cases h3 : q.2 = 3
    · rw [if_neg (fun g => g h3)]
      refine ⟨m, x', a1, a2, Or.inr (Or.inr (Or.inr (Or.inr ⟨rfl, ?_⟩)))⟩
      rcases o with o | o | o | o | o
      · omega
      · omega
      · omega
      · omega
      · exact o.2
    · rw [if_pos h3, bd_r, bd_r]
      by_cases h2 : q.2 = 2
      · rw [if_neg (fun g => g h2)]
        obtain ⟨x1, r1, ex⟩ : ∃ x1, REL c S F O' (L + 1) x1 q.1 ∧ x' = f_X2_leave2 x1 (q.1.1 70 52) 1 := by
          rcases o with o | o | o | o | o
          · omega
          · omega
          · exact o.2.2
          · exact absurd rfl o.2.1
          · omega
        have pp := lv x1 r1 (q.1.1 70 52)
        have le := leave_s (v := q.1.1 70 52) (t := 1) (z := x1) r1.1.1 (by omega) (by omega)
        rw [pp.2, if_neg (by decide), pp.1.1.2.2.1, pp.1.2.2.1 (c + 14) (by omega) (by omega)] at le
        have rs := sees_y (i := i) (v := q.1.1 70 52) pp.1
        refine ⟨m, x', a1, by show (m : Int) ≤ 2 * ((f_X8_sees_x q.1 i (q.1.1 70 52)).1 70 53 - y.1 70 53) + 1; rw [sees_d]; exact a2, ?_⟩
        show OUT c S T FI F O L (TB (gI T 88 i)) (BH i) x' (f_X8_sees_x q.1 i (q.1.1 70 52)) 2
        by_cases ht : TB (gI T 88 i) = -1
        · rw [vv_n st ht, if_pos (by decide)] at le
          exact Or.inr (Or.inr (Or.inl ⟨rfl, ht, _, rs, by rw [sees_v, ex, le]⟩))
        · have va := va_t st (Or.inl k1) ht
          have n := tbk_ok f ht (tk i ci)
          rw [va.2, if_neg (by omega)] at le
          have t := take_xy (q := 14) (w := 13) (k := gI T 78 i) (v := q.1.1 70 52) rs (by omega) va.2 n.1 (by omega) (by omega)
          have et : f_X8_tellsName_x (f_X8_sees_x q.1 i (q.1.1 70 52)) L (gI T 82 (TB (gI T 88 i))) (q.1.1 70 52) = sI (f_X8_sees_x q.1 i (q.1.1 70 52)) 114 (6 * L + gI T 82 (TB (gI T 88 i))).toNat (q.1.1 70 52) := by
            unfold f_X8_tellsName_x
            rw [if_neg (by omega), bd_r]
          rw [et, ← le, ← ex, va.1] at t
          refine Or.inr (Or.inr (Or.inr (Or.inl ⟨rfl, ht, ?_, UMT.of (q := gI T 79 i) t.2 s79⟩)))
          rw [sees_v]
          exact t.1
      · rw [if_pos h2]
        obtain ⟨x1, r1, ex⟩ : ∃ x1, REL c S F O' (L + 1) x1 q.1 ∧ x' = f_X2_leave2 x1 (q.1.1 70 52) 0 := by
          rcases o with o | o | o | o | o
          · exact absurd o.1 h0
          · exact o.2
          · omega
          · omega
          · omega
        have pp := lv x1 r1 (q.1.1 70 52)
        have le := leave_s (v := q.1.1 70 52) (t := 0) (z := x1) r1.1.1 (by omega) (by omega)
        rw [pp.2, if_pos rfl] at le
        have rs := sees_y (i := i) (v := q.1.1 70 52) pp.1
        have t := take_xy (q := 6) (w := 12) (k := gI T 78 i) (v := q.1.1 70 52) rs (by omega) s6 n0 n9 (by omega)
        rw [bd_r, yq rs 82 (by omega) (by omega), bd_r, sees_v, bd_r]
        rw [← le, ← ex] at t
        refine ⟨m, x', a1, by show (m : Int) ≤ 2 * ((f_X8_tellsName_x (f_X8_sees_x q.1 i (q.1.1 70 52)) L (gI T 82 i) (q.1.1 70 52)).1 70 53 - y.1 70 53) + 1; rw [tells_d, sees_d]; exact a2, Or.inl ⟨rfl, t.1, UMT.of (q := gI T 79 i) ?_ s79⟩⟩
        rw [t.2, s12]
        unfold vS
        rw [if_neg (by omega)]
/-- all of it, nn calls of one another deep -/
theorem sim_all (f : RNF c S P T EN FI EO BH TB F) (tk : ∀ i, CJ T S i → ¬ TB (gI T 88 i) = -1 → CJ T S (TB (gI T 88 i)) ∧ gI T 77 (TB (gI T 88 i)) = 6) (n9 : ∀ i, CJ T S i → gI T 82 i ≤ 9) : ∀ nn : Nat,
    (∀ b O L x y, CB T S b → HGb T L b nn → REL c S F O L x y → UMT x (FI b) → SIM c S T FI F O L (TB b) (EO b) x y ((m_R nn).1 y b L)) ∧
    (∀ i O L x y, CJ T S i → gI T 77 i = 6 → HGi T L i nn → REL c S F O L x y → UMT x (EN i) → SIM c S T FI F O L (TB (gI T 88 i)) (BH i) x y ((m_R nn).2.1 y i L)) ∧
    (∀ i O L x y, CJ T S i → ¬ gI T 77 i = 6 → HGi T L i nn → REL c S F O L x y → UMT x (EN i) → SIM c S T FI F O L (TB (gI T 88 i)) (BH i) x y ((m_R nn).2.2.1 y i L)) ∧
    (∀ i O L x y, CJ T S i → gI T 77 i = 3 → 30 * (30 - L) + 3 * (7 - gI T 80 i) + 1 ≤ (nn : Int) → REL c S F O L x y → SIN c S T FI F O L (TB (gI T 88 i)) (BH i) (f_X2_perform2 x (gI T 78 i)) y ((m_R nn).2.2.2.1 y i L)) ∧
    (∀ i O L x y, CJ T S i → gI T 77 i = 1 → 30 * (30 - L) + 1 ≤ (nn : Int) → REL c S F O L x y → SIN c S T FI F O L (TB (gI T 88 i)) (BH i) (f_X2_perform2 x (gI T 78 i)) y ((m_R nn).2.2.2.2.1 y i L (f_X8_number_ y L i 0) (f_X8_number_ y L i 1))) ∧
    (∀ p a b O L x y, 0 ≤ p → p < P → 30 * (30 - L) + 27 ≤ (nn : Int) → REV c S F O L x y → SIN c S T FI F O L (-1) (-1) (f_X2_enter2 x p a b) y ((m_R nn).2.2.2.2.2 y p L a b) ∧ ¬ ((m_R nn).2.2.2.2.2 y p L a b).2 = 0) := by
  have X := f.2.2.2.1
  intro nn
  induction nn with
  | zero =>
    refine ⟨fun b O L x y hb hg r _ => ?_, fun i O L x y ci _ hg r _ => ?_, fun i O L x y ci _ hg r _ => ?_, fun i O L x y ci _ hg r => ?_, fun i O L x y ci _ hg r => ?_, fun p a b O L x y _ _ hg r => ?_⟩
    · exfalso
      have l1 := r.2.1
      unfold HGb at hg
      by_cases q : gI T 92 b = -1
      · have := hg.1 q; omega
      · have h2 := hg.2 q
        rcases (X.2.2.1 b hb).2 with e | e
        · exact q e
        · have := (X.2.2.2.2.2 _ e).2; omega
    · exfalso
      have l1 := r.2.1
      have := (X.2.2.2.2.2 i ci).2
      unfold HGi at hg
      omega
    · exfalso
      have l1 := r.2.1
      have := (X.2.2.2.2.2 i ci).2
      unfold HGi at hg
      omega
    · exfalso
      have l1 := r.2.1
      have := (X.2.2.2.2.2 i ci).2
      omega
    · exfalso
      have l1 := r.2.1
      omega
    · exfalso
      have l1 := r.2.1
      omega
  | succ nn ih =>
    obtain ⟨hG, hY, hD, hL, hC, hP⟩ := ih
    refine ⟨fun b O L x y hb hg r u => ?_, fun i O L x y ci k6 hg r u => ?_, fun i O L x y ci k6 hg r u => ?_, fun i O L x y ci k3 hg r => ?_, fun i O L x y ci k1 hg r => ?_, fun p a b O L x y p0 p1 hg r => ?_⟩
    · exact sg_1 f hD hY hb hg r u
    · exact sy_1 f hG ci k6 hg r u
    · exact sd_1 f tk hG hL hC ci k6 (n9 i ci) hg r u
    · exact sl_1 f hG ci k3 hg r
    · exact sc_1 f tk hP ci k1 (n9 i ci) hg r
    · exact spq_1 f hG p0 p1 hg r
end K
