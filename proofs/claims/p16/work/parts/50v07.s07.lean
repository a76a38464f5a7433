/-! what both sides' runs read, out of the text that both show; a run from its start -/
set_option maxHeartbeats 2000000 in
theorem HISC.rnf {s : ST} {c : Nat} {S : Int} (b74 : ∀ j, s.1 74 j ≤ 280) (b82 : ∀ j, s.1 82 j ≤ 9) (h : HISC s c S) : ∃ (P : Int) (T : ST) (EN FI EO BH TB : Int → Int), RNF c S P T EN FI EO BH TB s.1 ∧ (∀ i, CJ T S i → ¬ TB (gI T 88 i) = -1 → CJ T S (TB (gI T 88 i)) ∧ gI T 77 (TB (gI T 88 i)) = 6) ∧ (∀ i, CJ T S i → gI T 82 i ≤ 9) ∧ s.1 c 1 = P := by
  obtain ⟨s0, t, a, FL, FG, g, l, al, h4, h5⟩ := h
  obtain ⟨P, B, sm, _, cdf, ops⟩ := prog_full2 g l al
  have hc := g.1
  have S0 := g.2.1
  obtain ⟨F, f⟩ := l.2.1
  have h73 : gI (f_X8_readAll t) 73 S ≤ 130 := by
    have A := read_all (s := s0) hc S0 g.2.2.1 g.2.2.2.1 g.2.2.2.2.1 g.2.2.2.2.2.1 g.2.2.2.2.2.2.1 g.2.2.2.2.2.2.2.1 g.2.2.2.2.2.2.2.2.1 g.2.2.2.2.2.2.2.2.2.1 g.2.2.2.2.2.2.2.2.2.2.1 g.2.2.2.2.2.2.2.2.2.2.2.1 g.2.2.2.2.2.2.2.2.2.2.2.2
    rcases A with A | ⟨_, _, _, _, _, _, _, _, h128⟩
    · exact absurd l.1 A.1
    · omega
  clear g l al
  generalize f_X8_readAll t = T at *
  generalize (f_X3_read s0 a c).1 = Y at *
  obtain ⟨tt, hP, P1, hT, bg, cs, oth, -⟩ := cdf
  generalize f_X8_firstOf T = FI at *
  generalize f_X8_behind T = BH at *
  generalize (fun b => f_X8_tryOf_ 805 7 b T) = TB at *
  generalize f_X8_entryOf T = EN at *
  generalize f_X8_endOf T = EO at *
  have P5 := tt.2.2.2.2.2.2.2.1
  have rr := tt.1
  have n40 := rr.1.2.2.2.2.1
  have X := tt.2.2.1
  have ce : ∀ q j, c ≤ q → q ≤ c + 15 → s.1 q j = Y.1 q j := fun q j q0 q1 => (h4 q j q0 q1).1
  have te : ∀ (q : Nat) (i : Int), 73 ≤ q → q ≤ 94 → 0 ≤ i → wd q * S ≤ i → i < wd q * S + wd q → s.1 q i.toNat = gI T q i := fun q i q1 q2 i0 i1 i2 => by
    rw [h5 q i.toNat q1 (by omega) (by omega) (by omega), ← bg.1 q i q1 q2]
    rfl
  have yo : ∀ q k, q = 6 ∨ q = 8 ∨ q = 9 ∨ q = 10 → Y.1 (c + q) k = sm.1 (c + q) k := fun q k hq => oth (c + q) k (by omega) (by omega) (by omega) (by omega) (by omega) (by omega) (by omega) (by omega) (by omega)
  have eit : ∀ (q : Nat) (i : Int), 77 ≤ q → q ≤ 88 → CJ T S i → s.1 q i.toNat = gI T q i := fun q i q1 q2 hi => by
    have w : wd q = 130 := by
      have : q = 77 ∨ q = 78 ∨ q = 79 ∨ q = 80 ∨ q = 81 ∨ q = 82 ∨ q = 83 ∨ q = 84 ∨ q = 85 ∨ q = 86 ∨ q = 87 ∨ q = 88 := by omega
      rcases this with rfl | rfl | rfl | rfl | rfl | rfl | rfl | rfl | rfl | rfl | rfl | rfl <;> rfl
    unfold CJ at hi
    exact te q i (by omega) (by omega) (by omega) (by rw [w]; omega) (by rw [w]; omega)
  have h74 : gI T 74 S ≤ 280 := by
    have e := te 74 S (by omega) (by omega) S0 (by rw [show wd 74 = 1 from rfl]; omega) (by rw [show wd 74 = 1 from rfl]; omega)
    rw [← e]
    exact b74 _
  have a79 : ∀ i, CJ T S i → 0 ≤ gI T 79 i := by
    have key : ∀ (m : Nat) (i : Int), CJ T S i → i.toNat < m → 0 ≤ gI T 79 i := by
      intro m
      induction m with
      | zero => intro i _ h; omega
      | succ m ih =>
        intro i hi hm
        have hi2 := hi
        unfold CJ at hi2
        have q := rr.2.2.2.2.2.2.1.2.1 (i - 130 * S) (by omega) (by omega)
        rw [show 130 * S + (i - 130 * S) = i by omega] at q
        rcases q with q | ⟨y1, y2, -⟩
        · exact q.2.1
        · have lt : gI T 92 (gI T 88 i) < i := by
            rcases (X.2.1 i hi).2 with a | a
            · have y := y1
              rw [a.1] at y
              unfold CJ at y
              omega
            · exact a.2.1
          rw [← y2]
          have w := y1
          unfold CJ at w
          exact ih _ y1 (by omega)
    exact fun i hi => key _ i hi (Nat.lt_succ_self _)
  have gf : ∀ (q : Nat) (i : Int), gI T q i = V F q i := f.1
  have nm : ∀ i, CJ T S i → (gI T 77 i ≤ 1 → 0 ≤ gI T 82 i) ∧ (gI T 77 i = 6 → 0 ≤ gI T 82 i ∧ gI T 82 i < 6) := fun i hi => by
    unfold CJ at hi
    rw [gf 73 S] at hi
    have a := (f.2.1.2.2.2.1 i hi).2.1
    have b := (f.2.2.1 i hi.1 hi.2).2.1
    rw [gf 77 i, gf 82 i]
    refine ⟨a, fun z => ?_⟩
    have := b z
    omega
  refine ⟨P, T, EN, FI, EO, BH, TB, ⟨hc, ⟨S0, P1, P5⟩, tt.2.1, X, fun q i q1 q2 hi => eit q i q1 q2 hi, fun b hb => ?_, fun p p0 p1 => ?_, fun i hi k6 => ⟨((nm i hi).2 k6).1, ((nm i hi).2 k6).2, fun e => ?_⟩, fun i hi n6 => ?_, h73⟩, fun i hi hn => ⟨(tt.tb hi hn).1, (tt.tb hi hn).2.1⟩, fun i hi => ?_, (ce c 1 (by omega) (by omega)).trans cs.2.1⟩
  · unfold CB at hb
    exact te 90 b (by omega) (by omega) (by omega) (by rw [show wd 90 = 280 from rfl]; omega) (by rw [show wd 90 = 280 from rfl]; omega)
  · have k5 := rr.2.2.2.2.1 p p0 p1
    exact ⟨te 94 _ (by omega) (by omega) (by omega) (by rw [show wd 94 = 5 from rfl]; omega) (by rw [show wd 94 = 5 from rfl]; omega), k5.2.1, k5.2.2, (ce _ _ (by omega) (by omega)).trans (cs.2.2.2.1 p p0 p1)⟩
  · rcases (rr.2.2.2.2.2.2.1.2.2.2.2.2.2.1 i hi).1 with y | y
    · exact ((X.2.2.2.2.1 i hi).1 k6).1 y
    · exact y.1 e.symm
  · have q := rr.n78 i hi n6
    have op := ops _ q.1 q.2.1
    have k1 := cs.2.2.1 _ q.1 q.2.1
    have k6 := (rr.2.1 _ q.1 q.2.1).2.2.2.2.2.2.1
    rw [q.2.2] at op k1 k6
    have i1 := hi.1
    have i2 := hi.2
    have d89 : ∀ x, 2 * i ≤ x → x ≤ 2 * i + 1 → s.1 89 x.toNat = gI T 89 x := fun x x0 x1 => te 89 x (by omega) (by omega) (by omega) (by rw [show wd 89 = 260 from rfl]; omega) (by rw [show wd 89 = 260 from rfl]; omega)
    unfold STF
    rw [d89 _ (by omega) (by omega), d89 _ (by omega) (by omega), ce (c + 2) _ (by omega) (by omega), ce (c + 6) _ (by omega) (by omega), ce (c + 7) _ (by omega) (by omega), ce (c + 8) _ (by omega) (by omega), ce (c + 9) _ (by omega) (by omega), ce (c + 10) _ (by omega) (by omega), ce (c + 12) _ (by omega) (by omega), ce (c + 13) _ (by omega) (by omega), ce (c + 14) _ (by omega) (by omega), yo 6 _ (by omega), yo 8 _ (by omega), yo 9 _ (by omega), yo 10 _ (by omega)]
    exact ⟨⟨q.1, by omega⟩, tt.2.2.2.1 i hi n6, k1.1, k6, k1.2.1, (nm i hi).1, fun z => tt.2.2.2.2.1 i hi z, op.1.1, op.1.2.1, op.1.2.2, k1.2.2.1, k1.2.2.2.1, k1.2.2.2.2, a79 i hi⟩
  · rw [← eit 82 i (by omega) (by omega) hi]
    exact b82 _
/-- fields are 0 as a run begins -/
theorem fl_n : ∀ (n lab : Nat) (l : Int) (s : ST), 0 ≤ l → l ≤ 4 → 4 - l < (n : Int) → (∀ j : Nat, (j : Int) < l → s.1 65 j = 0) → (f_J7_fill_53178_at652_ n lab 0 l 4 s).2 = s.2 ∧ (∀ j : Nat, j < 4 → (f_J7_fill_53178_at652_ n lab 0 l 4 s).1 65 j = 0) ∧ ∀ q j, q ≠ 65 → (f_J7_fill_53178_at652_ n lab 0 l 4 s).1 q j = s.1 q j := by
  intro n
  induction n with
  | zero => intros; omega
  | succ n ih =>
    intro lab l s l0 l1 hm hz
    rw [f_J7_fill_53178_at652_]
    by_cases z : 4 ≤ l
    · rw [if_pos z]
      exact ⟨rfl, fun j hj => hz j (by omega), fun _ _ _ => rfl⟩
    · rw [if_neg z, bd_r]
      have e := ih 5 (l + 1) (sI s 65 l.toNat 0) (by omega) (by omega) (by omega) (fun j hj => by
        by_cases k : j = l.toNat
        · rw [k, sI_eq]
        · rw [sI_ne (by omega)]
          exact hz j (by omega))
      exact ⟨e.1, e.2.1, fun q j h => by rw [e.2.2 q j h, sI_nc h]⟩
theorem rs_n {a b : Int} : ∀ (n lab : Nat) (l : Int) (s : ST), 0 ≤ l → l ≤ 4 → 4 - l < (n : Int) → (∀ j : Nat, (j : Int) < l → s.1 113 j = 0) → ∃ w, f_X8_runs_ n lab a b l s = (bd2 (f_X8_procedure w 0 0 a b) fun s3 v7 => bd (sI s3 70 50 1) fun s9 => bd (sI s9 70 51 ((v7 - 1))) fun s13 => if ¬ v7 = 3 then ((s13, (v7 - 1))) else (bd (sI s13 70 52 0) fun s19 => (s19, (v7 - 1)))) ∧ w.2 = s.2 ∧ (∀ j : Nat, j < 4 → w.1 113 j = 0) ∧ ∀ q j, q ≠ 113 → w.1 q j = s.1 q j := by
  intro n
  induction n with
  | zero => intros; omega
  | succ n ih =>
    intro lab l s l0 l1 hm hz
    rw [f_X8_runs_]
    by_cases z : 4 ≤ l
    · rw [if_pos z]
      exact ⟨s, rfl, rfl, fun j hj => hz j (by omega), fun _ _ _ => rfl⟩
    · rw [if_neg z, bd_r]
      obtain ⟨w, e1, e2, e3, e4⟩ := ih 26 (l + 1) (sI s 113 l.toNat 0) (by omega) (by omega) (by omega) (fun j hj => by
        by_cases k : j = l.toNat
        · rw [k, sI_eq]
        · rw [sI_ne (by omega)]
          exact hz j (by omega))
      exact ⟨w, e1, e2, e3, fun q j h => by rw [e4 q j h, sI_nc h]⟩
/-- a run, on both sides -/
theorem run_same {c : Nat} {S P : Int} {T x y : ST} {EN FI EO BH TB : Int → Int} {F : Nat → Nat → Int} (f : RNF c S P T EN FI EO BH TB F) (tk : ∀ i, CJ T S i → ¬ TB (gI T 88 i) = -1 → CJ T S (TB (gI T 88 i)) ∧ gI T 77 (TB (gI T 88 i)) = 6) (n9 : ∀ i, CJ T S i → gI T 82 i ≤ 9) {a b : Int} (x3 : x.2.2 0 3 = c) (eP : F c 1 = P) (xF : ∀ p, c ≤ p → p ≤ c + 15 → x.1 p = F p) (yF : ∀ q, 73 ≤ q → q ≤ 102 → y.1 q = F q) (y29 : y.1 70 29 = S) (y30 : ¬ y.1 70 30 = 0) (d3 : (f_X8_run y a b).1.1 70 53 ≤ 3000) : (f_X7_run2 x a b).2 = (f_X8_run y a b).2 := by
  have hc := f.1
  have P1 := f.2.1
  unfold f_X8_run f_X8_runs at d3 ⊢
  rw [bd_r, if_neg y30, bd2_r, bd_r, bd_r, bd_r, bd_r, bd_r, y29] at d3
  rw [bd_r, if_neg y30, bd2_r, bd_r, bd_r, bd_r, bd_r, bd_r, y29]
  obtain ⟨y0, hy⟩ : ∃ z, z = sI (sI (sL (sI y 70 6 S) 70 55 (-1)) 70 53 0) 70 54 0 := ⟨_, rfl⟩
  rw [← hy] at d3 ⊢
  obtain ⟨w, e1, e2, e3, e4⟩ := rs_n (a := a) (b := b) 31 26 0 y0 (by omega) (by omega) (by omega) (fun j hj => by omega)
  rw [e1] at d3 ⊢
  clear e1
  unfold f_X7_run2 f_X2_play2
  rw [bd_r, x3, bd_r, xF c (by omega) (by omega), eP, if_pos (by omega), bd_r, bd2_r, bd_r, bd_r, bd_r, bd_r, bd_r, bd_r, bd_r, bd_r, bd_r]
  obtain ⟨x0, hx⟩ : ∃ z, z = sL (sR x 64 11 c) 64 12 1099511627775 := ⟨_, rfl⟩
  rw [← hx]
  unfold f_J7_fill_53178_at652
  have fl := fl_n 31 5 0 x0 (by omega) (by omega) (by omega) (fun j hj => by omega)
  generalize f_J7_fill_53178_at652_ 31 5 0 0 4 x0 = x1 at fl ⊢
  obtain ⟨x2, hx2⟩ : ∃ z, z = sI (sI (sI (sI (sI x1 64 3 0) 64 5 0) 64 7 0) 64 10 0) 64 6 3 := ⟨_, rfl⟩
  rw [← hx2]
  have c18 : c ≤ 18 := by omega
  have x01 : x0.1 = x.1 := by rw [hx]; rfl
  have x2e : ∀ q j, q ≠ 64 → q ≠ 65 → x2.1 q j = x.1 q j := fun q j h1 h2 => by
    rw [hx2, sI_nc h1, sI_nc h1, sI_nc h1, sI_nc h1, sI_nc h1, fl.2.2 q j h2, x01]
  have x22 : x2.2 = x0.2 := by rw [hx2]; exact fl.1
  have rv : REV c S F (fun _ => 0) 0 x2 w := by
    refine ⟨⟨?_, by rw [hx2]; exact sI_eq _ _ _ _, ?_, ?_⟩, ⟨by omega, by omega, c18⟩, fun p p1 p2 => ?_, ⟨?_, ?_, ?_⟩, fun q q1 q2 => ?_, ⟨?_, ?_, ?_⟩, fun j hj => ?_, fun l v l0 l1 => by omega, fun l l0 l1 => by omega⟩
    · rw [hx2, sI_ne (by omega), sI_ne (by omega), sI_ne (by omega), sI_ne (by omega), sI_eq]
    · rw [x22, hx]
      show (if 64 = 64 ∧ 11 = 11 then c else x.2.2 64 11) = c
      exact if_pos ⟨rfl, rfl⟩
    · rw [x22, hx]
      show (if 64 = 64 ∧ 12 = 12 then (1099511627775 : Int64) else (sR x 64 11 c).2.1 64 12) = 1099511627775
      exact if_pos ⟨rfl, rfl⟩
    · rw [← xF p p1 p2]
      funext j
      exact x2e p j (by omega) (by omega)
    · rw [e4 70 6 (by omega), hy, sI_ne (by omega), sI_ne (by omega)]
      exact (show (sI y 70 6 S).1 70 6 = S from sI_eq _ _ _ _)
    · rw [e4 70 29 (by omega), hy, sI_ne (by omega), sI_ne (by omega)]
      exact (show (sI y 70 6 S).1 70 29 = y.1 70 29 from sI_ne (by omega)).trans y29
    · rw [e2, hy]
      show (if 70 = 70 ∧ 55 = 55 then (-1 : Int64) else (sI y 70 6 S).2.1 70 55) = -1
      exact if_pos ⟨rfl, rfl⟩
    · rw [← yF q q1 q2]
      funext j
      rw [e4 q j (by omega), hy, sI_nc (by omega), sI_nc (by omega)]
      show (sI y 70 6 S).1 q j = y.1 q j
      rw [sI_nc (by omega)]
    · rw [e4 70 53 (by omega), hx2, hy, sI_ne (by omega), sI_ne (by omega), sI_ne (by omega), sI_eq, sI_ne (by omega), sI_eq]
    · rw [e4 70 53 (by omega), hy, sI_ne (by omega), sI_eq]
      exact Int.le_refl _
    · rw [e4 70 53 (by omega), hy, sI_ne (by omega), sI_eq]
      decide
    · rw [hx2, sI_nc (by omega), sI_nc (by omega), sI_nc (by omega), sI_nc (by omega), sI_nc (by omega), fl.2.1 j hj, e3 j hj]
  have w53 : w.1 70 53 = 0 := by rw [e4 70 53 (by omega), hy, sI_ne (by omega), sI_eq]
  have sm := (sim_all f tk n9 930).2.2.2.2.2 0 a b (fun _ => 0) 0 x2 w (by omega) (by omega) (by omega) rv
  unfold f_X8_procedure at d3 ⊢
  generalize (m_R 930).2.2.2.2.2 w 0 0 a b = z at d3 sm ⊢
  rw [bd2_r, bd_r, bd_r] at d3
  rw [bd2_r, bd_r, bd_r]
  obtain ⟨⟨m, x', a1, a2, o⟩, h0⟩ := sm
  have dz : z.1.1 70 53 ≤ 3000 := by
    by_cases z3 : z.2 = 3
    · rw [if_neg (fun g => g z3), bd_r] at d3
      have d4 : (sI (sI (sI z.1 70 50 1) 70 51 (z.2 - 1)) 70 52 0).1 70 53 ≤ 3000 := d3
      rw [sI_ne (by omega), sI_ne (by omega), sI_ne (by omega)] at d4
      exact d4
    · rw [if_pos z3] at d3
      have d4 : (sI (sI z.1 70 50 1) 70 51 (z.2 - 1)).1 70 53 ≤ 3000 := d3
      rw [sI_ne (by omega), sI_ne (by omega)] at d4
      exact d4
  have fin : ∀ k : Int, x'.1 64 6 = k → ¬ k = 3 → k = z.2 - 1 → (f_X2_play2_ (BG 3000019) 55 0 (f_X2_enter2 x2 0 a b)).2 = (if ¬ z.2 = 3 then ((sI (sI z.1 70 50 1) 70 51 (z.2 - 1)), (z.2 - 1)) else (bd (sI (sI (sI z.1 70 50 1) 70 51 (z.2 - 1)) 70 52 0) fun s19 => (s19, (z.2 - 1)))).2 := fun k e k3 ek => by
    have q := BG_le 3000019
    rw [play_m m (BG 3000019) 55 0 _ x' a1 (by omega) (by omega) (by omega)]
    have r : (if ¬ z.2 = 3 then ((sI (sI z.1 70 50 1) 70 51 (z.2 - 1)), (z.2 - 1)) else (bd (sI (sI (sI z.1 70 50 1) 70 51 (z.2 - 1)) 70 52 0) fun s19 => (s19, (z.2 - 1)))).2 = z.2 - 1 := by
      by_cases z3 : z.2 = 3
      · rw [if_neg (fun g => g z3), bd_r]
      · rw [if_pos z3]
    rw [r, ← ek]
    exact e
  have en : ∀ (x1 : ST) (v t : Int), x1.1 64 3 = 0 → (f_X2_leave2 x1 v t).1 64 6 = if t = 0 then 0 else 1 := fun x1 v t h => by
    rw [leave_0 h]
    unfold ENDL
    by_cases k : t = 0
    · rw [if_pos k, if_pos k, sI_ne (by omega), sI_eq]
    · rw [if_neg k, if_neg k, sI_ne (by omega), sI_eq]
  rcases o with o | ⟨o, x1, r1, ex⟩ | ⟨o, _, x1, r1, ex⟩ | o | ⟨o, ex⟩
  · exact absurd o.1 h0
  · exact fin 0 (by rw [ex, en x1 _ 0 r1.1.1, if_pos rfl]) (by decide) (by omega)
  · exact fin 1 (by rw [ex, en x1 _ 1 r1.1.1, if_neg (by decide)]) (by decide) (by omega)
  · exact absurd rfl o.2.1
  · exact fin 2 ex (by decide) (by omega)

