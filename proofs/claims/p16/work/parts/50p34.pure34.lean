/-! the whole walk -/
def PRC (t : ST) (S : Int) (FI BH TB : Int → Int) (p k : Int) (r : Int64) (mr mt : Int) : Prop := ∀ j, 0 ≤ j → j < k → bt r j → ∀ e v, ED t FI BH TB (FB mr) (FB mt) (gI t 93 (40 * S + j)) e v → (0 ≤ v → bt r v) ∧ (v = -1 → (TW t TB (gI t 93 (40 * S + j)) e → FB mt p) ∧ (¬ TW t TB (gI t 93 (40 * S + j)) e → bt r (40 + p)))
def FSB (c : Nat) (X : ST) (R T : Int → Prop) : Prop := ∀ q, 0 ≤ q → q < 5 → (FB (X.1 c 3) q → R q) ∧ (FB (X.1 c 4) q → T q)
set_option maxHeartbeats 4000000 in
theorem walk_ok {c : Nat} {S P : Int} {B : Int → Int} {s t : ST} {EN FI EO BH TB : Int → Int} (h : TT c S P B s t EN FI EO BH TB) {p : Int} (p0 : 0 ≤ p) (p1 : p < P) : ∀ (N m : Nat) (r : Int64) (k : Int) (X : ST), CS c S P t FI BH TB X → 0 ≤ k → k ≤ gI t 75 S → gI t 75 S - k < N → JJ t S FI p r →
    (CS c S P t FI BH TB (f_X0_walk_ N m c p r k X) ∧ KF c P X (f_X0_walk_ N m c p r k X)) ∧ (∀ R T : Int → Prop, PFX t S P FI BH TB R T → FSB c X R T → RCA t S FI BH TB R T p r → FSB c (f_X0_walk_ N m c p r k X) R T) ∧ ((f_X0_walk_ N m c p r k X).1 c 3 = X.1 c 3 → (f_X0_walk_ N m c p r k X).1 c 4 = X.1 c 4 → PRC t S FI BH TB p k r (X.1 c 3) (X.1 c 4) → (CTA t S FI BH TB (FB (X.1 c 3)) (FB (X.1 c 4)) p 0 → FB (X.1 c 3) p) ∧ (CTA t S FI BH TB (FB (X.1 c 3)) (FB (X.1 c 4)) p 1 → FB (X.1 c 4) p)) := by
  have hc := h.2.2.2.2.2.2.2.2
  have P5 := h.2.2.2.2.2.2.2.1
  have k40 : gI t 75 S ≤ 40 := h.1.1.2.2.2.2.1
  intro N
  induction N with
  | zero => intro m r k X _ _ _ hN; omega
  | succ N ih =>
    intro m r k X hX k0 k1 hN J
    have x0 := hX.1
    have b3 := hX.2.2.2.2.1
    have b4 := hX.2.2.2.2.2
    have o3 := or_r b3.1 b3.2 p0 (by omega)
    have o4 := or_r b4.1 b4.2 p0 (by omega)
    have kw := KF.w hc hX P5 p0 p1
    by_cases z : gI t 75 S ≤ k
    · have ke : k = gI t 75 S := by omega
      have hb := has_r (s := X) (x := r) (k := 40 + p) (by omega) (by omega)
      have cl : PRC t S FI BH TB p k r (X.1 c 3) (X.1 c 4) → (CTA t S FI BH TB (FB (X.1 c 3)) (FB (X.1 c 4)) p 0 → bt r (40 + p)) ∧ (CTA t S FI BH TB (FB (X.1 c 3)) (FB (X.1 c 4)) p 1 → FB (X.1 c 4) p) := fun pr => by
        have cc : clA t S FI BH TB (FB (X.1 c 3)) (FB (X.1 c 4)) (fun x => 0 ≤ x ∧ bt r x) := fun j e v j0 j1 hj d v0 => ⟨v0, (pr j j0 (by omega) hj.2 e v d).1 v0⟩
        refine ⟨fun q => ?_, fun q => ?_⟩
        · rcases q with q | q
          · have e := J.2
            rw [q.1, en_1] at e
            exact e
          · have e := J.2
            rw [en_n (by omega)] at e
            obtain ⟨j, e', j0, j1, cj, d, w⟩ := q.2 _ cc ⟨q.1, e⟩
            rcases w with w | w
            · omega
            · exact ((pr j j0 (by omega) cj.2 e' (-1) d).2 rfl).2 w.2
        · rcases q with q | q
          · omega
          · have e := J.2
            rw [en_n (by omega)] at e
            obtain ⟨j, e', j0, j1, cj, d, w⟩ := q.2 _ cc ⟨q.1, e⟩
            rcases w with w | w
            · exact ((pr j j0 (by omega) cj.2 e' (-1) d).2 rfl).1 w.2
            · omega
      rw [walk_e (by rw [x0]; exact z)]
      by_cases b : f_X7_has X r (40 + p) = 0
      · rw [if_pos b]
        have nb := hb.mp b
        exact ⟨⟨hX, KF.rfl⟩, fun R T _ hf _ => hf, fun _ _ pr => ⟨fun q => absurd ((cl pr).1 q) nb, (cl pr).2⟩⟩
      · rw [if_neg b]
        have bb : bt r (40 + p) := by
          by_cases y : bt r (40 + p)
          · exact y
          · exact absurd (hb.mpr y) b
        refine ⟨⟨kw.1.2.1, kw.1.1⟩, fun R T pf hf rc q q0 q5 => ?_, fun w3 _ pr => ⟨fun _ => ?_, (cl pr).2⟩⟩
        · rw [kw.1.2.2.1, kw.1.2.2.2]
          refine ⟨fun y => ?_, (hf q q0 q5).2⟩
          rcases (o3.2.2 q q0 q5).mp y with v | v
          · exact (hf q q0 q5).1 v
          · rw [v]
            exact (pf p p0 p1).1 (rc.2 bb)
        · rw [kw.1.2.2.1] at w3
          have y := (o3.2.2 p p0 (by omega)).mpr (Or.inr rfl)
          rw [w3] at y
          exact y
    · have k2 : k < gI t 75 S := by omega
      have it := h.it k0 k2
      have kd := h.2.2.2.1 _ it.1 it.2.2
      have ce := h.2.2.2.2.1 _ it.1
      have qq := CS.q h hX k0 k2
      have xk := hX.2.2.1 k k0 k2
      have hb := has_r (s := X) (x := r) (k := k) (by omega) (by omega)
      rw [walk_s (by rw [x0]; exact z)]
      by_cases b : f_X7_has X r k = 0
      · rw [if_pos b]
        have nb := hb.mp b
        have I := ih 13 r (k + 1) X hX (by omega) (by omega) (by omega) J
        refine ⟨I.1, I.2.1, fun w3 w4 pr => I.2.2 w3 w4 (fun j j0 j1 bj => ?_)⟩
        by_cases y : j = k
        · rw [y] at bj; exact absurd bj nb
        · exact pr j j0 (by omega) bj
      · rw [if_neg b]
        have bk : bt r k := by
          by_cases y : bt r k
          · exact y
          · exact absurd (hb.mpr y) b
        have em : ∀ (R T : Int → Prop) (e v : Int), FSB c X R T → ED t FI BH TB (FB (X.1 c 3)) (FB (X.1 c 4)) (gI t 93 (40 * S + k)) e v → ED t FI BH TB R T (gI t 93 (40 * S + k)) e v := fun R T e v hf d => d.mono (fun y1 y => (hf _ (ce y1).1 (by have := (ce y1).2; omega)).1 y) (fun y1 y => (hf _ (ce y1).1 (by have := (ce y1).2; omega)).2 y)
        have J79 : gI t 79 (gI t 93 (40 * S + k)) = p := by
          rcases J.1 k k0 bk with y | y
          · exact y.2.2
          · omega
        have S1 : JJ t S FI p (wR X c r k) ∧ (∀ j, bt r j → bt (wR X c r k) j) ∧ (∀ j, 0 ≤ j → j ≤ k → bt (wR X c r k) j → bt r j) ∧ (GSp t (X.1 c 3) (gI t 93 (40 * S + k)) → bt (wR X c r k) (vS t FI BH (gI t 93 (40 * S + k)))) ∧ (∀ R T : Int → Prop, FSB c X R T → RCA t S FI BH TB R T p r → RCA t S FI BH TB R T p (wR X c r k)) := by
          unfold wR
          by_cases g : f_X0_goesStraight X c k = 0
          · rw [if_pos g]
            exact ⟨J, fun _ y => y, fun _ _ _ y => y, fun y => absurd y (qq.1.mp g), fun _ _ _ y => y⟩
          · rw [if_neg g, xk.2.2.1]
            have gp : GSp t (X.1 c 3) (gI t 93 (40 * S + k)) := by
              by_cases y : GSp t (X.1 c 3) (gI t 93 (40 * S + k))
              · exact y
              · exact absurd (qq.1.mpr y) g
            obtain ⟨e, v, d, ev, nt⟩ := CS.e1 (FI := FI) (BH := BH) (TB := TB) (mt := X.1 c 4) kd gp
            rw [J79] at ev
            rw [ev]
            have A := add_ok (X := X) h p0 p1 k0 k2 J bk d
            exact ⟨A.2.1, A.2.2.1, A.2.2.2.1, fun _ => A.2.2.2.2.1, fun R T hf rc => RCA.add h p0 p1 k0 k2 rc bk (em R T e v hf d) nt A.2.2.2.2.2⟩
        obtain ⟨s1, s2, s3, s4, s5⟩ := S1
        have bk1 := s2 k bk
        have KK : ∀ r2 : Int64, (GSp t (X.1 c 3) (gI t 93 (40 * S + k)) → bt r2 (vS t FI BH (gI t 93 (40 * S + k)))) → (¬ ESp t TB (X.1 c 4) (gI t 93 (40 * S + k)) → DEp t (X.1 c 4) (gI t 93 (40 * S + k)) → bt r2 (vA t FI TB (gI t 93 (40 * S + k)))) → (ESp t TB (X.1 c 4) (gI t 93 (40 * S + k)) → FB (X.1 c 4) p) → ∀ e v, ED t FI BH TB (FB (X.1 c 3)) (FB (X.1 c 4)) (gI t 93 (40 * S + k)) e v → (0 ≤ v → bt r2 v) ∧ (v = -1 → (TW t TB (gI t 93 (40 * S + k)) e → FB (X.1 c 4) p) ∧ (¬ TW t TB (gI t 93 (40 * S + k)) e → bt r2 (40 + p))) := fun r2 y1 y2 y3 e v d => by
          have fin : bt r2 (en p v) → ¬ TW t TB (gI t 93 (40 * S + k)) e → (0 ≤ v → bt r2 v) ∧ (v = -1 → (TW t TB (gI t 93 (40 * S + k)) e → FB (X.1 c 4) p) ∧ (¬ TW t TB (gI t 93 (40 * S + k)) e → bt r2 (40 + p))) := fun bu nt => ⟨fun v0 => by rw [en_n (by omega)] at bu; exact bu, fun v1 => ⟨fun y => absurd y nt, fun _ => by rw [v1, en_1] at bu; exact bu⟩⟩
          rcases CS.e4 d with w | w
          · exact ⟨fun v0 => by have := w.2.2; omega, fun _ => ⟨fun _ => y3 w.2.1, fun y => absurd w.1 y⟩⟩
          · rcases w.2 with u | u
            · have bu := y1 u.1
              rw [u.2, J79] at bu
              exact fin bu w.1
            · have bu := y2 u.1 u.2.1
              rw [u.2.2, J79] at bu
              exact fin bu w.1
        have PS : ∀ r2 : Int64, (∀ j, bt r j → bt r2 j) → (∀ j, 0 ≤ j → j ≤ k → bt r2 j → bt r j) → (∀ e v, ED t FI BH TB (FB (X.1 c 3)) (FB (X.1 c 4)) (gI t 93 (40 * S + k)) e v → (0 ≤ v → bt r2 v) ∧ (v = -1 → (TW t TB (gI t 93 (40 * S + k)) e → FB (X.1 c 4) p) ∧ (¬ TW t TB (gI t 93 (40 * S + k)) e → bt r2 (40 + p)))) → PRC t S FI BH TB p k r (X.1 c 3) (X.1 c 4) → PRC t S FI BH TB p (k + 1) r2 (X.1 c 3) (X.1 c 4) := fun r2 y1 y2 y3 pr j j0 j1 bj e v d => by
          by_cases y : j = k
          · rw [y] at d ⊢
            exact y3 e v d
          · have q := pr j j0 (by omega) (y2 j j0 (by omega) bj) e v d
            exact ⟨fun v0 => y1 _ (q.1 v0), fun v1 => ⟨(q.2 v1).1, fun w => y1 _ ((q.2 v1).2 w)⟩⟩
        by_cases es : f_X0_escapes X c k = 0
        · rw [if_pos es]
          have nes := qq.2.1.mp es
          by_cases de : f_X0_decides X c k = 0
          · rw [if_pos de]
            have nde := qq.2.2.mp de
            have I := ih 13 (wR X c r k) (k + 1) X hX (by omega) (by omega) (by omega) s1
            exact ⟨I.1, fun R T pf hf rc => I.2.1 R T pf hf (s5 R T hf rc), fun w3 w4 pr => I.2.2 w3 w4 (PS _ s2 s3 (KK _ s4 (fun _ y => absurd y nde) (fun y => absurd y nes)) pr)⟩
          · rw [if_neg de, xk.2.2.2.1]
            have dp : DEp t (X.1 c 4) (gI t 93 (40 * S + k)) := by
              by_cases y : DEp t (X.1 c 4) (gI t 93 (40 * S + k))
              · exact y
              · exact absurd (qq.2.2.mpr y) de
            obtain ⟨e, v, d, ev, nt⟩ := CS.e2 (FI := FI) (BH := BH) (mr := X.1 c 3) kd nes dp
            rw [J79] at ev
            rw [ev]
            have A := add_ok (X := X) h p0 p1 k0 k2 s1 bk1 d
            have I := ih 13 (o_lor (wR X c r k) (f_X7_bit X (en p v))) (k + 1) X hX (by omega) (by omega) (by omega) A.2.1
            refine ⟨I.1, fun R T pf hf rc => I.2.1 R T pf hf (RCA.add h p0 p1 k0 k2 (s5 R T hf rc) bk1 (em R T e v hf d) nt A.2.2.2.2.2), fun w3 w4 pr => I.2.2 w3 w4 (PS _ (fun j y => A.2.2.1 j (s2 j y)) (fun j j0 j1 y => s3 j j0 j1 (A.2.2.2.1 j j0 j1 y)) (KK _ (fun y => A.2.2.1 _ (s4 y)) (fun _ _ => by rw [ev]; exact A.2.2.2.2.1) (fun y => absurd y nes)) pr)⟩
        · rw [if_neg es]
          have ep : ESp t TB (X.1 c 4) (gI t 93 (40 * S + k)) := by
            by_cases y : ESp t TB (X.1 c 4) (gI t 93 (40 * S + k))
            · exact y
            · exact absurd (qq.2.1.mpr y) es
          have d3 := CS.e3 (FI := FI) (BH := BH) (mr := X.1 c 3) ep
          have I := ih 13 (wR X c r k) (k + 1) _ kw.2.2.1 (by omega) (by omega) (by omega) s1
          generalize hX1 : sI X c 4 (o_ior (X.1 c 4) (o_ishl 1 p)) = X1 at I kw ⊢
          generalize f_X0_walk_ N 13 c p (wR X c r k) (k + 1) X1 = W at I ⊢
          refine ⟨⟨I.1.1, kw.2.1.tr I.1.2⟩, fun R T pf hf rc => I.2.1 R T pf (fun q q0 q5 => ?_) (s5 R T hf rc), fun w3 w4 pr => ?_⟩
          · rw [kw.2.2.2.1, kw.2.2.2.2]
            refine ⟨(hf q q0 q5).1, fun y => ?_⟩
            rcases (o4.2.2 q q0 q5).mp y with v | v
            · exact (hf q q0 q5).2 v
            · rw [v]
              exact (pf p p0 p1).2 (rc.hit k0 k2 bk (em R T 1 (-1) hf d3.1) (Or.inl ⟨rfl, d3.2⟩))
          · have fp : FB (X.1 c 4) p := by
              have y : FB (X1.1 c 4) p := by rw [kw.2.2.2.1]; exact (o4.2.2 p p0 (by omega)).mpr (Or.inr rfl)
              have y2 := (I.1.2.2.2.1 p p0 (by omega)).2 y
              rw [w4] at y2
              exact y2
            have sm := or_same b4.1 b4.2 p0 (by omega) fp
            have c4 : X1.1 c 4 = X.1 c 4 := by rw [kw.2.2.2.1, sm]
            have c3 : X1.1 c 3 = X.1 c 3 := kw.2.2.2.2
            have R := I.2.2
            rw [c3, c4] at R
            exact R w3 w4 (PS _ s2 s3 (KK _ s4 (fun y => absurd ep y) (fun _ => fp)) pr)

