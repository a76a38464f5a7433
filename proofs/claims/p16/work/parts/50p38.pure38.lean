/-! the reference's ways by the relation -/
def BRG (F : FN) (t : ST) (S P : Int) (FI BH TB : Int → Int) : Prop := (∀ (c : Nat) (i : Int), 73 ≤ c → c ≤ 94 → V F c i = gI t c i) ∧ (∀ k, 0 ≤ k → k < gI t 75 S → V F 95 (40 * S + k) = BH (gI t 93 (40 * S + k)) ∧ V F 96 (40 * S + k) = (if gI t 85 (gI t 93 (40 * S + k)) = -1 then -2 else FI (gI t 85 (gI t 93 (40 * S + k)))) ∧ V F 97 (40 * S + k) = OT t FI BH (gI t 93 (40 * S + k)) ∧ V F 98 (40 * S + k) = TH t FI TB (gI t 93 (40 * S + k)) ∧ V F 99 (40 * S + k) = vV t TB (gI t 93 (40 * S + k))) ∧ (∀ p, 0 ≤ p → p < P → V F 100 (5 * S + p) = FI (gI t 94 (5 * S + p)))
theorem BRG.kx {F G : FN} {t : ST} {S P : Int} {FI BH TB : Int → Int} (b : BRG F t S P FI BH TB) (k : KX 100 F G) : BRG G t S P FI BH TB := by
  have e : ∀ (c : Nat) (i : Int), 73 ≤ c → c ≤ 100 → V G c i = V F c i := fun c i h1 h2 => by unfold V; rw [k c _ h1 h2]
  refine ⟨fun c i h1 h2 => (e c i h1 (by omega)).trans (b.1 c i h1 h2), fun j j0 j1 => ?_, fun p p0 p1 => (e 100 _ (by omega) (by omega)).trans (b.2.2 p p0 p1)⟩
  rw [e 95 _ (by omega) (by omega), e 96 _ (by omega) (by omega), e 97 _ (by omega) (by omega), e 98 _ (by omega) (by omega), e 99 _ (by omega) (by omega)]
  exact b.2.1 j j0 j1
def RF (F : FN) (S q : Int) : Prop := V F 101 (5 * S + q) = 1
def TF (F : FN) (S q : Int) : Prop := V F 102 (5 * S + q) = 1
theorem ED.e {t : ST} {FI BH TB : Int → Int} {R T : Int → Prop} {i e v : Int} (d : ED t FI BH TB R T i e v) : e = 0 ∨ e = 1 := by
  unfold ED at d
  rcases d with q | q | q | q | q | q | q | q | q
  · exact Or.inl q.2.1
  · exact Or.inl q.2.1
  · exact Or.inr q.2.1
  · exact Or.inl q.2.1
  · exact Or.inr q.2.1
  · exact Or.inl q.2.1
  · exact Or.inr q.2.1
  · exact Or.inr q.2.1
  · exact Or.inl q.2.1
set_option maxHeartbeats 4000000 in
theorem wy_ed {c : Nat} {S P : Int} {B : Int → Int} {s t : ST} {EN FI EO BH TB : Int → Int} {F : FN} (h : TT c S P B s t EN FI EO BH TB) (b : BRG F t S P FI BH TB) {k e v : Int} (k0 : 0 ≤ k) (k1 : k < gI t 75 S) (he : e = 0 ∨ e = 1) (v1 : -1 ≤ v) : wy F S k e = v ↔ ED t FI BH TB (RF F S) (TF F S) (gI t 93 (40 * S + k)) e v := by
  have it := h.it k0 k1
  have kd := h.2.2.2.1 _ it.1 it.2.2
  have w := b.2.1 k k0 k1
  have x5 := (h.2.2.1.2.2.2.2.1 _ it.1).2
  unfold wy ED RF TF
  rw [b.1 93 _ (by omega) (by omega), b.1 77 _ (by omega) (by omega), b.1 84 _ (by omega) (by omega), w.1, w.2.1, w.2.2.1, w.2.2.2.1]
  generalize gI t 93 (40 * S + k) = i at *
  have no : ∀ {A : Prop}, ¬ A → (((-2 : Int) = v) ↔ A) := fun n => ⟨fun q => by omega, fun q => absurd q n⟩
  by_cases z0 : gI t 77 i = 0
  · rw [if_pos z0]
    rcases he with e0 | e0
    · rw [if_pos e0]
      refine ⟨fun q => Or.inl ⟨z0, e0, q.symm⟩, fun q => ?_⟩
      rcases q with q | q | q | q | q | q | q | q | q
      · exact q.2.2.symm
      all_goals (have q1 := q.1; omega)
    · rw [if_neg (by omega)]
      refine no (fun q => ?_)
      rcases q with q | q | q | q | q | q | q | q | q
      all_goals (have q1 := q.1; have q2 := q.2.1; omega)
  · rw [if_neg z0]
    by_cases z1 : gI t 77 i = 1
    · rw [if_pos z1]
      rcases he with e0 | e0
      · rw [if_pos e0]
        by_cases f : V F 101 (5 * S + gI t 84 i) = 1
        · rw [if_pos f]
          refine ⟨fun q => Or.inr (Or.inl ⟨z1, e0, f, q.symm⟩), fun q => ?_⟩
          rcases q with q | q | q | q | q | q | q | q | q
          · have q1 := q.1; omega
          · exact q.2.2.2.symm
          all_goals (have q1 := q.1; have q2 := q.2.1; omega)
        · rw [if_neg f]
          refine no (fun q => ?_)
          rcases q with q | q | q | q | q | q | q | q | q
          · have q1 := q.1; omega
          · exact f q.2.2.1
          all_goals (have q1 := q.1; have q2 := q.2.1; omega)
      · rw [if_neg (show ¬ e = 0 by omega)]
        by_cases f : V F 102 (5 * S + gI t 84 i) = 1
        · rw [if_pos f]
          refine ⟨fun q => Or.inr (Or.inr (Or.inl ⟨z1, e0, f, q.symm⟩)), fun q => ?_⟩
          rcases q with q | q | q | q | q | q | q | q | q
          · have q1 := q.1; omega
          · have q2 := q.2.1; omega
          · exact q.2.2.2.symm
          all_goals (have q1 := q.1; have q2 := q.2.1; omega)
        · rw [if_neg f]
          refine no (fun q => ?_)
          rcases q with q | q | q | q | q | q | q | q | q
          · have q1 := q.1; omega
          · have q2 := q.2.1; omega
          · exact f q.2.2.1
          all_goals (have q1 := q.1; have q2 := q.2.1; omega)
    · rw [if_neg z1]
      by_cases z2 : gI t 77 i = 2
      · rw [if_pos z2, if_neg (x5 (Or.inl z2))]
        rcases he with e0 | e0
        · rw [if_pos e0]
          refine ⟨fun q => Or.inr (Or.inr (Or.inr (Or.inl ⟨z2, e0, q.symm⟩))), fun q => ?_⟩
          rcases q with q | q | q | q | q | q | q | q | q
          · have q1 := q.1; omega
          · have q1 := q.1; omega
          · have q1 := q.1; omega
          · exact q.2.2.symm
          all_goals (have q1 := q.1; have q2 := q.2.1; omega)
        · rw [if_neg (show ¬ e = 0 by omega)]
          refine ⟨fun q => Or.inr (Or.inr (Or.inr (Or.inr (Or.inl ⟨z2, e0, q.symm⟩)))), fun q => ?_⟩
          rcases q with q | q | q | q | q | q | q | q | q
          · have q1 := q.1; omega
          · have q1 := q.1; omega
          · have q1 := q.1; omega
          · have q2 := q.2.1; omega
          · exact q.2.2.symm
          all_goals (have q1 := q.1; have q2 := q.2.1; omega)
      · rw [if_neg z2]
        by_cases z3 : gI t 77 i = 3
        · rw [if_pos z3, if_neg (x5 (Or.inr z3))]
          rcases he with e0 | e0
          · rw [if_pos e0]
            refine ⟨fun q => Or.inr (Or.inr (Or.inr (Or.inr (Or.inr (Or.inl ⟨z3, e0, q.symm⟩))))), fun q => ?_⟩
            rcases q with q | q | q | q | q | q | q | q | q
            · have q1 := q.1; omega
            · have q1 := q.1; omega
            · have q1 := q.1; omega
            · have q1 := q.1; omega
            · have q1 := q.1; omega
            · exact q.2.2.symm
            all_goals (have q1 := q.1; have q2 := q.2.1; omega)
          · rw [if_neg (show ¬ e = 0 by omega)]
            refine ⟨fun q => Or.inr (Or.inr (Or.inr (Or.inr (Or.inr (Or.inr (Or.inl ⟨z3, e0, q.symm⟩)))))), fun q => ?_⟩
            rcases q with q | q | q | q | q | q | q | q | q
            · have q1 := q.1; omega
            · have q1 := q.1; omega
            · have q1 := q.1; omega
            · have q1 := q.1; omega
            · have q1 := q.1; omega
            · have q2 := q.2.1; omega
            · exact q.2.2.symm
            all_goals (have q1 := q.1; have q2 := q.2.1; omega)
        · rw [if_neg z3]
          by_cases z4 : gI t 77 i = 4
          · rw [if_pos z4]
            rcases he with e0 | e0
            · rw [if_pos e0]
              refine no (fun q => ?_)
              rcases q with q | q | q | q | q | q | q | q | q
              all_goals (have q1 := q.1; have q2 := q.2.1; omega)
            · rw [if_neg (show ¬ e = 0 by omega)]
              refine ⟨fun q => Or.inr (Or.inr (Or.inr (Or.inr (Or.inr (Or.inr (Or.inr (Or.inl ⟨z4, e0, q.symm⟩))))))), fun q => ?_⟩
              rcases q with q | q | q | q | q | q | q | q | q
              · have q1 := q.1; omega
              · have q1 := q.1; omega
              · have q1 := q.1; omega
              · have q1 := q.1; omega
              · have q1 := q.1; omega
              · have q1 := q.1; omega
              · have q1 := q.1; omega
              · exact q.2.2.symm
              · have q1 := q.1; omega
          · rw [if_neg z4]
            have z5 : gI t 77 i = 5 := by omega
            rcases he with e0 | e0
            · rw [if_pos e0]
              refine ⟨fun q => Or.inr (Or.inr (Or.inr (Or.inr (Or.inr (Or.inr (Or.inr (Or.inr ⟨z5, e0, q.symm⟩))))))), fun q => ?_⟩
              rcases q with q | q | q | q | q | q | q | q | q
              · have q1 := q.1; omega
              · have q1 := q.1; omega
              · have q1 := q.1; omega
              · have q1 := q.1; omega
              · have q1 := q.1; omega
              · have q1 := q.1; omega
              · have q1 := q.1; omega
              · have q1 := q.1; omega
              · exact q.2.2.symm
            · rw [if_neg (show ¬ e = 0 by omega)]
              refine no (fun q => ?_)
              rcases q with q | q | q | q | q | q | q | q | q
              all_goals (have q1 := q.1; have q2 := q.2.1; omega)
theorem th_tw {c : Nat} {S P : Int} {B : Int → Int} {s t : ST} {EN FI EO BH TB : Int → Int} {F : FN} (h : TT c S P B s t EN FI EO BH TB) (b : BRG F t S P FI BH TB) {k e : Int} (k0 : 0 ≤ k) (k1 : k < gI t 75 S) : (th F S k e = 1 ∧ TW t TB (gI t 93 (40 * S + k)) e) ∨ (th F S k e = 0 ∧ ¬ TW t TB (gI t 93 (40 * S + k)) e) := by
  have it := h.it k0 k1
  have w := b.2.1 k k0 k1
  have vv := h.vv it.1
  unfold th TW
  rw [b.1 93 _ (by omega) (by omega), b.1 77 _ (by omega) (by omega), w.2.2.2.2]
  have e1 : vV t TB (gI t 93 (40 * S + k)) = -1 ↔ TB (gI t 88 (gI t 93 (40 * S + k))) = -1 := by
    refine ⟨fun z => vv.mp (by omega), fun z => ?_⟩
    unfold vV
    rw [if_pos z]
  by_cases z : e = 1 ∧ (gI t 77 (gI t 93 (40 * S + k)) = 4 ∨ gI t 77 (gI t 93 (40 * S + k)) = 1) ∧ TB (gI t 88 (gI t 93 (40 * S + k))) = -1
  · rw [if_pos ⟨z.1, z.2.1, e1.mpr z.2.2⟩]; exact Or.inl ⟨rfl, z⟩
  · rw [if_neg (fun y => z ⟨y.1, y.2.1, e1.mp y.2.2⟩)]; exact Or.inr ⟨rfl, z⟩
theorem ct_cta {c : Nat} {S P : Int} {B : Int → Int} {s t : ST} {EN FI EO BH TB : Int → Int} {F : FN} (h : TT c S P B s t EN FI EO BH TB) (b : BRG F t S P FI BH TB) {p x : Int} (p0 : 0 ≤ p) (p1 : p < P) (hx : x = 0 ∨ x = 1) : CT F S p x ↔ CTA t S FI BH TB (RF F S) (TF F S) p x := by
  have e75 : V F 75 S = gI t 75 S := b.1 75 S (by omega) (by omega)
  have cl : ∀ C : Int → Prop, clo F S C ↔ clA t S FI BH TB (RF F S) (TF F S) C := fun C => by
    constructor
    · intro q k e v k0 k1 ck d v0
      have y := (wy_ed h b k0 k1 d.e (by omega)).mpr d
      have r := q k e k0 (by omega) d.e ck (by omega)
      rw [y] at r
      exact r
    · intro q k e k0 k1 he ck w0
      exact q k e _ k0 (by omega) ck ((wy_ed h b k0 (by omega) he (by omega)).mp rfl) w0
  unfold CT CTA
  rw [b.2.2 p p0 p1]
  constructor
  · intro q
    rcases q with q | q
    · exact Or.inl q
    · refine Or.inr ⟨q.1, fun C hc c0 => ?_⟩
      obtain ⟨k, e, k0, k1, he, ck, w1, w2⟩ := q.2 C ((cl C).mpr hc) c0
      have k1' : k < gI t 75 S := by omega
      refine ⟨k, e, k0, k1', ck, (wy_ed h b k0 k1' he (by omega)).mp w1, ?_⟩
      rcases th_tw (e := e) h b k0 k1' with y | y
      · exact Or.inl ⟨by omega, y.2⟩
      · exact Or.inr ⟨by omega, y.2⟩
  · intro q
    rcases q with q | q
    · exact Or.inl q
    · refine Or.inr ⟨q.1, fun C hc c0 => ?_⟩
      obtain ⟨k, e, k0, k1, ck, d, w⟩ := q.2 C ((cl C).mp hc) c0
      refine ⟨k, e, k0, by omega, d.e, ck, (wy_ed h b k0 k1 d.e (by omega)).mpr d, ?_⟩
      rcases th_tw (e := e) h b k0 k1 with y | y
      · rcases w with w | w
        · omega
        · exact absurd y.2 w.2
      · rcases w with w | w
        · exact absurd w.2 y.2
        · omega
theorem CTA.mono {c : Nat} {S P : Int} {B : Int → Int} {s t : ST} {EN FI EO BH TB : Int → Int} (h : TT c S P B s t EN FI EO BH TB) {R T R' T' : Int → Prop} (m : ∀ q, 0 ≤ q → q < P → (R q → R' q) ∧ (T q → T' q)) {p x : Int} (a : CTA t S FI BH TB R T p x) : CTA t S FI BH TB R' T' p x := by
  have em : ∀ k e v, 0 ≤ k → k < gI t 75 S → ED t FI BH TB R T (gI t 93 (40 * S + k)) e v → ED t FI BH TB R' T' (gI t 93 (40 * S + k)) e v := fun k e v k0 k1 d => by
    have ce := h.2.2.2.2.1 _ (h.it k0 k1).1
    exact d.mono (fun y => (m _ (ce y).1 (ce y).2).1) (fun y => (m _ (ce y).1 (ce y).2).2)
  rcases a with a | a
  · exact Or.inl a
  · refine Or.inr ⟨a.1, fun C hc c0 => ?_⟩
    obtain ⟨k, e, k0, k1, ck, d, w⟩ := a.2 C (fun k e v k0 k1 ck d => hc k e v k0 k1 ck (em k e v k0 k1 d)) c0
    exact ⟨k, e, k0, k1, ck, em k e _ k0 k1 d, w⟩
/-- the reference's flags are the least -/
theorem ref_ok {c : Nat} {S P : Int} {B : Int → Int} {s t : ST} {EN FI EO BH TB : Int → Int} {F G : FN} (h : TT c S P B s t EN FI EO BH TB) (b : BRG F t S P FI BH TB) (hP : P = gI t 76 S) (kx : KX 100 F G) (ls : LSP F G S) (fx : FXP G S P) : ∀ q, 0 ≤ q → q < P → (V G 101 (5 * S + q) = 1 ↔ LFR t S P FI BH TB q) ∧ (V G 102 (5 * S + q) = 1 ↔ LFT t S P FI BH TB q) := by
  have P5 := h.2.2.2.2.2.2.2.1
  have bg := b.kx kx
  have e76 : V F 76 S = P := by rw [b.1 76 S (by omega) (by omega)]; exact hP.symm
  have pf : PFX t S P FI BH TB (RF G S) (TF G S) := fun p p0 p1 => ⟨fun z => (fx p p0 p1).1 ((ct_cta h bg p0 p1 (Or.inl rfl)).mpr z), fun z => (fx p p0 p1).2 ((ct_cta h bg p0 p1 (Or.inr rfl)).mpr z)⟩
  have low : ∀ R T : Int → Prop, PFX t S P FI BH TB R T → FLW G S R T := fun R T pr => ls R T (fun H kh fl p p0 p1 => by
    rw [e76] at p1
    have bh := b.kx kh
    have m : ∀ q, 0 ≤ q → q < P → (RF H S q → R q) ∧ (TF H S q → T q) := fun q q0 q1 => fl q q0 (by omega)
    exact ⟨fun z => (pr p p0 p1).1 (((ct_cta h bh p0 p1 (Or.inl rfl)).mp z).mono h m), fun z => (pr p p0 p1).2 (((ct_cta h bh p0 p1 (Or.inr rfl)).mp z).mono h m)⟩)
  exact fun q q0 q1 => ⟨⟨fun z R T pr => (low R T pr q q0 (by omega)).1 z, fun z => z _ _ pf⟩, ⟨fun z R T pr => (low R T pr q q0 (by omega)).2 z, fun z => z _ _ pf⟩⟩

