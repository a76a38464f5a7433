/-! blocks, procedures are wired -/
def DN (c : Nat) (S : Int) (t : ST) (G : Nat → Int → Int) (n : Nat) (X : ST) (x : Int) : Prop := (¬ gI t 77 x = 6 → ALLR c G X (gI t 78 x)) ∧ ∀ i, (UD t S n (gI t 85 x) i ∨ UD t S n (gI t 86 x) i) → ¬ gI t 77 i = 6 → ALLR c G X (gI t 78 i)
theorem DN.mv {c : Nat} {S P : Int} {B : Int → Int} {s t : ST} {G : Nat → Int → Int} {n : Nat} {X Y : ST} {x : Int} (h : RR c S 0 P B s t) (hx : CJ t S x) (a : DN c S t G n X x) (p : PRS c G X Y) : DN c S t G n Y x := ⟨fun z => p.all (h.n78 x hx z).1 (a.1 z), fun i u z => p.all (h.n78 i (by rcases u with u | u; (exact u.cj); (exact u.cj)) z).1 (a.2 i u z)⟩
set_option maxHeartbeats 4000000 in
theorem wl_ok {c : Nat} {S P : Int} {B : Int → Int} {s t : ST} {EN FI EO BH TB : Int → Int} {n : Nat} {wb : ST → Int → Int → Int → ST × Int} (hc : c = 2 ∨ c = 18) (S0 : 0 ≤ S) (h : RR c S 0 P B s t) (w : WQ t S EN FI EO BH TB) (hw : WB c S s t FI EO BH TB n wb) (rs : s.2.2 48 1 = c) {b a p : Int} (hb : CB t S b) (hit : ∀ i, CJ t S i → gI t 88 i = b → gI t 79 i = p ∧ gI t 80 i + n = 6) : ∀ (N : Nat) (X : ST) (i f k : Int), WK c s X → CAT t S TB (GV c t S FI BH TB) X b a p → ((i = -1 ∧ f = en p (FI b) ∧ ∀ x, CJ t S x → gI t 88 x = b → DN c S t (GV c t S FI BH TB) n X x) ∨ (0 ≤ i ∧ CJ t S (130 * S + i) ∧ gI t 88 (130 * S + i) = b ∧ f = en p (BH (130 * S + i)) ∧ ∀ x, CJ t S x → gI t 88 x = b → 130 * S + i < x → DN c S t (GV c t S FI BH TB) n X x)) → 0 ≤ k → k + i ≤ 127 → i + 1 < N →
    (gWB_ (gWS wb) (gWT wb) N a f i k X).2 = en p (FI b) ∧ PRS c (GV c t S FI BH TB) X (gWB_ (gWS wb) (gWT wb) N a f i k X).1 ∧ (∀ x, CJ t S x → gI t 88 x = b → DN c S t (GV c t S FI BH TB) n (gWB_ (gWS wb) (gWT wb) N a f i k X).1 x) ∧ WK c s (gWB_ (gWS wb) (gWT wb) N a f i k X).1 := by
  intro N
  induction N with
  | zero =>
    intro X i f k _ _ hi _ _ hN
    exfalso
    rcases hi with z | z
    · have := z.1
      omega
    · have := z.1
      omega
  | succ N ih =>
    intro X i f k hX ca hi k0 ki hN
    rw [gWB_]
    rcases hi with ⟨i1, f1, dn⟩ | ⟨i0, ci, bi, f1, dn⟩
    · by_cases z : 128 ≤ k
      · rw [if_pos z]
        exact ⟨f1, PRS.rfl, dn, hX⟩
      · rw [if_neg z, if_pos (show i < 0 by omega)]
        exact ⟨f1, PRS.rfl, dn, hX⟩
    · rw [if_neg (show ¬ 128 ≤ k by omega), if_neg (show ¬ i < 0 by omega)]
      rewrite [bd_r]
      have k3 := h.2.2.1 i i0 (by have := ci.2; omega)
      have kb := k3.2.2.2.1
      have ka := k3.2.1
      unfold K3b at kb
      unfold K3a at ka
      have e37 : X.1 37 i.toNat = gI t 78 (130 * S + i) := by rw [hX.g (by omega)]; exact k3.1
      rw [e37]
      have hp := hit _ ci bi
      have cb8 := h.c88 _ ci
      have step : ∀ r : ST × Int, r.2 = en p (EN (130 * S + i)) → PRS c (GV c t S FI BH TB) X r.1 → DN c S t (GV c t S FI BH TB) n r.1 (130 * S + i) → WK c s r.1 → (bd2 r fun s1 e => bd (s1.1 38 i.toNat) fun j => gWB_ (gWS wb) (gWT wb) N a e j (k + 1) s1).2 = en p (FI b) ∧ PRS c (GV c t S FI BH TB) X (bd2 r fun s1 e => bd (s1.1 38 i.toNat) fun j => gWB_ (gWS wb) (gWT wb) N a e j (k + 1) s1).1 ∧ (∀ x, CJ t S x → gI t 88 x = b → DN c S t (GV c t S FI BH TB) n (bd2 r fun s1 e => bd (s1.1 38 i.toNat) fun j => gWB_ (gWS wb) (gWT wb) N a e j (k + 1) s1).1 x) ∧ WK c s (bd2 r fun s1 e => bd (s1.1 38 i.toNat) fun j => gWB_ (gWS wb) (gWT wb) N a e j (k + 1) s1).1 := by
        intro r r1 r2 r3 r4
        rewrite [bd2_r, bd_r]
        have e38 : r.1.1 38 i.toNat = gI s 38 i := by rw [r4.g (by omega)]; rfl
        rw [e38, r1]
        have side : (gI s 38 i = -1 ∧ en p (EN (130 * S + i)) = en p (FI b) ∧ ∀ x, CJ t S x → gI t 88 x = b → DN c S t (GV c t S FI BH TB) n r.1 x) ∨ (0 ≤ gI s 38 i ∧ CJ t S (130 * S + gI s 38 i) ∧ gI t 88 (130 * S + gI s 38 i) = b ∧ en p (EN (130 * S + i)) = en p (BH (130 * S + gI s 38 i)) ∧ ∀ x, CJ t S x → gI t 88 x = b → 130 * S + gI s 38 i < x → DN c S t (GV c t S FI BH TB) n r.1 x) := by
          rcases kb with z | z
          · rw [bi] at z
            refine Or.inl ⟨z.1, ?_, fun x hx e => ?_⟩
            · rw [w.2.1 b hb, z.2, if_neg (by omega)]
            · by_cases y : x = 130 * S + i
              · rw [y]; exact r3
              · by_cases v : 130 * S + i < x
                · exact (dn x hx e v).mv h hx r2
                · exfalso
                  have q := (h.2.2.2.2.2.2.1.2.2.2.2.1 x hx).2.1
                  rw [e, z.2] at q
                  omega
          · have cj : CJ t S (130 * S + gI s 38 i) := by
              have := ci.2
              exact ⟨by omega, by omega⟩
            have b2 : gI t 88 (130 * S + gI s 38 i) = b := z.2.2.2.trans bi
            refine Or.inr ⟨z.1, cj, b2, ?_, fun x hx e lt => ?_⟩
            · rw [w.2.2.2.1 _ cj, z.2.2.1, if_neg (by omega)]
            · by_cases y : x = 130 * S + i
              · rw [y]; exact r3
              · by_cases v : 130 * S + i < x
                · exact (dn x hx e v).mv h hx r2
                · exfalso
                  have q := (h.2.2.2.2.2.2.1.2.2.2.2.2.1 _ x cj hx (b2.trans e.symm) lt).2
                  rw [z.2.2.1] at q
                  omega
        have le : gI s 38 i < i := by
          rcases kb with z | z
          · omega
          · exact z.2.1
        have R := ih r.1 (gI s 38 i) (en p (EN (130 * S + i))) (k + 1) r4 (ca.mv hc (PRS.k (k := 0) r2) rfl) side (by omega) (by omega) (by omega)
        exact ⟨R.1, r2.tr R.2.1, R.2.2.1, R.2.2.2⟩
      have hr : X.2.2 48 1 = c := by rw [hX.1]; exact rs
      have ei : 130 * S + i - 130 * S = i := by omega
      by_cases z6 : gI t 77 (130 * S + i) = 6
      · have e78 : gI t 78 (130 * S + i) = -1 := by
          rcases ka with z | z
          · exact z.1
          · exact absurd z6 z.2.2.1
        rw [if_neg (fun z => z e78)]
        have W := wt_ok hc S0 h w hw hX hr ci z6 hp.1 hp.2 f1 (by rw [bi]; exact ca)
        rw [ei] at W
        exact step _ W.1 W.2.1 ⟨fun z => absurd z6 z, W.2.2.1⟩ W.2.2.2
      · have e78 : ¬ gI t 78 (130 * S + i) = -1 := by have := (h.n78 _ ci z6).1; omega
        rw [if_pos e78]
        have W := ws_ok hc S0 h w hw hX hr ci z6 hp.1 hp.2 f1 (by rw [bi]; exact ca)
        rw [ei] at W
        exact step _ W.1 W.2.1 ⟨fun _ => W.2.2.1, W.2.2.2.1⟩ W.2.2.2.2
theorem WB.none {c : Nat} {S P : Int} {B : Int → Int} {s t : ST} (h : RR c S 0 P B s t) {b : Int} (e : gI t 91 b = -1) : ∀ x, CJ t S x → gI t 88 x = b → False := fun x hx eb => by
  have q := (h.2.2.2.2.2.2.1.2.2.2.2.1 x hx).2.2
  rw [eb] at q
  exact q e
set_option maxHeartbeats 4000000 in
theorem WB.step {c : Nat} {S P : Int} {B : Int → Int} {s t : ST} {EN FI EO BH TB : Int → Int} {n : Nat} {wb : ST → Int → Int → Int → ST × Int} (hc : c = 2 ∨ c = 18) (S0 : 0 ≤ S) (h : RR c S 0 P B s t) (w : WQ t S EN FI EO BH TB) (h128 : gI t 73 S ≤ 128) (hw : WB c S s t FI EO BH TB n wb) : WB c S s t FI EO BH TB (n + 1) (fun X l f a => gWB_ (gWS wb) (gWT wb) 403 a f l 0 X) := by
  intro X b f a p hX hr hb
  dsimp only
  obtain ⟨M, hM⟩ : ∃ M : Nat, M = 402 := ⟨402, rfl⟩
  rw [show (403 : Nat) = M + 1 by omega]
  have rs : s.2.2 48 1 = c := by rw [← hX.1]; exact hr
  rcases hb with hb | ⟨cb, hf, ca, it⟩
  · rw [hb, show lc t S (-1) = -1 from if_pos rfl, gWB_, if_neg (by omega), if_pos (by omega), if_pos rfl]
    refine ⟨rfl, PRS.rfl, fun i u => absurd u (UD.no S0 h.c88), hX⟩
  · have bn : ¬ b = -1 := by have := cb.1; omega
    have it' : ∀ i, CJ t S i → gI t 88 i = b → gI t 79 i = p ∧ gI t 80 i + n = 6 := fun i hi e => ⟨(it i hi e).1, by have := (it i hi e).2; omega⟩
    have k4 := h.2.2.2.1 b cb
    have fin : ∀ l, ((l = -1 ∧ f = en p (FI b) ∧ ∀ x, CJ t S x → gI t 88 x = b → DN c S t (GV c t S FI BH TB) n X x) ∨ (0 ≤ l ∧ CJ t S (130 * S + l) ∧ gI t 88 (130 * S + l) = b ∧ f = en p (BH (130 * S + l)) ∧ ∀ x, CJ t S x → gI t 88 x = b → 130 * S + l < x → DN c S t (GV c t S FI BH TB) n X x)) → l ≤ 127 → (gWB_ (gWS wb) (gWT wb) (M + 1) a f l 0 X).2 = en p (FI b) ∧ PRS c (GV c t S FI BH TB) X (gWB_ (gWS wb) (gWT wb) (M + 1) a f l 0 X).1 ∧ (∀ i, UD t S (n + 1) b i → ¬ gI t 77 i = 6 → ALLR c (GV c t S FI BH TB) (gWB_ (gWS wb) (gWT wb) (M + 1) a f l 0 X).1 (gI t 78 i)) ∧ WK c s (gWB_ (gWS wb) (gWT wb) (M + 1) a f l 0 X).1 := by
      intro l hl l1
      have R := wl_ok hc S0 h w hw rs cb it' (M + 1) X l f 0 hX ca hl (by omega) (by omega) (by omega)
      refine ⟨R.1, R.2.1, fun i u u6 => ?_, R.2.2.2⟩
      rcases u with u | ⟨j, j1, j2, u⟩
      · exact (R.2.2.1 i u.1 u.2).1 u6
      · exact (R.2.2.1 j j1 j2).2 i u u6
    rw [if_neg bn]
    unfold lc
    rw [if_neg bn]
    rcases k4 with z | z
    · rw [if_pos z.1]
      refine fin (-1) (Or.inl ⟨rfl, ?_, fun x hx e => absurd (WB.none h z.1 x hx e) (fun q => q)⟩) (by omega)
      rw [w.2.1 b cb, if_pos z.2]
      exact hf
    · have z1 := z.1.1
      have z2 := z.1.2
      rw [if_neg (show ¬ gI t 91 b = -1 by omega)]
      have ee : 130 * S + (gI t 91 b - 130 * S) = gI t 91 b := by omega
      refine fin _ (Or.inr ⟨by omega, by rw [ee]; exact z.1, by rw [ee]; exact z.2.1, ?_, fun x hx e lt => ?_⟩) (by omega)
      · rw [ee, w.2.2.2.1 _ z.1, if_pos z.2.2.1, z.2.1]
        exact hf
      · exfalso
        rw [ee] at lt
        exact (h.2.2.2.2.2.2.1.2.2.2.2.2.1 _ x z.1 hx (z.2.1.trans e.symm) lt).1 z.2.2.1
theorem WB.all {c : Nat} {S P : Int} {B : Int → Int} {s t : ST} {EN FI EO BH TB : Int → Int} (hc : c = 2 ∨ c = 18) (S0 : 0 ≤ S) (h : RR c S 0 P B s t) (w : WQ t S EN FI EO BH TB) (h128 : gI t 73 S ≤ 128) : ∀ n : Nat, WB c S s t FI EO BH TB n (gW n) := by
  intro n
  induction n with
  | zero =>
    intro X b f a p hX hr hb
    show f = _ ∧ PRS c _ X X ∧ (∀ i, UD t S 0 b i → ¬ gI t 77 i = 6 → ALLR c _ X (gI t 78 i)) ∧ WK c s X
    refine ⟨?_, PRS.rfl, fun i u => absurd u (fun z => z), hX⟩
    rcases hb with hb | ⟨cb, hf, ca, it⟩
    · rw [if_pos hb]
    · have bn : ¬ b = -1 := by have := cb.1; omega
      rw [if_neg bn, w.2.1 b cb]
      rcases h.2.2.2.1 b cb with z | z
      · rw [if_pos z.2]; exact hf
      · exfalso
        have q := (it _ z.1 z.2.1).2
        have q2 := (w.2.2.2.2.2.2.2 _ z.1).2
        omega
  | succ n ih => exact WB.step hc S0 h w h128 ih
/-- every item stands under the block of its procedure -/
theorem UD.all {c : Nat} {S P : Int} {B : Int → Int} {s t : ST} {EN FI EO BH TB : Int → Int} (S0 : 0 ≤ S) (h : RR c S 0 P B s t) (w : WQ t S EN FI EO BH TB) : ∀ (N : Nat) (i : Int), CJ t S i → i - 130 * S < N → UD t S ((gI t 80 i).toNat + 1) (gI t 94 (5 * S + gI t 79 i)) i ∧ 0 ≤ gI t 79 i ∧ gI t 79 i < P := by
  intro N
  induction N with
  | zero => intro i hi hN; have := hi.1; omega
  | succ N ih =>
    intro i hi hN
    have k := h.2.2.2.2.2.2.1.2.1 (i - 130 * S) (by have := hi.1; omega) (by have := hi.2; omega)
    rw [show 130 * S + (i - 130 * S) = i by omega] at k
    have d := w.2.2.2.2.2.2.1 i hi
    have d8 := (w.2.2.2.2.2.2.2 i hi).1
    rcases k with k | k
    · rcases k.2.2 with z | z
      · exact ⟨Or.inl ⟨hi, z.2.symm⟩, k.2.1, z.1⟩
      · have := z.2.1
        omega
    · rcases d with d | d
      · have := k.1.1
        omega
      · have q := ih _ k.1 (by omega)
        have d9 := (w.2.2.2.2.2.2.2 _ k.1).1
        rw [k.2.1] at q
        refine ⟨?_, q.2⟩
        rw [show (gI t 80 i).toNat + 1 = (gI t 80 (gI t 92 (gI t 88 i))).toNat + 1 + 1 by omega]
        refine UD.step ?_ hi q.1
        rcases k.2.2 with z | z | ⟨e, e1, e2, e3⟩
        · exact Or.inl z
        · exact Or.inr z
        · omega
theorem UD.seven {c : Nat} {S P : Int} {B : Int → Int} {s t : ST} {EN FI EO BH TB : Int → Int} (S0 : 0 ≤ S) (h : RR c S 0 P B s t) (w : WQ t S EN FI EO BH TB) (i : Int) (hi : CJ t S i) : UD t S 7 (gI t 94 (5 * S + gI t 79 i)) i ∧ 0 ≤ gI t 79 i ∧ gI t 79 i < P := by
  have q := UD.all S0 h w (i - 130 * S + 1).toNat i hi (by have := hi.1; omega)
  have d := w.2.2.2.2.2.2.2 i hi
  refine ⟨?_, q.2⟩
  have e := UD.le q.1 (6 - (gI t 80 i).toNat)
  rw [show (gI t 80 i).toNat + 1 + (6 - (gI t 80 i).toNat) = 7 by omega] at e
  exact e
/-- what wire does -/
def WD (c : Nat) (S P : Int) (t : ST) (FI BH TB : Int → Int) (X : ST) : Prop := (∀ k, 0 ≤ k → k < gI t 75 S → ALLR c (GV c t S FI BH TB) X k) ∧ (∀ p, 0 ≤ p → p < P → X.1 (c + 1) p.toNat = en p (FI (gI t 94 (5 * S + p))))
theorem wire_n {c : Nat} {S P : Int} {B : Int → Int} {s t : ST} {EN FI EO BH TB : Int → Int} (hc : c = 2 ∨ c = 18) (S0 : 0 ≤ S) (h : RR c S 0 P B s t) (w : WQ t S EN FI EO BH TB) (h128 : gI t 73 S ≤ 128) (hP : P = gI t 76 S) (rs : s.2.2 48 1 = c) : ∀ (N k : Nat) (l : Int) (X : ST), 0 ≤ l → l ≤ P → P - l < N → WK c s X → (∀ i, CJ t S i → ¬ gI t 77 i = 6 → gI t 79 i < l → ALLR c (GV c t S FI BH TB) X (gI t 78 i)) → (∀ p, 0 ≤ p → p < l → X.1 (c + 1) p.toNat = en p (FI (gI t 94 (5 * S + p)))) → WK c s (f_X6_wire_ N k l X) ∧ WD c S P t FI BH TB (f_X6_wire_ N k l X) := by
  intro N
  induction N with
  | zero => intro k l X _ _ hN; omega
  | succ N ih =>
    intro k l X l0 l1 hN hX ha hf
    have hr : X.2.2 48 1 = c := by rw [hX.1]; exact rs
    have x1 : X.1 c 1 = P := by
      rw [hX.g (by omega)]
      exact h.1.2.1.trans hP.symm
    obtain ⟨fin, kf⟩ : ∃ z, z = f_X6_wire_ (N + 1) k l X := ⟨_, rfl⟩
    rewrite [← kf]
    rewrite [f_X6_wire_] at kf
    have j1 := bd_e kf hr
    have j2 := bd_e j1 x1
    by_cases z : P ≤ l
    · have j3 := if_t j2 z
      rw [j3]
      refine ⟨hX, fun q q0 q1 => ?_, fun p p0 p1 => hf p p0 (by omega)⟩
      have k2 := h.2.1 q q0 q1
      have ci := k2.1
      have h6 : ¬ gI t 77 (gI t 93 (40 * S + q)) = 6 := fun y => by
        have ka := (h.2.2.1 (gI t 93 (40 * S + q) - 130 * S) (by have := ci.1; omega) (by have := ci.2; omega)).2.1
        unfold K3a at ka
        rw [show 130 * S + (gI t 93 (40 * S + q) - 130 * S) = gI t 93 (40 * S + q) by omega, k2.2.1] at ka
        rcases ka with v | v
        · omega
        · exact v.2.2.1 y
      have a := ha _ ci h6 (by have := (UD.seven S0 h w _ ci).2.2; omega)
      rw [k2.2.1] at a
      exact a
    · have j3 := if_f j2 z
      have k5 := h.2.2.2.2.1 l l0 (by omega)
      have e44 : X.1 44 l.toNat = lc t S (gI t 94 (5 * S + l)) := by rw [hX.g (by omega)]; exact k5.1
      have j4 := bd_e j3 e44
      have j5 := bd_e j4 hr
      rewrite [wb_0] at j5
      have eo : EO (gI t 94 (5 * S + l)) = -1 := by rw [w.2.2.1 _ k5.2.1, if_pos k5.2.2]
      have tb : TB (gI t 94 (5 * S + l)) = -1 := by rw [w.2.2.2.2.1 _ k5.2.1, if_pos k5.2.2]
      have W := WB.all hc S0 h w h128 7 X (gI t 94 (5 * S + l)) (40 + l) (-1) l hX hr (Or.inr ⟨k5.2.1, by rw [eo, en_1], Or.inl ⟨tb, rfl⟩, fun i hi e => by
        have k := h.2.2.2.2.2.2.1.2.1 (i - 130 * S) (by have := hi.1; omega) (by have := hi.2; omega)
        rw [show 130 * S + (i - 130 * S) = i by omega, e, k5.2.2] at k
        have d := w.2.2.2.2.2.2.1 i hi
        rw [e, k5.2.2] at d
        rcases k with k | k
        · rcases k.2.2 with y | y
          · have i9 := k.2.1
            have e9 : gI t 79 i = l := by
              rcases Int.lt_trichotomy (gI t 79 i) l with v | v | v
              · exact absurd y.2 (h.2.2.2.2.2.2.1.2.2.2.2.2.2.2.1 _ _ i9 v (by omega))
              · exact v
              · exact absurd y.2.symm (h.2.2.2.2.2.2.1.2.2.2.2.2.2.2.1 _ _ l0 v y.1)
            rcases d with d | d
            · exact ⟨e9, by omega⟩
            · have := d.1.1
              omega
          · have := y.2.1
            omega
        · have := k.1.1
          omega⟩)
      rw [if_neg (show ¬ gI t 94 (5 * S + l) = -1 by have := k5.2.1.1; omega)] at W
      have wl := WL.all hc 7 X (lc t S (gI t 94 (5 * S + l))) (40 + l) (-1) hr
      generalize gW 7 X (lc t S (gI t 94 (5 * S + l))) (40 + l) (-1) = r at W j5 wl
      obtain ⟨W1, W2, W3, W4⟩ := W
      rewrite [bd2_r] at j5
      have j6 := bd_e j5 rfl
      rw [j6]
      refine ih 7 (l + 1) _ (by omega) (by omega) (by omega) (W4.I (by omega)) (fun i hi h6 h9 => ?_) (fun p p0 p1 => ?_)
      · have n0 := (h.n78 i hi h6).1
        have a : ALLR c (GV c t S FI BH TB) r.1 (gI t 78 i) := by
          by_cases y : gI t 79 i = l
          · have u := (UD.seven S0 h w i hi).1
            rw [y] at u
            exact W3 i u h6
          · exact W2.all n0 (ha i hi h6 (by omega))
        unfold ALLR at a ⊢
        rw [sI_nc (p := c + 11) (by omega), sI_nc (p := c + 12) (by omega), sI_nc (p := c + 13) (by omega), sI_nc (p := c + 14) (by omega), sI_nc (p := c + 15) (by omega)]
        exact a
      · by_cases y : p = l
        · rw [y, sI_eq]
          exact W1
        · rw [sI_ne (p := c + 1) (by omega)]
          have e1 : r.1.1 (c + 1) p.toNat = X.1 (c + 1) p.toNat := by rw [wl.2 (c + 1) (by omega) (by omega) (by omega) (by omega) (by omega) (by omega) (by omega)]
          rw [e1]
          exact hf p p0 (by omega)

