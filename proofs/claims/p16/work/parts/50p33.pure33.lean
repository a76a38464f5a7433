/-! one walk through a procedure -/
def clA (t : ST) (S : Int) (FI BH TB : Int → Int) (R T C : Int → Prop) : Prop := ∀ k e v, 0 ≤ k → k < gI t 75 S → C k → ED t FI BH TB R T (gI t 93 (40 * S + k)) e v → 0 ≤ v → C v
def CTA (t : ST) (S : Int) (FI BH TB : Int → Int) (R T : Int → Prop) (p th : Int) : Prop := (FI (gI t 94 (5 * S + p)) = -1 ∧ th = 0) ∨ (0 ≤ FI (gI t 94 (5 * S + p)) ∧ ∀ C : Int → Prop, clA t S FI BH TB R T C → C (FI (gI t 94 (5 * S + p))) → ∃ k e, 0 ≤ k ∧ k < gI t 75 S ∧ C k ∧ ED t FI BH TB R T (gI t 93 (40 * S + k)) e (-1) ∧ ((th = 1 ∧ TW t TB (gI t 93 (40 * S + k)) e) ∨ (th = 0 ∧ ¬ TW t TB (gI t 93 (40 * S + k)) e)))
/-- nothing more is to be set -/
def PFX (t : ST) (S P : Int) (FI BH TB : Int → Int) (R T : Int → Prop) : Prop := ∀ p, 0 ≤ p → p < P → (CTA t S FI BH TB R T p 0 → R p) ∧ (CTA t S FI BH TB R T p 1 → T p)
def JJ (t : ST) (S : Int) (FI : Int → Int) (p : Int) (r : Int64) : Prop := (∀ j, 0 ≤ j → bt r j → (j < gI t 75 S ∧ HA t (fun x => bt r x) (gI t 93 (40 * S + j)) ∧ gI t 79 (gI t 93 (40 * S + j)) = p) ∨ j = 40 + p) ∧ bt r (en p (FI (gI t 94 (5 * S + p))))
theorem add_ok {c : Nat} {S P : Int} {B : Int → Int} {s t X : ST} {EN FI EO BH TB : Int → Int} (h : TT c S P B s t EN FI EO BH TB) {R T : Int → Prop} {p k e v : Int} {r : Int64} (p0 : 0 ≤ p) (p1 : p < P) (k0 : 0 ≤ k) (k1 : k < gI t 75 S) (J : JJ t S FI p r) (hk : bt r k) (d : ED t FI BH TB R T (gI t 93 (40 * S + k)) e v) : gI t 79 (gI t 93 (40 * S + k)) = p ∧ JJ t S FI p (o_lor r (f_X7_bit X (en p v))) ∧ (∀ j, bt r j → bt (o_lor r (f_X7_bit X (en p v))) j) ∧ (∀ j, 0 ≤ j → j ≤ k → bt (o_lor r (f_X7_bit X (en p v))) j → bt r j) ∧ bt (o_lor r (f_X7_bit X (en p v))) (en p v) ∧ (v = -1 ∨ (0 ≤ v ∧ v < gI t 75 S)) := by
  have k40 : gI t 75 S ≤ 40 := h.1.1.2.2.2.2.1
  have P5 := h.2.2.2.2.2.2.2.1
  have it := h.it k0 k1
  have jk := J.1 k k0 hk
  have jk' : HA t (fun x => bt r x) (gI t 93 (40 * S + k)) ∧ gI t 79 (gI t 93 (40 * S + k)) = p := by
    rcases jk with z | z
    · exact z.2
    · omega
  have tg := ED.tg h (Q := fun x => bt r x) it.1 jk'.1 (by rw [it.2.1]; exact hk) d
  rw [jk'.2] at tg
  have rg : (v = -1 ∧ en p v = 40 + p) ∨ (0 ≤ v ∧ v < gI t 75 S ∧ en p v = v) := by
    rcases tg.1 with z | z
    · exact Or.inl ⟨z, by rw [z]; exact en_1⟩
    · exact Or.inr ⟨z.1, z.2.1, en_n (by have := z.1; omega)⟩
  have u0 : 0 ≤ en p v ∧ en p v ≤ 63 := by omega
  have bits : ∀ j, 0 ≤ j → (bt (o_lor r (f_X7_bit X (en p v))) j ↔ bt r j ∨ j = en p v) := fun j hj => by rw [lor_r, bit_r u0.1 u0.2 hj]
  have sub : ∀ j, bt r j → bt (o_lor r (f_X7_bit X (en p v))) j := fun j z => lor_r.mpr (Or.inl z)
  refine ⟨jk'.2, ⟨fun j hj z => ?_, sub _ J.2⟩, sub, fun j hj le z => ?_, (bits _ u0.1).mpr (Or.inr rfl), ?_⟩
  · rcases (bits j hj).mp z with y | y
    · rcases J.1 j hj y with x | x
      · exact Or.inl ⟨x.1, x.2.1.mono sub, x.2.2⟩
      · exact Or.inr x
    · rcases rg with x | x
      · exact Or.inr (by omega)
      · left
        rw [x.2.2] at y
        rw [y]
        refine ⟨x.2.1, ?_, ?_⟩
        · rcases tg.1 with q | q
          · omega
          · exact q.2.2.1.mono sub
        · rcases tg.2 with q | q
          · omega
          · exact q
  · rcases (bits j hj).mp z with y | y
    · exact y
    · rcases rg with x | x
      · omega
      · rw [x.2.2] at y
        rcases tg.1 with q | q
        · omega
        · rcases q.2.2.2 with w | w
          · rw [y]; exact w
          · exfalso
            have iv := h.it x.1 x.2.1
            have lt := h.1.2.2.2.2.2.2.1.2.2.2.2.2.2.2.2.1 _ _ it.1 iv.1 it.2.2 iv.2.2 w
            rw [it.2.1, iv.2.1] at lt
            omega
  · omega
/-- what is reached lies in each closed set -/
def RCA (t : ST) (S : Int) (FI BH TB : Int → Int) (R T : Int → Prop) (p : Int) (r : Int64) : Prop := (∀ C : Int → Prop, clA t S FI BH TB R T C → (0 ≤ FI (gI t 94 (5 * S + p)) → C (FI (gI t 94 (5 * S + p)))) → ∀ j, 0 ≤ j → j < gI t 75 S → bt r j → C j) ∧ (bt r (40 + p) → CTA t S FI BH TB R T p 0)
theorem RCA.hit {t : ST} {S : Int} {FI BH TB : Int → Int} {R T : Int → Prop} {p k e th : Int} {r : Int64} (h : RCA t S FI BH TB R T p r) (k0 : 0 ≤ k) (k1 : k < gI t 75 S) (hk : bt r k) (d : ED t FI BH TB R T (gI t 93 (40 * S + k)) e (-1)) (w : (th = 1 ∧ TW t TB (gI t 93 (40 * S + k)) e) ∨ (th = 0 ∧ ¬ TW t TB (gI t 93 (40 * S + k)) e)) : CTA t S FI BH TB R T p th := by
  have e0 : 0 ≤ FI (gI t 94 (5 * S + p)) := by
    by_cases z : 0 ≤ FI (gI t 94 (5 * S + p))
    · exact z
    · exact absurd (h.1 (fun _ => False) (fun _ _ _ _ _ q _ _ => q) (fun y => absurd y z) k k0 k1 hk) (fun q => q)
  exact Or.inr ⟨e0, fun C hc c0 => ⟨k, e, k0, k1, h.1 C hc (fun _ => c0) k k0 k1 hk, d, w⟩⟩
theorem RCA.add {c : Nat} {S P : Int} {B : Int → Int} {s t X : ST} {EN FI EO BH TB : Int → Int} (h : TT c S P B s t EN FI EO BH TB) {R T : Int → Prop} {p k e v : Int} {r : Int64} (p0 : 0 ≤ p) (p1 : p < P) (k0 : 0 ≤ k) (k1 : k < gI t 75 S) (rc : RCA t S FI BH TB R T p r) (hk : bt r k) (d : ED t FI BH TB R T (gI t 93 (40 * S + k)) e v) (nt : ¬ TW t TB (gI t 93 (40 * S + k)) e) (vr : v = -1 ∨ (0 ≤ v ∧ v < gI t 75 S)) : RCA t S FI BH TB R T p (o_lor r (f_X7_bit X (en p v))) := by
  have k40 : gI t 75 S ≤ 40 := h.1.1.2.2.2.2.1
  have P5 := h.2.2.2.2.2.2.2.1
  rcases vr with vr | vr
  · have e1 : en p v = 40 + p := by rw [vr]; exact en_1
    have bits : ∀ j, 0 ≤ j → (bt (o_lor r (f_X7_bit X (en p v))) j ↔ bt r j ∨ j = en p v) := fun j hj => by rw [lor_r, bit_r (by omega) (by omega) hj]
    refine ⟨fun C hc c0 j j0 j1 z => ?_, fun _ => ?_⟩
    · rcases (bits j j0).mp z with y | y
      · exact rc.1 C hc c0 j j0 j1 y
      · omega
    · rw [vr] at d
      exact rc.hit k0 k1 hk d (Or.inr ⟨rfl, nt⟩)
  · have e1 : en p v = v := en_n (by omega)
    have bits : ∀ j, 0 ≤ j → (bt (o_lor r (f_X7_bit X (en p v))) j ↔ bt r j ∨ j = en p v) := fun j hj => by rw [lor_r, bit_r (by omega) (by omega) hj]
    refine ⟨fun C hc c0 j j0 j1 z => ?_, fun z => ?_⟩
    · rcases (bits j j0).mp z with y | y
      · exact rc.1 C hc c0 j j0 j1 y
      · rw [y, e1]
        exact hc k e v k0 k1 (rc.1 C hc c0 k k0 k1 hk) d vr.1
    · rcases (bits _ (by omega)).mp z with y | y
      · exact rc.2 y
      · omega
theorem walk_e {n m : Nat} {c : Nat} {p k : Int} {r : Int64} {X : ST} (hk : X.1 c 0 ≤ k) : f_X0_walk_ (n + 1) m c p r k X = if f_X7_has X r (40 + p) = 0 then X else sI X c 3 (o_ior (X.1 c 3) (o_ishl 1 p)) := by
  rw [f_X0_walk_]
  repeat rewrite [bd_r]
  rw [if_pos hk]
def wR (X : ST) (c : Nat) (r : Int64) (k : Int) : Int64 := if f_X0_goesStraight X c k = 0 then r else o_lor r (f_X7_bit X (X.1 (c + 12) k.toNat))
theorem walk_s {n m : Nat} {c : Nat} {p k : Int} {r : Int64} {X : ST} (hk : ¬ X.1 c 0 ≤ k) : f_X0_walk_ (n + 1) m c p r k X = if f_X7_has X r k = 0 then f_X0_walk_ n 13 c p r (k + 1) X else if f_X0_escapes X c k = 0 then (if f_X0_decides X c k = 0 then f_X0_walk_ n 13 c p (wR X c r k) (k + 1) X else f_X0_walk_ n 13 c p (o_lor (wR X c r k) (f_X7_bit X (X.1 (c + 13) k.toNat))) (k + 1) X) else f_X0_walk_ n 13 c p (wR X c r k) (k + 1) (sI X c 4 (o_ior (X.1 c 4) (o_ishl 1 p))) := by
  rw [f_X0_walk_]
  repeat rewrite [bd_r]
  rw [if_neg hk]
  unfold wR
  by_cases a : f_X7_has X r k = 0
  · rw [if_neg (fun q => q a), if_pos a]
  · rw [if_pos a, if_neg a]
    by_cases g : f_X0_goesStraight X c k = 0
    · rw [if_pos g, if_pos g]
    · rw [if_neg g, if_neg g]
/-- what a walk changes -/
def KF (c : Nat) (P : Int) (X Y : ST) : Prop := Y.2 = X.2 ∧ (∀ q j, ¬ (q = c ∧ (j = 3 ∨ j = 4)) → Y.1 q j = X.1 q j) ∧ (∀ q, 0 ≤ q → q < 5 → (FB (X.1 c 3) q → FB (Y.1 c 3) q) ∧ (FB (X.1 c 4) q → FB (Y.1 c 4) q)) ∧ (∀ q, P ≤ q → q < 5 → 0 ≤ q → (FB (Y.1 c 3) q → FB (X.1 c 3) q) ∧ (FB (Y.1 c 4) q → FB (X.1 c 4) q))
theorem KF.rfl {c : Nat} {P : Int} {X : ST} : KF c P X X := ⟨_root_.rfl, fun _ _ _ => _root_.rfl, fun _ _ _ => ⟨fun z => z, fun z => z⟩, fun _ _ _ _ => ⟨fun z => z, fun z => z⟩⟩
theorem KF.tr {c : Nat} {P : Int} {X Y Z : ST} (a : KF c P X Y) (b : KF c P Y Z) : KF c P X Z := ⟨b.1.trans a.1, fun q j z => (b.2.1 q j z).trans (a.2.1 q j z), fun q h0 h1 => ⟨fun z => (b.2.2.1 q h0 h1).1 ((a.2.2.1 q h0 h1).1 z), fun z => (b.2.2.1 q h0 h1).2 ((a.2.2.1 q h0 h1).2 z)⟩, fun q h0 h1 h2 => ⟨fun z => (a.2.2.2 q h0 h1 h2).1 ((b.2.2.2 q h0 h1 h2).1 z), fun z => (a.2.2.2 q h0 h1 h2).2 ((b.2.2.2 q h0 h1 h2).2 z)⟩⟩
theorem CS.kf {c : Nat} {S P : Int} {t X Y : ST} {FI BH TB : Int → Int} (hc : c = 2 ∨ c = 18) (x : CS c S P t FI BH TB X) (k : KF c P X Y) (f3 : 0 ≤ Y.1 c 3 ∧ Y.1 c 3 < 32) (f4 : 0 ≤ Y.1 c 4 ∧ Y.1 c 4 < 32) : CS c S P t FI BH TB Y := by
  obtain ⟨a1, a2, a3, a4, _, _⟩ := x
  have e := k.2.1
  refine ⟨by rw [e c 0 (by omega)]; exact a1, by rw [e c 1 (by omega)]; exact a2, fun j h0 h1 => ?_, fun p h0 h1 => by rw [e (c + 1) _ (by omega)]; exact a4 p h0 h1, f3, f4⟩
  rw [e (c + 2) _ (by omega), e (c + 7) _ (by omega), e (c + 12) _ (by omega), e (c + 13) _ (by omega), e (c + 14) _ (by omega)]
  exact a3 j h0 h1
theorem KF.w {c : Nat} {S P p : Int} {t X : ST} {FI BH TB : Int → Int} (hc : c = 2 ∨ c = 18) (x : CS c S P t FI BH TB X) (P5 : P ≤ 5) (p0 : 0 ≤ p) (p1 : p < P) : (KF c P X (sI X c 3 (o_ior (X.1 c 3) (o_ishl 1 p))) ∧ CS c S P t FI BH TB (sI X c 3 (o_ior (X.1 c 3) (o_ishl 1 p))) ∧ (sI X c 3 (o_ior (X.1 c 3) (o_ishl 1 p))).1 c 3 = o_ior (X.1 c 3) (o_ishl 1 p) ∧ (sI X c 3 (o_ior (X.1 c 3) (o_ishl 1 p))).1 c 4 = X.1 c 4) ∧ (KF c P X (sI X c 4 (o_ior (X.1 c 4) (o_ishl 1 p))) ∧ CS c S P t FI BH TB (sI X c 4 (o_ior (X.1 c 4) (o_ishl 1 p))) ∧ (sI X c 4 (o_ior (X.1 c 4) (o_ishl 1 p))).1 c 4 = o_ior (X.1 c 4) (o_ishl 1 p) ∧ (sI X c 4 (o_ior (X.1 c 4) (o_ishl 1 p))).1 c 3 = X.1 c 3) := by
  have b3 := x.2.2.2.2.1
  have b4 := x.2.2.2.2.2
  have o3 := or_r b3.1 b3.2 p0 (by omega)
  have o4 := or_r b4.1 b4.2 p0 (by omega)
  have a3 : (sI X c 3 (o_ior (X.1 c 3) (o_ishl 1 p))).1 c 3 = o_ior (X.1 c 3) (o_ishl 1 p) := sI_eq _ _ _ _
  have a4 : (sI X c 3 (o_ior (X.1 c 3) (o_ishl 1 p))).1 c 4 = X.1 c 4 := sI_ne (by omega)
  have d4 : (sI X c 4 (o_ior (X.1 c 4) (o_ishl 1 p))).1 c 4 = o_ior (X.1 c 4) (o_ishl 1 p) := sI_eq _ _ _ _
  have d3 : (sI X c 4 (o_ior (X.1 c 4) (o_ishl 1 p))).1 c 3 = X.1 c 3 := sI_ne (by omega)
  have k3 : KF c P X (sI X c 3 (o_ior (X.1 c 3) (o_ishl 1 p))) := by
    refine ⟨_root_.rfl, fun q j z => sI_ne (by omega), fun q h0 h1 => ?_, fun q h0 h1 h2 => ?_⟩
    · rw [a3, a4]
      exact ⟨fun z => (o3.2.2 q h0 h1).mpr (Or.inl z), fun z => z⟩
    · rw [a3, a4]
      exact ⟨fun z => by rcases (o3.2.2 q h2 h1).mp z with y | y; (exact y); (omega), fun z => z⟩
  have k4 : KF c P X (sI X c 4 (o_ior (X.1 c 4) (o_ishl 1 p))) := by
    refine ⟨_root_.rfl, fun q j z => sI_ne (by omega), fun q h0 h1 => ?_, fun q h0 h1 h2 => ?_⟩
    · rw [d3, d4]
      exact ⟨fun z => z, fun z => (o4.2.2 q h0 h1).mpr (Or.inl z)⟩
    · rw [d3, d4]
      exact ⟨fun z => z, fun z => by rcases (o4.2.2 q h2 h1).mp z with y | y; (exact y); (omega)⟩
  exact ⟨⟨k3, x.kf hc k3 (by rw [a3]; exact ⟨o3.1, o3.2.1⟩) (by rw [a4]; exact b4), a3, a4⟩, ⟨k4, x.kf hc k4 (by rw [d3]; exact b3) (by rw [d4]; exact ⟨o4.1, o4.2.1⟩), d4, d3⟩⟩

