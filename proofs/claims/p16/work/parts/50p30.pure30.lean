/-! where ways lead: an induction along them -/
def XG (t : ST) (S i x : Int) : Prop := i ≤ x ∧ x < 130 * S + gI t 73 S ∧ (∀ k, i < k → k ≤ x → gI t 80 i < gI t 80 k) ∧ CJ t S i
def TXR (t : ST) (S : Int) : Prop := (∀ i, CJ t S i → gI t 87 i = -1 ∨ (i < gI t 87 i ∧ CJ t S (gI t 87 i) ∧ gI t 88 (gI t 87 i) = gI t 88 i)) ∧ (∀ i, CJ t S i → CB t S (gI t 88 i) ∧ ((gI t 92 (gI t 88 i) = -1 ∧ gI t 80 i = 0) ∨ (CJ t S (gI t 92 (gI t 88 i)) ∧ gI t 92 (gI t 88 i) < i ∧ gI t 80 (gI t 92 (gI t 88 i)) + 1 = gI t 80 i ∧ ∀ k, gI t 92 (gI t 88 i) < k → k ≤ i → gI t 80 i ≤ gI t 80 k))) ∧ (∀ b, CB t S b → (gI t 90 b = -1 ∨ (CJ t S (gI t 90 b) ∧ gI t 88 (gI t 90 b) = b)) ∧ (gI t 92 b = -1 ∨ CJ t S (gI t 92 b))) ∧ (∀ i, CJ t S i → (gI t 85 i = -1 ∨ (CB t S (gI t 85 i) ∧ gI t 92 (gI t 85 i) = i)) ∧ (gI t 86 i = -1 ∨ (CB t S (gI t 86 i) ∧ gI t 92 (gI t 86 i) = i))) ∧ (∀ i, CJ t S i → (gI t 77 i = 6 → ¬ gI t 85 i = -1 ∧ ¬ gI t 86 i = -1) ∧ (gI t 77 i = 2 ∨ gI t 77 i = 3 → ¬ gI t 85 i = -1)) ∧ (∀ i, CJ t S i → 0 ≤ gI t 80 i ∧ gI t 80 i ≤ 6)
theorem XG.self {t : ST} {S i : Int} (h : CJ t S i) : XG t S i i := ⟨Int.le_refl _, h.2, fun k h1 h2 => by omega, h⟩
theorem XG.up {t : ST} {S i x : Int} (T : TXR t S) (hi : CJ t S i) (h : XG t S i x) : gI t 92 (gI t 88 i) = -1 ∨ (CJ t S (gI t 92 (gI t 88 i)) ∧ XG t S (gI t 92 (gI t 88 i)) x ∧ gI t 80 (gI t 92 (gI t 88 i)) + 1 = gI t 80 i) := by
  rcases (T.2.1 i hi).2 with q | ⟨q1, q2, q3, q4⟩
  · exact Or.inl q.1
  · refine Or.inr ⟨q1, ⟨by have := h.1; omega, h.2.1, fun k h1 h2 => ?_, q1⟩, q3⟩
    by_cases e : k ≤ i
    · have := q4 k h1 e; omega
    · have := h.2.2.1 k (by omega) h2; omega
theorem XG.next {t : ST} {S i x : Int} (S0 : 0 ≤ S) (T : TXR t S) (hi : CJ t S i) (h : XG t S i x) (hn : ¬ gI t 87 i = -1) : CJ t S (gI t 87 i) ∧ x < gI t 87 i ∧ gI t 80 (gI t 87 i) = gI t 80 i := by
  rcases T.1 i hi with q | ⟨q1, q2, q3⟩
  · exact absurd q hn
  · have e : gI t 80 (gI t 87 i) = gI t 80 i := by
      have a := (T.2.1 i hi).2
      have b := (T.2.1 _ q2).2
      rw [q3] at b
      rcases a with a | a <;> rcases b with b | b
      · omega
      · have := b.1.1; have := b.2.1; omega
      · have := a.2.2.1; have := b.1; have := a.1.1; omega
      · have := a.2.2.1; have := b.2.2.1; omega
    refine ⟨q2, ?_, e⟩
    by_cases c : gI t 87 i ≤ x
    · have := h.2.2.1 _ q1 c; omega
    · omega
theorem mw_n {t : ST} {S : Int} (S0 : 0 ≤ S) (T : TXR t S) (h73 : 0 ≤ gI t 73 S) {PE PF : Int → Prop} {PO PB : Int → Int → Prop} (HE : ∀ i, CJ t S i → (gI t 77 i = 6 → PF (gI t 85 i)) → PE i) (HF : ∀ b, CB t S b → (gI t 90 b = -1 → ∀ x, (gI t 92 b = -1 ∨ XG t S (gI t 92 b) x) → PO b x) → (¬ gI t 90 b = -1 → PE (gI t 90 b)) → PF b) (HO : ∀ b x, CB t S b → (gI t 92 b = -1 ∨ XG t S (gI t 92 b) x) → (¬ gI t 92 b = -1 → ¬ gI t 77 (gI t 92 b) = 3 → PB (gI t 92 b) x) → PO b x) (HB : ∀ i x, CJ t S i → XG t S i x → (gI t 87 i = -1 → PO (gI t 88 i) x) → (¬ gI t 87 i = -1 → PE (gI t 87 i)) → PB i x) : ∀ n : Nat, (∀ i, CJ t S i → 4 * (130 * S + gI t 73 S - i) + 2 * gI t 80 i + 4 ≤ (n : Int) → PE i) ∧ (∀ b, CB t S b → (gI t 92 b = -1 → 4 * gI t 73 S + 5 ≤ (n : Int)) → (0 ≤ gI t 92 b → 4 * (130 * S + gI t 73 S - gI t 92 b) + 2 * gI t 80 (gI t 92 b) + 3 ≤ (n : Int)) → PF b) ∧ (∀ b x, CB t S b → ((gI t 92 b = -1 ∧ 1 ≤ (n : Int)) ∨ (XG t S (gI t 92 b) x ∧ 4 * (130 * S + gI t 73 S - x) + 2 * gI t 80 (gI t 92 b) + 2 ≤ (n : Int))) → PO b x) ∧ (∀ i x, CJ t S i → XG t S i x → 4 * (130 * S + gI t 73 S - x) + 2 * gI t 80 i + 1 ≤ (n : Int) → PB i x) := by
  obtain ⟨x1, x2, x3, x4, x5, x6⟩ := T
  have T : TXR t S := ⟨x1, x2, x3, x4, x5, x6⟩
  intro n
  induction n with
  | zero =>
    refine ⟨fun i hi hm => ?_, fun b hb h1 h2 => ?_, fun b x hb hx => ?_, fun i x hi hx hm => ?_⟩
    · exfalso
      have := hi.2
      have := (x6 i hi).1
      omega
    · exfalso
      rcases (x3 b hb).2 with z | z
      · have := h1 z; omega
      · have := z.2
        have := (x6 _ z).1
        have := z.1
        have := h2 (by omega)
        omega
    · exfalso
      rcases hx with hx | hx
      · have := hx.2; omega
      · have q1 := hx.1.2.1
        have w2 := hx.2
        rcases (x3 b hb).2 with z | z
        · have := hx.1.2.2.2.1
          omega
        · have := (x6 _ z).1
          omega
    · exfalso
      have := hx.2.1
      have := (x6 i hi).1
      omega
  | succ n ih =>
    obtain ⟨hE, hF, hN, hB⟩ := ih
    refine ⟨fun i hi hm => ?_, fun b hb h1 h2 => ?_, fun b x hb hx => ?_, fun i x hi hx hm => ?_⟩
    · refine HE i hi (fun k => ?_)
      have b0 := ((x5 i hi).1 k).1
      have i0 := hi.1
      rcases (x4 i hi).1 with t4 | t4
      · exact absurd t4 b0
      · exact hF _ t4.1 (fun q => by rw [t4.2] at q; omega) (fun _ => by rw [t4.2]; omega)
    · refine HF b hb (fun k x hx => ?_) (fun k => ?_)
      · refine hN b x hb ?_
        rcases (x3 b hb).2 with z | z
        · exact Or.inl ⟨z, by have := h1 z; omega⟩
        · rcases hx with y | y
          · have := z.1; omega
          · exact Or.inr ⟨y, by have z1 := z.1; have := h2 (by omega); have := y.1; omega⟩
      · rcases (x3 b hb).1 with z | z
        · exact absurd z k
        · have t2 := (x2 _ z.1).2
          rw [z.2] at t2
          have f1 := z.1.1
          have f2 := z.1.2
          refine hE _ z.1 ?_
          rcases t2 with y | y
          · have := h1 y.1; omega
          · have := y.1.1; have := h2 (by omega); omega
    · refine HO b x hb (by rcases hx with z | z; (exact Or.inl z.1); (exact Or.inr z.1)) (fun k _ => ?_)
      rcases (x3 b hb).2 with z | z
      · exact absurd z k
      · rcases hx with hx | hx
        · exact absurd hx.1 k
        · exact hB _ x z hx.1 (by have := hx.2; omega)
    · refine HB i x hi hx (fun k => ?_) (fun k => ?_)
      · have up := XG.up T hi hx
        refine hN _ x (x2 i hi).1 ?_
        rcases up with z | z
        · exact Or.inl ⟨z, by have := hx.2.1; have := (x6 i hi).1; omega⟩
        · exact Or.inr ⟨z.2.1, by have := z.2.2; omega⟩
      · have nx := XG.next S0 T hi hx k
        exact hE _ nx.1 (by have := nx.2.1; have := nx.2.2; omega)
theorem mw_ind {t : ST} {S : Int} (S0 : 0 ≤ S) (T : TXR t S) (h73 : 0 ≤ gI t 73 S) {PE PF : Int → Prop} {PO PB : Int → Int → Prop} (HE : ∀ i, CJ t S i → (gI t 77 i = 6 → PF (gI t 85 i)) → PE i) (HF : ∀ b, CB t S b → (gI t 90 b = -1 → ∀ x, (gI t 92 b = -1 ∨ XG t S (gI t 92 b) x) → PO b x) → (¬ gI t 90 b = -1 → PE (gI t 90 b)) → PF b) (HO : ∀ b x, CB t S b → (gI t 92 b = -1 ∨ XG t S (gI t 92 b) x) → (¬ gI t 92 b = -1 → ¬ gI t 77 (gI t 92 b) = 3 → PB (gI t 92 b) x) → PO b x) (HB : ∀ i x, CJ t S i → XG t S i x → (gI t 87 i = -1 → PO (gI t 88 i) x) → (¬ gI t 87 i = -1 → PE (gI t 87 i)) → PB i x) : (∀ i, CJ t S i → PE i) ∧ (∀ b, CB t S b → PF b) ∧ (∀ b x, CB t S b → (gI t 92 b = -1 ∨ XG t S (gI t 92 b) x) → PO b x) ∧ (∀ i x, CJ t S i → XG t S i x → PB i x) := by
  obtain ⟨hE, hF, hN, hB⟩ := mw_n S0 T h73 HE HF HO HB (4 * gI t 73 S + 30).toNat
  have x6 := T.2.2.2.2.2
  have x3 := T.2.2.1
  refine ⟨fun i hi => hE i hi ?_, fun b hb => hF b hb (fun _ => by omega) (fun z => ?_), fun b x hb hx => hN b x hb ?_, fun i x hi hx => hB i x hi hx ?_⟩
  · have := hi.1; have := (x6 i hi).2; omega
  · rcases (x3 b hb).2 with y | y
    · omega
    · have := y.1; have := (x6 _ y).2; omega
  · rcases (x3 b hb).2 with y | y
    · exact Or.inl ⟨y, by omega⟩
    · rcases hx with z | z
      · have := y.1; omega
      · exact Or.inr ⟨z, by have := y.1; have := (x6 _ y).2; have := z.1; omega⟩
  · have := hi.1; have := (x6 i hi).2; have := hx.1; omega
/-! all loops around are reached -/
def HL (t : ST) (R : Int → Prop) : Nat → Int → Prop
  | 0, _ => True
  | n + 1, i => gI t 92 (gI t 88 i) = -1 ∨ ((gI t 77 (gI t 92 (gI t 88 i)) = 3 → R (gI t 78 (gI t 92 (gI t 88 i)))) ∧ HL t R n (gI t 92 (gI t 88 i)))
def HA (t : ST) (R : Int → Prop) (i : Int) : Prop := ∀ n, HL t R n i
def HK (t : ST) (R : Int → Prop) (b : Int) : Prop := gI t 92 b = -1 ∨ ((gI t 77 (gI t 92 b) = 3 → R (gI t 78 (gI t 92 b))) ∧ HA t R (gI t 92 b))
theorem HA.k {t : ST} {R : Int → Prop} {i : Int} (h : HA t R i) : HK t R (gI t 88 i) := by
  by_cases z : gI t 92 (gI t 88 i) = -1
  · exact Or.inl z
  · refine Or.inr ⟨?_, fun n => ?_⟩
    · rcases h 1 with q | q
      · exact absurd q z
      · exact q.1
    · rcases h (n + 1) with q | q
      · exact absurd q z
      · exact q.2
theorem HK.a {t : ST} {R : Int → Prop} {i : Int} (h : HK t R (gI t 88 i)) : HA t R i := by
  intro n
  cases n with
  | zero => exact True.intro
  | succ n =>
    rcases h with z | z
    · exact Or.inl z
    · exact Or.inr ⟨z.1, z.2 n⟩
theorem HA.mono {t : ST} {R R' : Int → Prop} (m : ∀ v, R v → R' v) {i : Int} (h : HA t R i) : HA t R' i := by
  intro n
  have g : ∀ (n : Nat) (i : Int), HL t R n i → HL t R' n i := by
    intro n
    induction n with
    | zero => intro i _; exact True.intro
    | succ n ih =>
      intro i h
      rcases h with z | z
      · exact Or.inl z
      · exact Or.inr ⟨fun q => m _ (z.1 q), ih _ z.2⟩
  exact g n i (h n)
/-- a way leads on, or back to a loop that was reached -/
def TG (t : ST) (S : Int) (R : Int → Prop) (x v : Int) : Prop := v = -1 ∨ (0 ≤ v ∧ v < gI t 75 S ∧ HA t R (gI t 93 (40 * S + v)) ∧ (R v ∨ x < gI t 93 (40 * S + v)))
theorem TG.le {t : ST} {S : Int} {R : Int → Prop} {x y v : Int} (h : TG t S R y v) (l : x ≤ y) : TG t S R x v := by
  rcases h with h | h
  · exact Or.inl h
  · refine Or.inr ⟨h.1, h.2.1, h.2.2.1, ?_⟩
    rcases h.2.2.2 with z | z
    · exact Or.inl z
    · exact Or.inr (by omega)
theorem TG.all {c : Nat} {S P : Int} {B : Int → Int} {s t : ST} {EN FI EO BH TB : Int → Int} (S0 : 0 ≤ S) (h : RR c S 0 P B s t) (w : WQ t S EN FI EO BH TB) (T : TXR t S) (R : Int → Prop) : (∀ i, CJ t S i → HA t R i → ∀ x, x < i → TG t S R x (EN i)) ∧ (∀ b, CB t S b → HK t R b → ∀ x, (gI t 92 b = -1 ∨ XG t S (gI t 92 b) x) → (∀ y, CJ t S y → gI t 88 y = b → x < y) → TG t S R x (FI b)) ∧ (∀ b x, CB t S b → (gI t 92 b = -1 ∨ XG t S (gI t 92 b) x) → HK t R b → TG t S R x (EO b)) ∧ (∀ i x, CJ t S i → XG t S i x → HA t R i → TG t S R x (BH i)) := by
  have h73 : 0 ≤ gI t 73 S := h.1.2.2.2.2.2.1
  have w1 := w.1
  have w2 := w.2.1
  have w3 := w.2.2.1
  have w4 := w.2.2.2.1
  have own : ∀ i y, CJ t S i → CJ t S y → gI t 92 (gI t 88 y) = i → i < y := fun i y hi hy e => by
    rcases (T.2.1 y hy).2 with z | z
    · have := hi.1; omega
    · have := z.2.1; omega
  refine mw_ind (PE := fun i => HA t R i → ∀ x, x < i → TG t S R x (EN i)) (PF := fun b => HK t R b → ∀ x, (gI t 92 b = -1 ∨ XG t S (gI t 92 b) x) → (∀ y, CJ t S y → gI t 88 y = b → x < y) → TG t S R x (FI b)) (PO := fun b x => HK t R b → TG t S R x (EO b)) (PB := fun i x => HA t R i → TG t S R x (BH i)) S0 T h73 ?_ ?_ ?_ ?_
  · intro i hi k ha x lt
    rw [w1 i hi]
    by_cases z : gI t 77 i = 6
    · rw [if_pos z]
      have b0 := ((T.2.2.2.2.1 i hi).1 z).1
      rcases (T.2.2.2.1 i hi).1 with y | y
      · exact absurd y b0
      · have q := k z (Or.inr ⟨by rw [y.2, z]; omega, by rw [y.2]; exact ha⟩) i (Or.inr (by rw [y.2]; exact XG.self hi)) (fun y' hy e => own i y' hi hy (by rw [e]; exact y.2))
        exact q.le (by omega)
    · rw [if_neg z]
      have n := h.n78 i hi z
      refine Or.inr ⟨n.1, n.2.1, ?_, Or.inr ?_⟩
      · rw [n.2.2]; exact ha
      · rw [n.2.2]; exact lt
  · intro b hb k1 k2 hk x hx fw
    rw [w2 b hb]
    by_cases z : gI t 90 b = -1
    · rw [if_pos z]
      exact k1 z x hx hk
    · rw [if_neg z]
      rcases (T.2.2.1 b hb).1 with y | y
      · exact absurd y z
      · exact k2 z (HK.a (by rw [y.2]; exact hk)) x (fw _ y.1 y.2)
  · intro b x hb hx k hk
    rw [w3 b hb]
    by_cases z : gI t 92 b = -1
    · rw [if_pos z]; exact Or.inl rfl
    · rw [if_neg z]
      rcases hk with y | y
      · exact absurd y z
      · rcases (T.2.2.1 b hb).2 with v | v
        · exact absurd v z
        · by_cases z3 : gI t 77 (gI t 92 b) = 3
          · rw [if_pos z3]
            have n := h.n78 _ v (by omega)
            exact Or.inr ⟨n.1, n.2.1, by rw [n.2.2]; exact y.2, Or.inl (y.1 z3)⟩
          · rw [if_neg z3]
            exact k z z3 y.2
  · intro i x hi hx k1 k2 ha
    rw [w4 i hi]
    by_cases z : gI t 87 i = -1
    · rw [if_pos z]
      exact k1 z ha.k
    · rw [if_neg z]
      have nx := XG.next S0 T hi hx z
      rcases T.1 i hi with y | y
      · exact absurd y z
      · exact k2 z (HK.a (by rw [y.2.2]; exact ha.k)) x nx.2.1
/-- the try around, and what stands behind it -/
theorem tb_up {c : Nat} {S P : Int} {B : Int → Int} {s t : ST} {EN FI EO BH TB : Int → Int} (S0 : 0 ≤ S) (h : RR c S 0 P B s t) (w : WQ t S EN FI EO BH TB) (T : TXR t S) (R : Int → Prop) {i : Int} : ∀ (N : Nat) (j : Int), CJ t S j → j - 130 * S < N → XG t S j i → HA t R j → ¬ TB (gI t 88 j) = -1 → CJ t S (TB (gI t 88 j)) ∧ gI t 77 (TB (gI t 88 j)) = 6 ∧ HA t R (TB (gI t 88 j)) ∧ XG t S (TB (gI t 88 j)) i ∧ gI t 79 (TB (gI t 88 j)) = gI t 79 j ∧ ∀ y, CJ t S y → gI t 88 y = gI t 86 (TB (gI t 88 j)) → i < y := by
  intro N
  induction N with
  | zero => intro j hj hN; have := hj.1; omega
  | succ N ih =>
    intro j hj hN hx ha tn
    have t5 := w.2.2.2.2.1 _ (T.2.1 j hj).1
    have up := XG.up T hj hx
    have k8 := h.2.2.2.2.2.2.1.2.1 (j - 130 * S) (by have := hj.1; omega) (by have := hj.2; omega)
    rw [show 130 * S + (j - 130 * S) = j by omega] at k8
    rcases up with z | z
    · rw [if_pos z] at t5
      exact absurd t5 tn
    · have z1 := z.1.1
      rw [if_neg (show ¬ gI t 92 (gI t 88 j) = -1 by omega)] at t5
      have p9 : gI t 79 (gI t 92 (gI t 88 j)) = gI t 79 j := by
        rcases k8 with k | k
        · omega
        · exact k.2.1
      have hk := ha.k
      rcases hk with y | y
      · omega
      · by_cases v : gI t 77 (gI t 92 (gI t 88 j)) = 6 ∧ gI t 85 (gI t 92 (gI t 88 j)) = gI t 88 j
        · rw [if_pos v] at t5
          rw [t5]
          refine ⟨z.1, v.1, y.2, z.2.1, p9, fun x hxx e => ?_⟩
          have lt := h.2.2.2.2.2.2.1.2.2.2.2.2.2.2.2.2.1 _ j x z.1 hj hxx v.2 e.symm
          have d0 := z.2.2
          have b0 := ((T.2.2.2.2.1 _ z.1).1 v.1).2
          have e92 : gI t 92 (gI t 88 x) = gI t 92 (gI t 88 j) := by
            rw [e]
            rcases (T.2.2.2.1 _ z.1).2 with q | q
            · exact absurd q b0
            · exact q.2
          have dx : gI t 80 (gI t 92 (gI t 88 j)) + 1 = gI t 80 x := by
            rcases (T.2.1 x hxx).2 with q | q
            · rw [e92] at q; omega
            · rw [e92] at q; exact q.2.2.1
          by_cases le : x ≤ i
          · have := hx.2.2.1 x lt le
            omega
          · omega
        · rw [if_neg v] at t5
          rw [t5] at tn ⊢
          have lt : gI t 92 (gI t 88 j) < j := by
            rcases (T.2.1 j hj).2 with q | q
            · omega
            · exact q.2.1
          have q := ih _ z.1 (by omega) z.2.1 y.2 tn
          rw [p9] at q
          exact q

