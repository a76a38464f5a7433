/-! the tree's functions read the half at hand alone -/
def WIN (t X : ST) (S : Int) : Prop := X.1 70 6 = t.1 70 6 ∧ (∀ q i, 77 ≤ q → q ≤ 88 → CJ t S i → gI X q i = gI t q i) ∧ (∀ q b, 90 ≤ q → q ≤ 92 → CB t S b → gI X q b = gI t q b) ∧ (∀ k, 0 ≤ k → k < gI t 75 S → gI X 93 (40 * S + k) = gI t 93 (40 * S + k)) ∧ (∀ q, 73 ≤ q → q ≤ 76 → gI X q S = gI t q S)
theorem mw_w {t X : ST} {S : Int} (S0 : 0 ≤ S) (h : WIN t X S) (x : TXR t S) : ∀ n : Nat, (∀ i, CJ t S i → (m_W n).1 X i = (m_W n).1 t i) ∧ (∀ b, CB t S b → (m_W n).2.1 X b = (m_W n).2.1 t b) ∧ (∀ b, CB t S b → (m_W n).2.2.1 X b = (m_W n).2.2.1 t b) ∧ (∀ i, CJ t S i → (m_W n).2.2.2 X i = (m_W n).2.2.2 t i) := by
  intro n
  induction n with
  | zero => exact ⟨fun _ _ => rfl, fun _ _ => rfl, fun _ _ => rfl, fun _ _ => rfl⟩
  | succ n ih =>
    obtain ⟨h1, h2, h3, h4⟩ := ih
    have hI : ∀ (q : Nat) (i : Int), 77 ≤ q → q ≤ 88 → CJ t S i → X.1 q i.toNat = t.1 q i.toNat := fun q i a b c => h.2.1 q i a b c
    have hB : ∀ (q : Nat) (b : Int), 90 ≤ q → q ≤ 92 → CB t S b → X.1 q b.toNat = t.1 q b.toNat := fun q b a c d => h.2.2.1 q b a c d
    refine ⟨fun i hi => ?_, fun b hb => ?_, fun b hb => ?_, fun i hi => ?_⟩
    · show f_X8_entryOf_b (m_W n).2.1 X i = f_X8_entryOf_b (m_W n).2.1 t i
      unfold f_X8_entryOf_b
      repeat rewrite [bd_r]
      rw [hI 77 i (by omega) (by omega) hi, hI 78 i (by omega) (by omega) hi, hI 85 i (by omega) (by omega) hi]
      by_cases k6 : t.1 77 i.toNat = 6
      · rw [if_neg (fun z => z k6), if_neg (fun z => z k6)]
        have n85 := ((x.2.2.2.2.1 i hi).1 k6).1
        rcases (x.2.2.2.1 i hi).1 with z | z
        · exact absurd z n85
        · exact h2 _ z.1
      · rw [if_pos k6, if_pos k6]
    · show f_X8_firstOf_b (m_W n).2.2.1 (m_W n).1 X b = f_X8_firstOf_b (m_W n).2.2.1 (m_W n).1 t b
      unfold f_X8_firstOf_b
      repeat rewrite [bd_r]
      rw [hB 90 b (by omega) (by omega) hb]
      by_cases e : t.1 90 b.toNat = -1
      · rw [if_neg (fun z => z e), if_neg (fun z => z e)]
        exact h3 b hb
      · rw [if_pos e, if_pos e]
        rcases (x.2.2.1 b hb).1 with z | z
        · exact absurd z e
        · exact h1 _ z.1
    · show f_X8_endOf_b (m_W n).2.2.2 X b = f_X8_endOf_b (m_W n).2.2.2 t b
      unfold f_X8_endOf_b
      repeat rewrite [bd_r]
      rw [hB 92 b (by omega) (by omega) hb]
      by_cases e : t.1 92 b.toNat = -1
      · rw [if_neg (fun z => z e), if_neg (fun z => z e)]
      · rw [if_pos e, if_pos e]
        rcases (x.2.2.1 b hb).2 with z | z
        · exact absurd z e
        · have z2 : CJ t S (t.1 92 b.toNat) := z
          rw [hI 77 (t.1 92 b.toNat) (by omega) (by omega) z2, hI 78 (t.1 92 b.toNat) (by omega) (by omega) z2]
          by_cases k3 : t.1 77 (t.1 92 b.toNat).toNat = 3
          · rw [if_neg (fun y => y k3), if_neg (fun y => y k3)]
          · rw [if_pos k3, if_pos k3]
            exact h4 _ z
    · show f_X8_behind_b (m_W n).2.2.1 (m_W n).1 X i = f_X8_behind_b (m_W n).2.2.1 (m_W n).1 t i
      unfold f_X8_behind_b
      repeat rewrite [bd_r]
      rw [hI 87 i (by omega) (by omega) hi, hI 88 i (by omega) (by omega) hi]
      by_cases e : t.1 87 i.toNat = -1
      · rw [if_neg (fun z => z e), if_neg (fun z => z e)]
        exact h3 _ (x.2.1 i hi).1
      · rw [if_pos e, if_pos e]
        rcases x.1 i hi with z | z
        · exact absurd z e
        · exact h1 _ z.2.1
theorem try_w {t X : ST} {S : Int} (S0 : 0 ≤ S) (h : WIN t X S) (x : TXR t S) : ∀ (n k : Nat) (b : Int), CB t S b → f_X8_tryOf_ n k b X = f_X8_tryOf_ n k b t := by
  intro n
  induction n with
  | zero => intro k b _; rfl
  | succ n ih =>
    intro k b hb
    rw [f_X8_tryOf_, f_X8_tryOf_]
    repeat rewrite [bd_r]
    rw [show X.1 92 b.toNat = t.1 92 b.toNat from h.2.2.1 92 b (by omega) (by omega) hb]
    by_cases e : t.1 92 b.toNat = -1
    · rw [if_pos e, if_pos e]
    · rw [if_neg e, if_neg e]
      rcases (x.2.2.1 b hb).2 with z | z
      · exact absurd z e
      · have z2 : CJ t S (t.1 92 b.toNat) := z
        rw [show X.1 77 (t.1 92 b.toNat).toNat = t.1 77 (t.1 92 b.toNat).toNat from h.2.1 77 _ (by omega) (by omega) z2, show X.1 88 (t.1 92 b.toNat).toNat = t.1 88 (t.1 92 b.toNat).toNat from h.2.1 88 _ (by omega) (by omega) z2, show X.1 85 (t.1 92 b.toNat).toNat = t.1 85 (t.1 92 b.toNat).toNat from h.2.1 85 _ (by omega) (by omega) z2, ih 7 (t.1 88 (t.1 92 b.toNat).toNat) (x.2.1 _ z2).1]
theorem catw_ {t X : ST} {S o v : Int} (S0 : 0 ≤ S) (h : WIN t X S) (x : TXR t S) (ho : CJ t S o) : ∀ (n k : Nat) (b : Int), CB t S b → f_X8_catcher_ n k o v b X = f_X8_catcher_ n k o v b t := by
  intro n
  induction n with
  | zero => intro k b _; rfl
  | succ n ih =>
    intro k b hb
    rw [f_X8_catcher_, f_X8_catcher_]
    repeat rewrite [bd_r]
    rw [show X.1 92 b.toNat = t.1 92 b.toNat from h.2.2.1 92 b (by omega) (by omega) hb, show X.1 86 o.toNat = t.1 86 o.toNat from h.2.1 86 o (by omega) (by omega) ho]
    by_cases e : t.1 92 b.toNat = -1
    · rw [if_pos e, if_pos e]
    · rw [if_neg e, if_neg e]
      rcases (x.2.2.1 b hb).2 with z | z
      · exact absurd z e
      · have z2 : CJ t S (t.1 92 b.toNat) := z
        rw [show X.1 88 (t.1 92 b.toNat).toNat = t.1 88 (t.1 92 b.toNat).toNat from h.2.1 88 _ (by omega) (by omega) z2, ih 49 (t.1 88 (t.1 92 b.toNat).toNat) (x.2.1 _ z2).1]
theorem item_w {t X : ST} {S k : Int} (h : WIN t X S) (hS : t.1 70 6 = S) (k0 : 0 ≤ k) (k1 : k < gI t 75 S) : f_X8_item X k = gI t 93 (40 * S + k) := by
  unfold f_X8_item
  repeat rewrite [bd_r]
  rw [h.1, hS]
  exact h.2.2.2.1 k k0 k1
theorem item_t {t : ST} {S k : Int} (hS : t.1 70 6 = S) : f_X8_item t k = gI t 93 (40 * S + k) := by
  unfold f_X8_item
  repeat rewrite [bd_r]
  rw [hS]
  rfl
/-- the catch's first statement, over the half at hand alone -/
theorem cat_w {t X : ST} {S k : Int} (S0 : 0 ≤ S) (hS : t.1 70 6 = S) (h : WIN t X S) (x : TXR t S) (sn : SN t S) (w : WQ t S (f_X8_entryOf t) (f_X8_firstOf t) (f_X8_endOf t) (f_X8_behind t) (fun b => f_X8_tryOf_ 805 7 b t)) (s93 : ∀ k, 0 ≤ k → k < gI t 75 S → CJ t S (gI t 93 (40 * S + k))) (k0 : 0 ≤ k) (k1 : k < gI t 75 S) : f_X8_catcher X k = f_X8_catcher t k := by
  have hi := s93 k k0 k1
  have rg : ∀ b, CB t S b → f_X8_firstOf t b = -1 ∨ (0 ≤ f_X8_firstOf t b ∧ f_X8_firstOf t b < gI t 75 S) := fun b hb => by
    have f := w.2.1 b hb
    have g := w.2.2.1 b hb
    have bh : ∀ i, CJ t S i → f_X8_behind t i = -1 ∨ (0 ≤ f_X8_behind t i ∧ f_X8_behind t i < gI t 75 S) := fun i hi => by
      rcases bh_out S0 w x _ i hi (Nat.lt_succ_self _) with q | ⟨y, y1, y2, y3, _⟩
      · exact Or.inl q
      · have s := sn y y1 y2
        rw [y3] at s
        exact Or.inr ⟨s.1, s.2.1⟩
    have eo : f_X8_endOf t b = -1 ∨ (0 ≤ f_X8_endOf t b ∧ f_X8_endOf t b < gI t 75 S) := by
      rcases (x.2.2.1 b hb).2 with z | z
      · rw [if_pos z] at g
        exact Or.inl g
      · rw [if_neg (show ¬ gI t 92 b = -1 by have := cj0 S0 z; omega)] at g
        by_cases k3 : gI t 77 (gI t 92 b) = 3
        · rw [if_pos k3] at g
          have s := sn _ z (by omega)
          rw [g]
          exact Or.inr ⟨s.1, s.2.1⟩
        · rw [if_neg k3] at g
          rw [g]
          exact bh _ z
    rcases (x.2.2.1 b hb).1 with z | z
    · rw [if_pos z] at f
      rw [f]
      exact eo
    · rw [if_neg (show ¬ gI t 90 b = -1 by have := cj0 S0 z.1; omega)] at f
      rcases en_in S0 w x _ _ z.1 (Nat.le_refl _) with a | ⟨y, y1, y2, y3, _, _⟩
      · rw [z.2] at a
        rw [f, a]
        exact eo
      · have s := sn y y1 y2
        rw [y3, ← f] at s
        exact Or.inr ⟨s.1, s.2.1⟩
  have tb := tb_ok S0 w x _ _ hi (Nat.lt_succ_self _)
  try dsimp only at tb
  unfold f_X8_catcher
  repeat rewrite [bd_r]
  rw [item_w h hS k0 k1, item_t hS]
  have ty : f_X8_tryOf X (gI t 93 (40 * S + k)) = f_X8_tryOf_ 805 7 (gI t 88 (gI t 93 (40 * S + k))) t := by
    unfold f_X8_tryOf
    rewrite [bd_r]
    rw [show X.1 88 (gI t 93 (40 * S + k)).toNat = gI t 88 (gI t 93 (40 * S + k)) from h.2.1 88 _ (by omega) (by omega) hi]
    exact try_w S0 h x 805 7 _ (x.2.1 _ hi).1
  have ty2 : f_X8_tryOf t (gI t 93 (40 * S + k)) = f_X8_tryOf_ 805 7 (gI t 88 (gI t 93 (40 * S + k))) t := to_c (t := t) (X := t) (fun _ _ => rfl) _
  rw [ty, ty2]
  generalize f_X8_tryOf_ 805 7 (gI t 88 (gI t 93 (40 * S + k))) t = o at tb ⊢
  by_cases n : o = -1
  · rw [if_neg (fun z => z n), if_neg (fun z => z n)]
  · rw [if_pos n, if_pos n]
    rcases tb with z | ⟨co, k6⟩
    · exact absurd z n
    · rw [show X.1 86 o.toNat = t.1 86 o.toNat from h.2.1 86 o (by omega) (by omega) co]
      have b86 := ((x.2.2.2.2.1 o co).1 k6).2
      rcases (x.2.2.2.1 o co).2 with z | ⟨cb, hb⟩
      · exact absurd z b86
      · have cb2 : CB t S (t.1 86 o.toNat) := cb
        rw [show f_X8_firstOf X (t.1 86 o.toNat) = f_X8_firstOf t (t.1 86 o.toNat) from (mw_w S0 h x 540).2.1 _ cb2]
        have r := rg _ cb2
        generalize f_X8_firstOf t (t.1 86 o.toNat) = v at r ⊢
        by_cases m1 : v = -1
        · rw [if_neg (fun z => z m1), if_neg (fun z => z m1)]
        · rw [if_pos m1, if_pos m1]
          rcases r with z | r
          · exact absurd z m1
          · rw [item_w h hS r.1 r.2, item_t hS]
            have ci := s93 v r.1 r.2
            rw [show X.1 88 (gI t 93 (40 * S + v)).toNat = t.1 88 (gI t 93 (40 * S + v)).toNat from h.2.1 88 _ (by omega) (by omega) ci]
            exact catw_ S0 h x co 805 49 _ (x.2.1 _ ci).1
