/-! the first statement within the catch: what the class holds, what the reference looks for -/
def UNn (t : ST) (b : Int) : Nat → Int → Prop
  | 0, i => gI t 88 i = b
  | n + 1, i => gI t 88 i = b ∨ (¬ gI t 92 (gI t 88 i) = -1 ∧ UNn t b n (gI t 92 (gI t 88 i)))
def UN (t : ST) (b i : Int) : Prop := ∃ n, UNn t b n i
theorem UN.at_ {t : ST} {b i : Int} (h : gI t 88 i = b) : UN t b i := ⟨0, h⟩
theorem UN.up {t : ST} {b i : Int} (n : ¬ gI t 92 (gI t 88 i) = -1) (h : UN t b (gI t 92 (gI t 88 i))) : UN t b i := by
  obtain ⟨m, hm⟩ := h
  exact ⟨m + 1, Or.inr ⟨n, hm⟩⟩
theorem UN.inv {t : ST} {b i : Int} (h : UN t b i) : gI t 88 i = b ∨ (¬ gI t 92 (gI t 88 i) = -1 ∧ UN t b (gI t 92 (gI t 88 i))) := by
  obtain ⟨m, hm⟩ := h
  cases m with
  | zero => exact Or.inl hm
  | succ m =>
    rcases hm with z | z
    · exact Or.inl z
    · exact Or.inr ⟨z.1, m, z.2⟩
theorem UN.tr {t : ST} {b b' x : Int} (hx : gI t 92 b = x) (n : ¬ x = -1) (u : UN t b' x) : ∀ (m : Nat) (y : Int), UNn t b m y → UN t b' y := by
  intro m
  induction m with
  | zero =>
    intro y h
    have e : gI t 88 y = b := h
    refine UN.up ?_ ?_
    · rw [e, hx]; exact n
    · rw [e, hx]; exact u
  | succ m ih =>
    intro y h
    rcases h with e | e
    · refine UN.up ?_ ?_
      · rw [e, hx]; exact n
      · rw [e, hx]; exact u
    · exact UN.up e.1 (ih _ e.2)
/-- each statement's number leads back to its item -/
def SN (t : ST) (S : Int) : Prop := ∀ i, CJ t S i → ¬ gI t 77 i = 6 → 0 ≤ gI t 78 i ∧ gI t 78 i < gI t 75 S ∧ gI t 93 (40 * S + gI t 78 i) = i
theorem dep_eq {t : ST} {S i z : Int} (S0 : 0 ≤ S) (x : TXR t S) (hi : CJ t S i) (hz : CJ t S z) (e : gI t 88 z = gI t 88 i) : gI t 80 z = gI t 80 i := by
  have a := (x.2.1 i hi).2
  have b := (x.2.1 z hz).2
  rw [e] at b
  rcases a with a | a <;> rcases b with b | b
  · omega
  · have := b.1; have q := a.1; rw [q] at this; unfold CJ at this hi; omega
  · have := a.1; have q := b.1; rw [q] at this; unfold CJ at this hi; omega
  · omega
theorem cj0 {t : ST} {S i : Int} (S0 : 0 ≤ S) (h : CJ t S i) : 0 ≤ i := by unfold CJ at h; omega
/-- where an item is entered: its own block's end, or a statement within the block -/
theorem en_in {t : ST} {S : Int} {EN FI EO BH TB : Int → Int} (S0 : 0 ≤ S) (w : WQ t S EN FI EO BH TB) (x : TXR t S) : ∀ (m : Nat) (i : Int), CJ t S i → (130 * S + gI t 73 S - i).toNat ≤ m → EN i = EO (gI t 88 i) ∨ ∃ y, CJ t S y ∧ ¬ gI t 77 y = 6 ∧ gI t 78 y = EN i ∧ i ≤ y ∧ UN t (gI t 88 i) y := by
  intro m
  induction m with
  | zero =>
    intro i hi hm
    exfalso
    unfold CJ at hi
    omega
  | succ m ih =>
    intro i hi hm
    have i0 := cj0 S0 hi
    by_cases k6 : gI t 77 i = 6
    · have bh : BH i = EO (gI t 88 i) ∨ ∃ y, CJ t S y ∧ ¬ gI t 77 y = 6 ∧ gI t 78 y = BH i ∧ i ≤ y ∧ UN t (gI t 88 i) y := by
        have e := w.2.2.2.1 i hi
        rcases x.1 i hi with z | z
        · rw [if_pos z] at e
          exact Or.inl e
        · rw [if_neg (show ¬ gI t 87 i = -1 by omega)] at e
          rcases ih (gI t 87 i) z.2.1 (by omega) with q | ⟨y, q1, q2, q3, q4, q5⟩
          · rw [z.2.2] at q
            exact Or.inl (e.trans q)
          · rw [z.2.2] at q5
            exact Or.inr ⟨y, q1, q2, q3.trans e.symm, by omega, q5⟩
      have e := w.1 i hi
      rw [if_pos k6] at e
      have b85 := ((x.2.2.2.2.1 i hi).1 k6).1
      rcases (x.2.2.2.1 i hi).1 with z | z
      · exact absurd z b85
      · have f := w.2.1 _ z.1
        have g := w.2.2.1 _ z.1
        rw [z.2, if_neg (show ¬ i = -1 by omega), if_neg (show ¬ gI t 77 i = 3 by omega)] at g
        rcases (x.2.2.1 _ z.1).1 with q | q
        · rw [if_pos q, g] at f
          rw [e, f]
          exact bh
        · have n90 : ¬ gI t 90 (gI t 85 i) = -1 := by have := cj0 S0 q.1; omega
          rw [if_neg n90] at f
          have lt : i < gI t 90 (gI t 85 i) := by
            rcases (x.2.1 _ q.1).2 with a | a
            · rw [q.2, z.2] at a; omega
            · rw [q.2, z.2] at a; exact a.2.1
          have lm : (130 * S + gI t 73 S - gI t 90 (gI t 85 i)).toNat ≤ m := by clear bh; omega
          rcases ih _ q.1 lm with a | ⟨y, a1, a2, a3, a4, a5⟩
          · rw [q.2, g] at a
            rw [e, f, a]
            exact bh
          · rw [q.2] at a5
            obtain ⟨mm, a5⟩ := a5
            exact Or.inr ⟨y, a1, a2, by rw [a3, e, f], by omega, UN.tr z.2 (by omega) (UN.at_ rfl) mm y a5⟩
    · have e := w.1 i hi
      rw [if_neg k6] at e
      exact Or.inr ⟨i, hi, k6, e.symm, by omega, UN.at_ rfl⟩
/-- what stands behind an item is not within it -/
def OU (t : ST) (S i v : Int) : Prop := v = -1 ∨ ∃ y, CJ t S y ∧ ¬ gI t 77 y = 6 ∧ gI t 78 y = v ∧ ((y < i ∧ ∀ k, y < k → k ≤ i → gI t 80 y < gI t 80 k) ∨ (∃ k, i < k ∧ k ≤ y ∧ gI t 80 k ≤ gI t 80 i))
theorem bh_out {t : ST} {S : Int} {EN FI EO BH TB : Int → Int} (S0 : 0 ≤ S) (w : WQ t S EN FI EO BH TB) (x : TXR t S) : ∀ (m : Nat) (i : Int), CJ t S i → i.toNat < m → OU t S i (BH i) := by
  intro m
  induction m with
  | zero => intro i _ h; omega
  | succ m ih =>
    intro i hi hm
    have i0 := cj0 S0 hi
    have eo : OU t S i (EO (gI t 88 i)) := by
      have cb := (x.2.1 i hi).1
      have g := w.2.2.1 _ cb
      rcases (x.2.1 i hi).2 with a | a
      · rw [if_pos a.1] at g
        exact Or.inl g
      · obtain ⟨a1, a2, a3, a4⟩ := a
        have w0 := cj0 S0 a1
        rw [if_neg (show ¬ gI t 92 (gI t 88 i) = -1 by omega)] at g
        by_cases k3 : gI t 77 (gI t 92 (gI t 88 i)) = 3
        · rw [if_pos k3] at g
          exact Or.inr ⟨_, a1, by omega, g.symm, Or.inl ⟨a2, fun k k1 k2 => by have := a4 k k1 k2; omega⟩⟩
        · rw [if_neg k3] at g
          rw [g]
          rcases ih _ a1 (by omega) with z | ⟨y, y1, y2, y3, y4⟩
          · exact Or.inl z
          · refine Or.inr ⟨y, y1, y2, y3, ?_⟩
            rcases y4 with q | ⟨k, q1, q2, q3⟩
            · refine Or.inl ⟨by omega, fun k k1 k2 => ?_⟩
              by_cases kw : k ≤ gI t 92 (gI t 88 i)
              · exact q.2 k k1 kw
              · have p1 := q.2 _ q.1 (Int.le_refl _)
                have p2 := a4 k (by omega) k2
                omega
            · refine Or.inr ⟨k, ?_, q2, by omega⟩
              by_cases ki : k ≤ i
              · have := a4 k q1 ki
                omega
              · omega
    have e := w.2.2.2.1 i hi
    rcases x.1 i hi with z | z
    · rw [if_pos z] at e
      rw [e]
      exact eo
    · rw [if_neg (show ¬ gI t 87 i = -1 by omega)] at e
      rcases en_in S0 w x _ (gI t 87 i) z.2.1 (Nat.le_refl _) with q | ⟨y, q1, q2, q3, q4, _⟩
      · rw [z.2.2] at q
        rw [e, q]
        exact eo
      · exact Or.inr ⟨y, q1, q2, q3.trans e.symm, Or.inr ⟨_, z.1, q4, by have := dep_eq S0 x hi z.2.1 z.2.2; omega⟩⟩
theorem UN.desc {t : ST} {S b o : Int} (S0 : 0 ≤ S) (x : TXR t S) (ho : CJ t S o) (hb : gI t 92 b = o) : ∀ (m : Nat) (y : Int), CJ t S y → UNn t b m y → o < y ∧ ∀ k, o < k → k ≤ y → gI t 80 o < gI t 80 k := by
  have o0 := cj0 S0 ho
  have base : ∀ y, CJ t S y → gI t 88 y = b → o < y ∧ ∀ k, o < k → k ≤ y → gI t 80 o < gI t 80 k := fun y hy e => by
    rcases (x.2.1 y hy).2 with a | a
    · rw [e, hb] at a; omega
    · rw [e, hb] at a
      exact ⟨a.2.1, fun k k1 k2 => by have := a.2.2.2 k k1 k2; omega⟩
  intro m
  induction m with
  | zero => intro y hy h; exact base y hy h
  | succ m ih =>
    intro y hy h
    rcases h with e | e
    · exact base y hy e
    · rcases (x.2.1 y hy).2 with a | a
      · exact absurd a.1 e.1
      · have q := ih _ a.1 e.2
        refine ⟨by omega, fun k k1 k2 => ?_⟩
        by_cases kw : k ≤ gI t 92 (gI t 88 y)
        · exact q.2 k k1 kw
        · have p1 := a.2.2.2 k (by omega) k2
          have p2 := q.2 _ q.1 (Int.le_refl _)
          omega
theorem cat_in {t : ST} {S b o v : Int} (S0 : 0 ≤ S) (x : TXR t S) (ho : CJ t S o) (hb : gI t 92 b = o) (h86 : gI t 86 o = b) : ∀ (N m : Nat) (y : Int), CJ t S y → UN t b y → gI t 80 y + 1 ≤ N → f_X8_catcher_ N m o v (gI t 88 y) t = v := by
  have o0 := cj0 S0 ho
  intro N
  induction N with
  | zero => intro m y hy _ h; have := (x.2.2.2.2.2 y hy).1; omega
  | succ N ih =>
    intro m y hy u hN
    obtain ⟨fin, kf⟩ : ∃ z, z = f_X8_catcher_ (N + 1) m o v (gI t 88 y) t := ⟨_, rfl⟩
    rw [← kf]
    rw [f_X8_catcher_] at kf
    have k1 := bd_e (y := gI t 92 (gI t 88 y)) kf rfl
    by_cases e : gI t 88 y = b
    · have k2 := if_f k1 (show ¬ gI t 92 (gI t 88 y) = -1 by rw [e, hb]; omega)
      have k3 := bd_e (y := gI t 86 o) k2 rfl
      exact if_f k3 (fun z => z (by rw [e, h86]))
    · rcases u.inv with z | z
      · exact absurd z e
      · have k2 := if_f k1 z.1
        have k3 := bd_e (y := gI t 86 o) k2 rfl
        have k4 := if_t k3 (show ¬ gI t 88 y = gI t 86 o by rw [h86]; exact e)
        have k5 := bd_e (y := gI t 92 (gI t 88 y)) k4 rfl
        have k6 := bd_e (y := gI t 88 (gI t 92 (gI t 88 y))) k5 rfl
        rw [k6]
        rcases (x.2.1 y hy).2 with a | a
        · exact absurd a.1 z.1
        · exact ih 49 _ a.1 z.2 (by omega)
theorem cat_out {t : ST} {S b o v : Int} (S0 : 0 ≤ S) (x : TXR t S) (h86 : gI t 86 o = b) : ∀ (N m : Nat) (y : Int), CJ t S y → ¬ UN t b y → gI t 80 y + 1 ≤ N → f_X8_catcher_ N m o v (gI t 88 y) t = -2 := by
  intro N
  induction N with
  | zero => intro m y hy _ h; have := (x.2.2.2.2.2 y hy).1; omega
  | succ N ih =>
    intro m y hy u hN
    obtain ⟨fin, kf⟩ : ∃ z, z = f_X8_catcher_ (N + 1) m o v (gI t 88 y) t := ⟨_, rfl⟩
    rw [← kf]
    rw [f_X8_catcher_] at kf
    have k1 := bd_e (y := gI t 92 (gI t 88 y)) kf rfl
    by_cases n : gI t 92 (gI t 88 y) = -1
    · exact if_t k1 n
    · have k2 := if_f k1 n
      have k3 := bd_e (y := gI t 86 o) k2 rfl
      have k4 := if_t k3 (show ¬ gI t 88 y = gI t 86 o by rw [h86]; exact fun z => u (UN.at_ z))
      have k5 := bd_e (y := gI t 92 (gI t 88 y)) k4 rfl
      have k6 := bd_e (y := gI t 88 (gI t 92 (gI t 88 y))) k5 rfl
      rw [k6]
      rcases (x.2.1 y hy).2 with a | a
      · exact absurd a.1 n
      · exact ih 49 _ a.1 (fun z => u (UN.up n z)) (by omega)
theorem tb_ok {t : ST} {S : Int} {EN FI EO BH TB : Int → Int} (S0 : 0 ≤ S) (w : WQ t S EN FI EO BH TB) (x : TXR t S) : ∀ (m : Nat) (i : Int), CJ t S i → i.toNat < m → TB (gI t 88 i) = -1 ∨ (CJ t S (TB (gI t 88 i)) ∧ gI t 77 (TB (gI t 88 i)) = 6) := by
  intro m
  induction m with
  | zero => intro i _ h; omega
  | succ m ih =>
    intro i hi hm
    have i0 := cj0 S0 hi
    have e := w.2.2.2.2.1 _ (x.2.1 i hi).1
    rcases (x.2.1 i hi).2 with a | a
    · rw [if_pos a.1] at e
      exact Or.inl e
    · have w0 := cj0 S0 a.1
      rw [if_neg (show ¬ gI t 92 (gI t 88 i) = -1 by omega)] at e
      by_cases q : gI t 77 (gI t 92 (gI t 88 i)) = 6 ∧ gI t 85 (gI t 92 (gI t 88 i)) = gI t 88 i
      · rw [if_pos q] at e
        rw [e]
        exact Or.inr ⟨a.1, q.1⟩
      · rw [if_neg q] at e
        rw [e]
        exact ih _ a.1 (by omega)
theorem cat_ok {t : ST} {S k : Int} (S0 : 0 ≤ S) (hS : t.1 70 6 = S) (w : WQ t S (f_X8_entryOf t) (f_X8_firstOf t) (f_X8_endOf t) (f_X8_behind t) (fun b => f_X8_tryOf_ 805 7 b t)) (x : TXR t S) (sn : SN t S) (h40 : gI t 75 S ≤ 40) (h79 : ∀ i, CJ t S i → 0 ≤ gI t 79 i) (hi : CJ t S (gI t 93 (40 * S + k))) :
    f_X8_catcher t k = vF t (f_X8_firstOf t) (f_X8_behind t) (fun b => f_X8_tryOf_ 805 7 b t) (gI t 93 (40 * S + k)) := by
  obtain ⟨i, ei⟩ : ∃ i, i = gI t 93 (40 * S + k) := ⟨_, rfl⟩
  rw [← ei] at hi ⊢
  have i0 := cj0 S0 hi
  have tb := tb_ok S0 w x _ i hi (Nat.lt_succ_self _)
  have it : ∀ v, f_X8_item t v = gI t 93 (40 * S + v) := fun v => by
    unfold f_X8_item
    repeat rewrite [bd_r]
    rw [hS]
    rfl
  have ty : f_X8_tryOf t i = f_X8_tryOf_ 805 7 (gI t 88 i) t := to_c (t := t) (X := t) (fun _ _ => rfl) i
  obtain ⟨o, eo⟩ : ∃ o, o = f_X8_tryOf_ 805 7 (gI t 88 i) t := ⟨_, rfl⟩
  try dsimp only at tb
  rw [← eo] at tb ty
  obtain ⟨fin, kf⟩ : ∃ z, z = f_X8_catcher t k := ⟨_, rfl⟩
  rw [← kf]
  unfold f_X8_catcher at kf
  have k1 := bd_e kf ((it k).trans ei.symm)
  have k2 := bd_e k1 ty
  rw [show vF t (f_X8_firstOf t) (f_X8_behind t) (fun b => f_X8_tryOf_ 805 7 b t) i = if o = -1 then -2 else CF t (f_X8_firstOf t) (f_X8_behind t) o from by rw [eo]; rfl]
  by_cases n : o = -1
  · rw [if_pos n]
    exact if_f k2 (fun z => z n)
  · rw [if_neg n]
    rcases tb with z | ⟨co, k6⟩
    · exact absurd z n
    · have o0 := cj0 S0 co
      have k3 := if_t k2 n
      have k4 := bd_e (y := gI t 86 o) k3 rfl
      have k5 := bd_e k4 rfl
      have b86 := ((x.2.2.2.2.1 o co).1 k6).2
      rcases (x.2.2.2.1 o co).2 with z | ⟨cb, hb⟩
      · exact absurd z b86
      · have g := w.2.2.1 _ cb
        rw [hb, if_neg (show ¬ o = -1 by omega), if_neg (show ¬ gI t 77 o = 3 by omega)] at g
        have f := w.2.1 _ cb
        unfold CF CE
        by_cases same : f_X8_firstOf t (gI t 86 o) = f_X8_behind t o
        · rw [same, if_pos rfl]
          rw [same] at k5
          by_cases m1 : f_X8_behind t o = -1
          · exact if_f k5 (fun z => z m1)
          · have k6' := if_t k5 m1
            rcases bh_out S0 w x _ o co (Nat.lt_succ_self _) with q | ⟨y, y1, y2, y3, y4⟩
            · exact absurd q m1
            · have s := sn y y1 y2
              rw [y3] at s
              have k7 := bd_e k6' ((it _).trans s.2.2)
              have k8 := bd_e (y := gI t 88 y) k7 rfl
              rw [k8]
              refine cat_out S0 x rfl 805 49 y y1 (fun u => ?_) (by have := (x.2.2.2.2.2 y y1).2; omega)
              obtain ⟨mm, u⟩ := u
              have d := UN.desc S0 x co hb mm y y1 u
              rcases y4 with q | ⟨kk, q1, q2, q3⟩
              · omega
              · have := d.2 kk q1 q2
                omega
        · have ne : ¬ gI t 90 (gI t 86 o) = -1 := fun z => by
            rw [if_pos z, g] at f
            exact same f
          rw [if_neg ne] at f
          rcases (x.2.2.1 _ cb).1 with q | q
          · exact absurd q ne
          · rcases en_in S0 w x _ _ q.1 (Nat.le_refl _) with a | ⟨y, y1, y2, y3, y4, y5⟩
            · rw [q.2, g] at a
              exact absurd (f.trans a) same
            · rw [q.2] at y5
              have s := sn y y1 y2
              have v : gI t 78 y = f_X8_firstOf t (gI t 86 o) := y3.trans f.symm
              rw [v] at s
              have m1 : ¬ f_X8_firstOf t (gI t 86 o) = -1 := by omega
              have k6' := if_t k5 m1
              have k7 := bd_e k6' ((it _).trans s.2.2)
              have k8 := bd_e (y := gI t 88 y) k7 rfl
              rw [k8, cat_in S0 x co hb rfl 805 49 y y1 y5 (by have := (x.2.2.2.2.2 y y1).2; omega), en_n m1]
              have h9 := h79 o co
              rw [if_neg]
              by_cases m2 : f_X8_behind t o = -1
              · rw [m2, en_1]
                omega
              · rw [en_n m2]
                exact same
