/-! where ways go: the fuel does not matter -/
theorem mw_s {F : FN} {S : Int} {t : ST} (hV : ∀ (c : Nat) (i : Int), t.1 c i.toNat = V F c i) (ht : TR F S) (hc : CN F S (130 * S) 0) (S0 : 0 ≤ S) (h80 : ∀ i, 0 ≤ V F 80 i) : ∀ n : Nat, (∀ i, II F S i → 4 * (130 * S + V F 73 S - i) + 2 * V F 80 i + 4 ≤ (n : Int) → (m_W (n + 1)).1 t i = (m_W n).1 t i) ∧ (∀ b, BB F S b → (V F 92 b = -1 → 4 * V F 73 S + 5 ≤ (n : Int)) → (0 ≤ V F 92 b → 4 * (130 * S + V F 73 S - V F 92 b) + 2 * V F 80 (V F 92 b) + 3 ≤ (n : Int)) → (m_W (n + 1)).2.1 t b = (m_W n).2.1 t b) ∧ (∀ b x, BB F S b → ((V F 92 b = -1 ∧ 1 ≤ (n : Int)) ∨ (XC F S (V F 92 b) x ∧ 4 * (130 * S + V F 73 S - x) + 2 * V F 80 (V F 92 b) + 2 ≤ (n : Int))) → (m_W (n + 1)).2.2.1 t b = (m_W n).2.2.1 t b) ∧ (∀ i x, II F S i → XC F S i x → 4 * (130 * S + V F 73 S - x) + 2 * V F 80 i + 1 ≤ (n : Int) → (m_W (n + 1)).2.2.2 t i = (m_W n).2.2.2 t i) := by
  have d0 : ∀ i, II F S i → 0 ≤ V F 80 i := fun i hi => (hc i hi.1 hi.2).1
  intro n
  induction n with
  | zero =>
    refine ⟨fun i hi hm => ?_, fun b hb h1 h2 => ?_, fun b x hb hx => ?_, fun i x hi hx hm => ?_⟩
    · exfalso
      have q1 := hi.2
      have q2 := d0 i hi
      omega
    · exfalso
      have tp := ht.1.1
      rcases (ht.2.2.2.2.2.1 b hb).2.2.1 with z | z
      · have := h1 z; omega
      · have q1 := z.2
        have q2 := d0 _ z
        have q5 := z.1
        have := h2 (by omega)
        omega
    · exfalso
      rcases hx with hx | hx
      · have := hx.2; omega
      · have q1 := hx.1.2.1
        have w2 := hx.2
        rcases (ht.2.2.2.2.2.1 b hb).2.2.1 with z | z
        · have w := hx.1.1
          have q3 := h80 (V F 92 b)
          omega
        · have q2 := d0 _ z
          omega
    · exfalso
      have q1 := hx.2.1
      have q2 := d0 i hi
      omega
  | succ n ih =>
    obtain ⟨hE, hF, hN, hB⟩ := ih
    refine ⟨fun i hi hm => ?_, fun b hb h1 h2 => ?_, fun b x hb hx => ?_, fun i x hi hx hm => ?_⟩
    · show f_X8_entryOf_b (m_W (n + 1)).2.1 t i = f_X8_entryOf_b (m_W n).2.1 t i
      unfold f_X8_entryOf_b
      repeat rewrite [bd_r]
      rw [hV]
      by_cases k : V F 77 i = 6
      · rw [if_neg (fun z => z k), if_neg (fun z => z k)]
        repeat rewrite [bd_r]
        rw [hV]
        have cc := (hc i hi.1 hi.2).2
        have b0 := (cc.1 k).2.2.1
        have t4 := (ht.2.2.2.2.1 i hi).1
        have i0 := hi.1
        rcases t4 with t4 | t4
        · omega
        · exact hF _ t4.1 (fun q => by rw [t4.2] at q; omega) (fun _ => by rw [t4.2]; omega)
      · rw [if_pos k, if_pos k]
    · show f_X8_firstOf_b (m_W (n + 1)).2.2.1 (m_W (n + 1)).1 t b = f_X8_firstOf_b (m_W n).2.2.1 (m_W n).1 t b
      unfold f_X8_firstOf_b
      repeat rewrite [bd_r]
      rw [hV]
      have t5 := ht.2.2.2.2.2.1 b hb
      by_cases k : V F 90 b = -1
      · rw [if_neg (fun z => z k), if_neg (fun z => z k)]
        repeat rewrite [bd_r]
        refine hN b (V F 92 b) hb ?_
        rcases t5.2.2.1 with z | z
        · exact Or.inl ⟨z, by have := h1 z; have := ht.1.1; omega⟩
        · exact Or.inr ⟨XC.self z, by have z1 := z.1; have := h2 (by omega); omega⟩
      · rw [if_pos k, if_pos k]
        repeat rewrite [bd_r]
        rcases t5.1 with z | z
        · exact absurd z k
        · have t2 := (ht.2.2.1 _ z.1).2
          rw [z.2] at t2
          have f1 := z.1.1
          have f2 := z.1.2
          refine hE _ z.1 ?_
          rcases t2 with y | y
          · have := h1 y.1; omega
          · have := h2 (by omega); omega
    · show f_X8_endOf_b (m_W (n + 1)).2.2.2 t b = f_X8_endOf_b (m_W n).2.2.2 t b
      unfold f_X8_endOf_b
      repeat rewrite [bd_r]
      rw [hV]
      have t5 := (ht.2.2.2.2.2.1 b hb).2.2.1
      by_cases k : V F 92 b = -1
      · rw [if_neg (fun z => z k), if_neg (fun z => z k)]
      · rw [if_pos k, if_pos k]
        repeat rewrite [bd_r]
        rw [hV]
        by_cases k2 : V F 77 (V F 92 b) = 3
        · rw [if_neg (fun z => z k2), if_neg (fun z => z k2)]
        · rw [if_pos k2, if_pos k2]
          repeat rewrite [bd_r]
          rcases t5 with z | z
          · exact absurd z k
          · rcases hx with hx | hx
            · exact absurd hx.1 k
            · exact hB _ x z hx.1 (by have := hx.2; omega)
    · show f_X8_behind_b (m_W (n + 1)).2.2.1 (m_W (n + 1)).1 t i = f_X8_behind_b (m_W n).2.2.1 (m_W n).1 t i
      unfold f_X8_behind_b
      repeat rewrite [bd_r]
      rw [hV]
      by_cases k : V F 87 i = -1
      · rw [if_neg (fun z => z k), if_neg (fun z => z k)]
        repeat rewrite [bd_r]
        rw [hV]
        have up := XC.up ht hi hx
        refine hN _ x up.1 ?_
        rcases up.2 with z | z
        · exact Or.inl ⟨z, by have := hx.2.1; have := d0 i hi; omega⟩
        · exact Or.inr ⟨z.1, by have := z.2; omega⟩
      · rw [if_pos k, if_pos k]
        repeat rewrite [bd_r]
        have nx := XC.next S0 ht hi hx k
        exact hE _ nx.1 (by have := nx.2.1; have := nx.2.2; omega)
/-- the four equations, at the fuel that is used -/
theorem mw_eq {F : FN} {S : Int} {t : ST} (hV : ∀ (c : Nat) (i : Int), t.1 c i.toNat = V F c i) (ht : TR F S) (hc : CN F S (130 * S) 0) (S0 : 0 ≤ S) (h80 : ∀ i, 0 ≤ V F 80 i) (h86 : ∀ i, V F 80 i ≤ 6) (h73 : V F 73 S ≤ 130) :
    (∀ i, II F S i → f_X8_entryOf t i = if V F 77 i = 6 then f_X8_firstOf t (V F 85 i) else V F 78 i) ∧ (∀ b, BB F S b → f_X8_firstOf t b = if V F 90 b = -1 then f_X8_endOf t b else f_X8_entryOf t (V F 90 b)) ∧ (∀ b, BB F S b → f_X8_endOf t b = if V F 92 b = -1 then -1 else if V F 77 (V F 92 b) = 3 then V F 78 (V F 92 b) else f_X8_behind t (V F 92 b)) ∧ (∀ i, II F S i → f_X8_behind t i = if V F 87 i = -1 then f_X8_endOf t (V F 88 i) else f_X8_entryOf t (V F 87 i)) := by
  obtain ⟨hE, hF, hN, hB⟩ := mw_s hV ht hc S0 h80 539
  have e : ∀ i, II F S i → (m_W 540).1 t i = (m_W 539).1 t i := fun i hi => hE i hi (by have := hi.1; have := h86 i; omega)
  have f : ∀ b, BB F S b → (m_W 540).2.1 t b = (m_W 539).2.1 t b := fun b hb => hF b hb (fun _ => by omega) (fun z => by
    rcases (ht.2.2.2.2.2.1 b hb).2.2.1 with y | y
    · omega
    · have := y.1; have := h86 (V F 92 b); omega)
  have n : ∀ b, BB F S b → (m_W 540).2.2.1 t b = (m_W 539).2.2.1 t b := fun b hb => hN b (V F 92 b) hb (by
    rcases (ht.2.2.2.2.2.1 b hb).2.2.1 with y | y
    · exact Or.inl ⟨y, by omega⟩
    · exact Or.inr ⟨XC.self y, by have := y.1; have := h86 (V F 92 b); omega⟩)
  have h : ∀ i, II F S i → (m_W 540).2.2.2 t i = (m_W 539).2.2.2 t i := fun i hi => hB i i hi (XC.self hi) (by have := hi.1; have := h86 i; omega)
  unfold f_X8_entryOf f_X8_firstOf f_X8_endOf f_X8_behind
  refine ⟨fun i hi => ?_, fun b hb => ?_, fun b hb => ?_, fun i hi => ?_⟩
  · show f_X8_entryOf_b (m_W 539).2.1 t i = _
    unfold f_X8_entryOf_b
    repeat rewrite [bd_r]
    rw [hV]
    by_cases k : V F 77 i = 6
    · rw [if_neg (fun z => z k), if_pos k]
      repeat rewrite [bd_r]
      rw [hV]
      have b0 := ((hc i hi.1 hi.2).2.1 k).2.2.1
      rcases (ht.2.2.2.2.1 i hi).1 with t4 | t4
      · omega
      · exact (f _ t4.1).symm
    · rw [if_pos k, if_neg k]
      repeat rewrite [bd_r]
      rw [hV]
  · show f_X8_firstOf_b (m_W 539).2.2.1 (m_W 539).1 t b = _
    unfold f_X8_firstOf_b
    repeat rewrite [bd_r]
    rw [hV]
    by_cases k : V F 90 b = -1
    · rw [if_neg (fun z => z k), if_pos k]
      repeat rewrite [bd_r]
      exact (n b hb).symm
    · rw [if_pos k, if_neg k]
      repeat rewrite [bd_r]
      rcases (ht.2.2.2.2.2.1 b hb).1 with z | z
      · exact absurd z k
      · exact (e _ z.1).symm
  · show f_X8_endOf_b (m_W 539).2.2.2 t b = _
    unfold f_X8_endOf_b
    repeat rewrite [bd_r]
    rw [hV]
    by_cases k : V F 92 b = -1
    · rw [if_neg (fun z => z k), if_pos k]
    · rw [if_pos k, if_neg k]
      repeat rewrite [bd_r]
      rw [hV]
      by_cases k2 : V F 77 (V F 92 b) = 3
      · rw [if_neg (fun z => z k2), if_pos k2]
        repeat rewrite [bd_r]
        rw [hV]
      · rw [if_pos k2, if_neg k2]
        repeat rewrite [bd_r]
        rcases (ht.2.2.2.2.2.1 b hb).2.2.1 with z | z
        · exact absurd z k
        · exact (h _ z).symm
  · show f_X8_behind_b (m_W 539).2.2.1 (m_W 539).1 t i = _
    unfold f_X8_behind_b
    repeat rewrite [bd_r]
    rw [hV]
    by_cases k : V F 87 i = -1
    · rw [if_neg (fun z => z k), if_pos k]
      repeat rewrite [bd_r]
      rw [hV]
      exact (n _ (ht.2.2.1 i hi).1).symm
    · rw [if_pos k, if_neg k]
      repeat rewrite [bd_r]
      have nx := XC.next S0 ht hi (XC.self hi) k
      exact (e _ nx.1).symm

