/-! on what each place hangs by value, for one name -/
theorem tu1 (s : ST) (u p nm : Int) : (f_X1_tieUse2 s u p nm).1 = s.1 := by
  unfold f_X1_tieUse2 f_X1_tie2
  simp only [bd_r]
  repeat' split
  all_goals rfl
theorem tu2 (s : ST) (u p nm : Int) : (f_X1_tieUse2 s u p nm).2.2 = s.2.2 := by
  unfold f_X1_tieUse2 f_X1_tie2
  simp only [bd_r]
  repeat' split
  all_goals rfl
/-- one unit uses a name at some parts -/
noncomputable def usL (nm u : Int) : List Int → ST → ST
  | [], s => s
  | p :: l, s => usL nm u l (f_X1_tieUse2 s u p nm)
theorem EQH.cf {c : Nat} {s s' : ST} (h : EQH s s') (f : CFC c s.1) : CFC c s'.1 := by rw [h.1]; exact f
theorem EQH.cl {c : Nat} {s s' : ST} (hc : c = 2 ∨ c = 18) (h : EQH s s') (cl : CLB c s) : CLB c s' := fun k k0 k1 => by
  rw [h.1, h.2.2 c (by omega) (by omega) (by omega)]
  exact cl k k0 k1
theorem EQH.tl {s s' : ST} (h : EQH s s') : TLR s' = TLR s := TLR.e (h.2.2 62 (by decide) (by decide) (by decide))
theorem usL_ok {c : Nat} {u nm : Int} (hc : c = 2 ∨ c = 18) (u0 : 0 ≤ u) (u1 : u < 45) (n0 : 0 ≤ nm) (n1 : nm ≤ 9) : ∀ (l : List Int) (s : ST), (∀ p, p ∈ l → 0 ≤ p ∧ p < 13) → CFC c s.1 → s.2.2 57 6 = c → CLB c s → (∀ t, 0 ≤ t → TLR s t u → (t < s.1 c 0 ∨ (40 ≤ t ∧ t < 45 ∧ (nm < 2 ∨ 6 ≤ nm)))) → HD s (usL nm u l s) (fun y x => (∃ p, p ∈ l ∧ y = 13 * u + p) ∧ ∃ t, 0 ≤ t ∧ TLR s t u ∧ x = pT c s.1 nm t) (fun y x => (∃ p, p ∈ l) ∧ y = u ∧ u < 40 ∧ TLR s x u ∧ x < 40) NO := by
  intro l
  induction l with
  | nil =>
    intro s _ _ _ _ _
    refine HD.rfl.iff (fun y x _ _ _ => ⟨fun w => absurd w id, fun w => ?_⟩) (fun y x _ _ _ => ⟨fun w => absurd w id, fun w => ?_⟩) (fun _ _ _ _ _ => Iff.rfl)
    · obtain ⟨⟨p, hp, _⟩, _⟩ := w
      exact absurd hp List.not_mem_nil
    · obtain ⟨⟨p, hp⟩, _⟩ := w
      exact absurd hp List.not_mem_nil
  | cons p l ih =>
    intro s hl f h57 cl hr
    have hp := hl p List.mem_cons_self
    have a := tieUse_ok (c := c) (s := s) (u := u) (p := p) (nm := nm) hc f h57 cl u0 u1 hp.1 hp.2 n0 n1 hr
    have e1 := a.1.1
    have b := ih (f_X1_tieUse2 s u p nm) (fun q hq => hl q (List.mem_cons_of_mem _ hq)) (a.1.cf f) (by rw [a.1.2.1]; exact h57) (a.1.cl hc cl) (by rw [a.1.tl, e1]; exact hr)
    rw [a.1.tl, e1] at b
    refine (a.tr b).iff (fun y x _ _ _ => ?_) (fun y x _ _ _ => ?_) (fun y x _ _ _ => ⟨fun w => by rcases w with w | w <;> exact w, Or.inl⟩)
    · constructor
      · rintro (⟨w1, w2⟩ | ⟨⟨q, hq, w1⟩, w2⟩)
        · exact ⟨⟨p, List.mem_cons_self, w1⟩, w2⟩
        · exact ⟨⟨q, List.mem_cons_of_mem _ hq, w1⟩, w2⟩
      · rintro ⟨⟨q, hq, w1⟩, w2⟩
        rcases List.mem_cons.mp hq with y | y
        · exact Or.inl ⟨by rw [← y]; exact w1, w2⟩
        · exact Or.inr ⟨⟨q, y, w1⟩, w2⟩
    · constructor
      · rintro (w | ⟨⟨q, hq⟩, w⟩)
        · exact ⟨⟨p, List.mem_cons_self⟩, w⟩
        · exact ⟨⟨q, List.mem_cons_of_mem _ hq⟩, w⟩
      · rintro ⟨_, w⟩
        exact Or.inl w
/-- where a name is used -/
def USE (c : Nat) (F : Nat → Nat → Int) (nm u p : Int) : Prop := (0 ≤ u ∧ u < F c 0 ∧ ((F (c + 9) u.toNat = nm ∧ p = (if F (c + 2) u.toNat = 1 then 1 else 0)) ∨ (F (c + 10) u.toNat = nm ∧ p = (if F (c + 2) u.toNat = 1 then 2 else 0)) ∨ (F (c + 2) u.toNat = 1 ∧ 6 ≤ nm ∧ p = nm - 3))) ∨ (6 ≤ nm ∧ 40 ≤ u ∧ u < 40 + F c 1 ∧ p = nm + 3)
/-- by value, for a name, of units below b -/
def HVb (c : Nat) (F : Nat → Nat → Int) (nm b y x : Int) : Prop := ∃ u p t, USE c F nm u p ∧ u < b ∧ y = 13 * u + p ∧ 0 ≤ t ∧ LT c F nm t u ∧ x = pT c F nm t
def VVb (c : Nat) (F : Nat → Nat → Int) (nm b y x : Int) : Prop := (∃ p, USE c F nm y p) ∧ y < b ∧ y < 40 ∧ LT c F nm x y ∧ x < 40
theorem hv_step {c : Nat} {nm b : Int} {s0 sx : ST} {l : List Int} (hc : c = 2 ∨ c = 18) (n0 : 0 ≤ nm) (n1 : nm ≤ 9) (f : CFC c s0.1) (h57 : s0.2.2 57 6 = c) (cl : CLB c s0) (ft : ∀ t u, 0 ≤ t → 0 ≤ u → u < 45 → (TLR s0 t u ↔ LT c s0.1 nm t u)) (b0 : 0 ≤ b) (b1 : b < 45) (hb : ∀ p, p ∈ l ↔ USE c s0.1 nm b p) (lp : ∀ p, p ∈ l → 0 ≤ p ∧ p < 13) (h : HD s0 sx (HVb c s0.1 nm b) (VVb c s0.1 nm b) NO) : HD s0 (usL nm b l sx) (HVb c s0.1 nm (b + 1)) (VVb c s0.1 nm (b + 1)) NO := by
  have e1 := h.1.1
  have lr : ∀ t, 0 ≤ t → LT c s0.1 nm t b → (t < s0.1 c 0 ∨ (40 ≤ t ∧ t < 45 ∧ (nm < 2 ∨ 6 ≤ nm))) := fun t t0 w => by
    have r := LT.r f w
    have p5 := f.2.1
    have r2 : t < 40 ∨ nm < 2 ∨ 6 ≤ nm := w (fun t _ => t < 40 ∨ nm < 2 ∨ 6 ≤ nm) ⟨fun z _ _ _ => Or.inr z, fun k k0 k1 => ⟨fun _ => ⟨fun _ => Or.inl (by have := f.1; omega), fun _ _ _ z => z⟩, fun _ => ⟨fun _ => Or.inl (by have := f.1; omega), fun _ _ _ z => z⟩⟩⟩
    omega
  have a := usL_ok (c := c) (u := b) (nm := nm) hc b0 b1 n0 n1 l sx lp (h.1.cf f) (by rw [h.1.2.1]; exact h57) (h.1.cl hc cl) (fun t t0 w => by rw [h.1.tl] at w; rw [e1]; exact lr t t0 ((ft t b t0 b0 b1).mp w))
  rw [h.1.tl, e1] at a
  refine (h.tr a).iff (fun y x _ _ _ => ?_) (fun y x y0 x0 _ => ?_) (fun y x _ _ _ => ⟨fun w => by rcases w with w | w <;> exact w, Or.inl⟩)
  · constructor
    · rintro (⟨u, p, t, w1, w2, w3⟩ | ⟨⟨p, hp, w1⟩, t, t0, w2, w3⟩)
      · exact ⟨u, p, t, w1, by omega, w3⟩
      · exact ⟨b, p, t, (hb p).mp hp, by omega, w1, t0, (ft t b t0 b0 b1).mp w2, w3⟩
    · rintro ⟨u, p, t, w1, w2, w3, w4, w5, w6⟩
      by_cases z : u = b
      · rw [z] at w1 w3 w5
        exact Or.inr ⟨⟨p, (hb p).mpr w1, w3⟩, t, w4, (ft t b w4 b0 b1).mpr w5, w6⟩
      · exact Or.inl ⟨u, p, t, w1, by omega, w3, w4, w5, w6⟩
  · constructor
    · rintro (⟨w1, w2, w3⟩ | ⟨⟨p, hp⟩, w1, w2, w3, w4⟩)
      · exact ⟨w1, by omega, w3⟩
      · rw [w1]
        exact ⟨⟨p, (hb p).mp hp⟩, by omega, w2, (ft x b x0 b0 b1).mp w3, w4⟩
    · rintro ⟨⟨p, w1⟩, w2, w3, w4, w5⟩
      by_cases z : y = b
      · rw [z] at w1 w3 w4
        exact Or.inr ⟨⟨p, (hb p).mpr w1⟩, z, w3, (ft x b x0 b0 b1).mpr w4, w5⟩
      · exact Or.inl ⟨⟨p, w1⟩, by omega, w3, w4, w5⟩
theorem tv_n {c : Nat} {nm : Int} {s0 : ST} (hc : c = 2 ∨ c = 18) (n0 : 0 ≤ nm) (n1 : nm ≤ 9) (f : CFC c s0.1) (h57 : s0.2.2 57 6 = c) (cl : CLB c s0) (ft : ∀ t u, 0 ≤ t → 0 ≤ u → u < 45 → (TLR s0 t u ↔ LT c s0.1 nm t u)) : ∀ n : Nat,
    (∀ (l2 : Int) (sx : ST), 0 ≤ l2 → l2 ≤ s0.1 c 1 → 6 ≤ nm → HD s0 sx (HVb c s0.1 nm (40 + l2)) (VVb c s0.1 nm (40 + l2)) NO → 10 - l2 < (n : Int) → HD s0 (f_X1_tieByValue2_ n 126 nm l2 sx) (HVb c s0.1 nm 45) (VVb c s0.1 nm 45) NO) ∧
    (∀ (l2 : Int) (sx : ST), 0 ≤ l2 → l2 ≤ s0.1 c 0 → HD s0 sx (HVb c s0.1 nm l2) (VVb c s0.1 nm l2) NO → 60 - l2 < (n : Int) → HD s0 (f_X1_tieByValue2_ n 2 nm l2 sx) (HVb c s0.1 nm 45) (VVb c s0.1 nm 45) NO) := by
  intro n
  have n40 := f.1
  have p5 := f.2.1
  induction n with
  | zero => exact ⟨by intros; omega, by intros; omega⟩
  | succ n ih =>
    refine ⟨fun l2 sx h0 h1 h6 h hm => ?_, fun l2 sx h0 h1 h hm => ?_⟩
    · have e1 : sx.1 = s0.1 := h.1.1
      have r : sx.2.2 57 6 = c := by rw [h.1.2.1]; exact h57
      rw [f_X1_tieByValue2_, if_neg (by decide)]
      simp only [bd_r, tu1, tu2, r, e1]
      by_cases z : s0.1 c 1 ≤ l2
      · rw [if_pos z]
        have el : l2 = s0.1 c 1 := by omega
        refine h.iff (fun y x _ _ _ => ⟨fun ⟨u, p, t, w1, w2, w3⟩ => ⟨u, p, t, w1, by omega, w3⟩, fun ⟨u, p, t, w1, w2, w3⟩ => ⟨u, p, t, w1, ?_, w3⟩⟩) (fun y x _ _ _ => ⟨fun ⟨w1, w2, w3, w4⟩ => ⟨w1, by omega, w3, w4⟩, fun ⟨w1, w2, w3, w4⟩ => ⟨w1, by omega, w3, w4⟩⟩) (fun _ _ _ _ _ => Iff.rfl)
        rcases w1 with y | y <;> omega
      · rw [if_neg z]
        have us := hv_step (b := 40 + l2) (l := [7 + f_X7_portOfField2 sx nm]) hc n0 n1 f h57 cl ft (by omega) (by omega) (fun p => ?_) (fun p hp => ?_) h
        · rw [show 40 + l2 + 1 = 40 + (l2 + 1) by omega] at us
          exact ih.1 (l2 + 1) _ (by omega) (by omega) h6 us (by omega)
        · rw [List.mem_singleton]
          unfold USE f_X7_portOfField2
          constructor
          · intro w
            exact Or.inr ⟨h6, by omega, by omega, by omega⟩
          · intro w
            rcases w with w | w <;> omega
        · rw [List.mem_singleton] at hp
          unfold f_X7_portOfField2 at hp
          omega
    · have e1 : sx.1 = s0.1 := h.1.1
      have r : sx.2.2 57 6 = c := by rw [h.1.2.1]; exact h57
      rw [f_X1_tieByValue2_, if_pos rfl]
      simp only [bd_r, tu1, tu2, r, e1, ifd_r]
      by_cases z : s0.1 c 0 ≤ l2
      · rw [if_pos z]
        have el : l2 = s0.1 c 0 := by omega
        have h40 : ∀ b, (b = 40 ∨ (b = 45 ∧ nm < 6)) → HD s0 sx (HVb c s0.1 nm b) (VVb c s0.1 nm b) NO := fun b hb => by
          refine h.iff (fun y x _ _ _ => ⟨fun ⟨u, p, t, w1, w2, w3⟩ => ⟨u, p, t, w1, by omega, w3⟩, fun ⟨u, p, t, w1, w2, w3⟩ => ⟨u, p, t, w1, ?_, w3⟩⟩) (fun y x _ _ _ => ⟨fun ⟨w1, w2, w3, w4⟩ => ⟨w1, by omega, w3, w4⟩, fun ⟨⟨p, w1⟩, w2, w3, w4⟩ => ⟨⟨p, w1⟩, ?_, w3, w4⟩⟩) (fun _ _ _ _ _ => Iff.rfl)
          · rcases w1 with y | y <;> omega
          · rcases w1 with y | y <;> omega
        by_cases y : nm < 6
        · rw [if_pos y, if_pos rfl]
          exact h40 45 (Or.inr ⟨rfl, y⟩)
        · rw [if_neg y, if_neg (by decide)]
          exact ih.1 0 sx (by omega) p5.1 (by omega) (h40 40 (Or.inl rfl)) (by omega)
      · rw [if_neg z]
        have use : ∀ l : List Int, (∀ p, p ∈ l ↔ USE c s0.1 nm l2 p) → (∀ p, p ∈ l → 0 ≤ p ∧ p < 13) → HD s0 (f_X1_tieByValue2_ n 2 nm (l2 + 1) (usL nm l2 l sx)) (HVb c s0.1 nm 45) (VVb c s0.1 nm 45) NO := fun l hl hp =>
          ih.2 (l2 + 1) _ (by omega) (by omega) (hv_step (b := l2) hc n0 n1 f h57 cl ft h0 (by omega) hl hp h) (by omega)
        have pf : ∀ s : ST, f_X7_portOfField2 s nm = nm - 4 := fun s => by unfold f_X7_portOfField2; omega
        simp only [pf]
        by_cases hk : s0.1 (c + 2) l2.toNat = 1
        · skip
          by_cases hl : s0.1 (c + 9) l2.toNat = nm
          · skip
            by_cases hr : s0.1 (c + 10) l2.toNat = nm
            · skip
              by_cases h6 : nm < 6
              · skip
                rw [if_neg (fun q => q hk), if_neg (fun q => q hl), if_neg (fun q => q hr), if_pos h6, if_pos rfl]
                refine use [1, 2] (fun p => ?_) (fun p hp => ?_)
                · unfold USE
                  rw [if_pos hk, if_pos hk]
                  simp only [List.mem_cons, List.not_mem_nil, or_false]
                  constructor
                  · intro w
                    rcases w with w | w
                    · exact Or.inl ⟨h0, by omega, Or.inl ⟨hl, w⟩⟩
                    · exact Or.inl ⟨h0, by omega, Or.inr (Or.inl ⟨hr, w⟩)⟩
                  · intro w
                    rcases w with ⟨_, _, w⟩ | w
                    · rcases w with w | w | w
                      · have w2 := w.2; omega
                      · have w2 := w.2; omega
                      · have w2 := w.2; omega
                    · omega
                · simp only [List.mem_cons, List.not_mem_nil, or_false] at hp
                  omega
              · skip
                rw [if_neg (fun q => q hk), if_neg (fun q => q hl), if_neg (fun q => q hr), if_neg h6, if_neg (show ¬ (1 : Int) = 0 by decide)]
                refine use [1, 2, 1 + (nm - 4)] (fun p => ?_) (fun p hp => ?_)
                · unfold USE
                  rw [if_pos hk, if_pos hk]
                  simp only [List.mem_cons, List.not_mem_nil, or_false]
                  constructor
                  · intro w
                    rcases w with w | w | w
                    · exact Or.inl ⟨h0, by omega, Or.inl ⟨hl, w⟩⟩
                    · exact Or.inl ⟨h0, by omega, Or.inr (Or.inl ⟨hr, w⟩)⟩
                    · exact Or.inl ⟨h0, by omega, Or.inr (Or.inr ⟨hk, by omega, by omega⟩)⟩
                  · intro w
                    rcases w with ⟨_, _, w⟩ | w
                    · rcases w with w | w | w
                      · have w2 := w.2; omega
                      · have w2 := w.2; omega
                      · have w2 := w.2; omega
                    · omega
                · simp only [List.mem_cons, List.not_mem_nil, or_false] at hp
                  omega
            · skip
              by_cases h6 : nm < 6
              · skip
                rw [if_neg (fun q => q hk), if_neg (fun q => q hl), if_pos hr, if_pos h6, if_pos rfl]
                refine use [1] (fun p => ?_) (fun p hp => ?_)
                · unfold USE
                  rw [if_pos hk, if_pos hk]
                  simp only [List.mem_cons, List.not_mem_nil, or_false]
                  constructor
                  · intro w
                    exact Or.inl ⟨h0, by omega, Or.inl ⟨hl, w⟩⟩
                  · intro w
                    rcases w with ⟨_, _, w⟩ | w
                    · rcases w with w | w | w
                      · have w2 := w.2; omega
                      · exact absurd w.1 hr
                      · have w2 := w.2; omega
                    · omega
                · simp only [List.mem_cons, List.not_mem_nil, or_false] at hp
                  omega
              · skip
                rw [if_neg (fun q => q hk), if_neg (fun q => q hl), if_pos hr, if_neg h6, if_neg (show ¬ (1 : Int) = 0 by decide)]
                refine use [1, 1 + (nm - 4)] (fun p => ?_) (fun p hp => ?_)
                · unfold USE
                  rw [if_pos hk, if_pos hk]
                  simp only [List.mem_cons, List.not_mem_nil, or_false]
                  constructor
                  · intro w
                    rcases w with w | w
                    · exact Or.inl ⟨h0, by omega, Or.inl ⟨hl, w⟩⟩
                    · exact Or.inl ⟨h0, by omega, Or.inr (Or.inr ⟨hk, by omega, by omega⟩)⟩
                  · intro w
                    rcases w with ⟨_, _, w⟩ | w
                    · rcases w with w | w | w
                      · have w2 := w.2; omega
                      · exact absurd w.1 hr
                      · have w2 := w.2; omega
                    · omega
                · simp only [List.mem_cons, List.not_mem_nil, or_false] at hp
                  omega
          · skip
            by_cases hr : s0.1 (c + 10) l2.toNat = nm
            · skip
              by_cases h6 : nm < 6
              · skip
                rw [if_neg (fun q => q hk), if_pos hl, if_neg (fun q => q hr), if_pos h6, if_pos rfl]
                refine use [2] (fun p => ?_) (fun p hp => ?_)
                · unfold USE
                  rw [if_pos hk, if_pos hk]
                  simp only [List.mem_cons, List.not_mem_nil, or_false]
                  constructor
                  · intro w
                    exact Or.inl ⟨h0, by omega, Or.inr (Or.inl ⟨hr, w⟩)⟩
                  · intro w
                    rcases w with ⟨_, _, w⟩ | w
                    · rcases w with w | w | w
                      · exact absurd w.1 hl
                      · have w2 := w.2; omega
                      · have w2 := w.2; omega
                    · omega
                · simp only [List.mem_cons, List.not_mem_nil, or_false] at hp
                  omega
              · skip
                rw [if_neg (fun q => q hk), if_pos hl, if_neg (fun q => q hr), if_neg h6, if_neg (show ¬ (1 : Int) = 0 by decide)]
                refine use [2, 1 + (nm - 4)] (fun p => ?_) (fun p hp => ?_)
                · unfold USE
                  rw [if_pos hk, if_pos hk]
                  simp only [List.mem_cons, List.not_mem_nil, or_false]
                  constructor
                  · intro w
                    rcases w with w | w
                    · exact Or.inl ⟨h0, by omega, Or.inr (Or.inl ⟨hr, w⟩)⟩
                    · exact Or.inl ⟨h0, by omega, Or.inr (Or.inr ⟨hk, by omega, by omega⟩)⟩
                  · intro w
                    rcases w with ⟨_, _, w⟩ | w
                    · rcases w with w | w | w
                      · exact absurd w.1 hl
                      · have w2 := w.2; omega
                      · have w2 := w.2; omega
                    · omega
                · simp only [List.mem_cons, List.not_mem_nil, or_false] at hp
                  omega
            · skip
              by_cases h6 : nm < 6
              · skip
                rw [if_neg (fun q => q hk), if_pos hl, if_pos hr, if_pos h6, if_pos rfl]
                refine use [] (fun p => ?_) (fun p hp => ?_)
                · unfold USE
                  rw [if_pos hk, if_pos hk]
                  refine ⟨fun w => absurd w List.not_mem_nil, fun w => ?_⟩
                  rcases w with ⟨_, _, w⟩ | w
                  · rcases w with w | w | w
                    · exact absurd w.1 hl
                    · exact absurd w.1 hr
                    · omega
                  · omega
                · exact absurd hp List.not_mem_nil
              · skip
                rw [if_neg (fun q => q hk), if_pos hl, if_pos hr, if_neg h6, if_neg (show ¬ (1 : Int) = 0 by decide)]
                refine use [1 + (nm - 4)] (fun p => ?_) (fun p hp => ?_)
                · unfold USE
                  rw [if_pos hk, if_pos hk]
                  simp only [List.mem_cons, List.not_mem_nil, or_false]
                  constructor
                  · intro w
                    exact Or.inl ⟨h0, by omega, Or.inr (Or.inr ⟨hk, by omega, by omega⟩)⟩
                  · intro w
                    rcases w with ⟨_, _, w⟩ | w
                    · rcases w with w | w | w
                      · exact absurd w.1 hl
                      · exact absurd w.1 hr
                      · have w2 := w.2; omega
                    · omega
                · simp only [List.mem_cons, List.not_mem_nil, or_false] at hp
                  omega
        · skip
          by_cases hl : s0.1 (c + 9) l2.toNat = nm
          · skip
            by_cases hr : s0.1 (c + 10) l2.toNat = nm
            · skip
              rw [if_pos hk, if_neg (fun q => q hl), if_neg (fun q => q hr)]
              refine use [0, 0] (fun p => ?_) (fun p hp => ?_)
              · unfold USE
                rw [if_neg hk, if_neg hk]
                simp only [List.mem_cons, List.not_mem_nil, or_false]
                constructor
                · intro w
                  rcases w with w | w
                  · exact Or.inl ⟨h0, by omega, Or.inl ⟨hl, w⟩⟩
                  · exact Or.inl ⟨h0, by omega, Or.inr (Or.inl ⟨hr, w⟩)⟩
                · intro w
                  rcases w with ⟨_, _, w⟩ | w
                  · rcases w with w | w | w
                    · have w2 := w.2; omega
                    · have w2 := w.2; omega
                    · exact absurd w.1 hk
                  · omega
              · simp only [List.mem_cons, List.not_mem_nil, or_false] at hp
                omega
            · skip
              rw [if_pos hk, if_neg (fun q => q hl), if_pos hr]
              refine use [0] (fun p => ?_) (fun p hp => ?_)
              · unfold USE
                rw [if_neg hk, if_neg hk]
                simp only [List.mem_cons, List.not_mem_nil, or_false]
                constructor
                · intro w
                  exact Or.inl ⟨h0, by omega, Or.inl ⟨hl, w⟩⟩
                · intro w
                  rcases w with ⟨_, _, w⟩ | w
                  · rcases w with w | w | w
                    · have w2 := w.2; omega
                    · exact absurd w.1 hr
                    · exact absurd w.1 hk
                  · omega
              · simp only [List.mem_cons, List.not_mem_nil, or_false] at hp
                omega
          · skip
            by_cases hr : s0.1 (c + 10) l2.toNat = nm
            · skip
              rw [if_pos hk, if_pos hl, if_neg (fun q => q hr)]
              refine use [0] (fun p => ?_) (fun p hp => ?_)
              · unfold USE
                rw [if_neg hk, if_neg hk]
                simp only [List.mem_cons, List.not_mem_nil, or_false]
                constructor
                · intro w
                  exact Or.inl ⟨h0, by omega, Or.inr (Or.inl ⟨hr, w⟩)⟩
                · intro w
                  rcases w with ⟨_, _, w⟩ | w
                  · rcases w with w | w | w
                    · exact absurd w.1 hl
                    · have w2 := w.2; omega
                    · exact absurd w.1 hk
                  · omega
              · simp only [List.mem_cons, List.not_mem_nil, or_false] at hp
                omega
            · skip
              rw [if_pos hk, if_pos hl, if_pos hr]
              refine use [] (fun p => ?_) (fun p hp => ?_)
              · unfold USE
                rw [if_neg hk, if_neg hk]
                refine ⟨fun w => absurd w List.not_mem_nil, fun w => ?_⟩
                rcases w with ⟨_, _, w⟩ | w
                · rcases w with w | w | w
                  · exact absurd w.1 hl
                  · exact absurd w.1 hr
                  · exact absurd w.1 hk
                · omega
              · exact absurd hp List.not_mem_nil
theorem tv_ok {c : Nat} {nm : Int} {s0 : ST} (hc : c = 2 ∨ c = 18) (n0 : 0 ≤ nm) (n1 : nm ≤ 9) (f : CFC c s0.1) (h57 : s0.2.2 57 6 = c) (cl : CLB c s0) (ft : ∀ t u, 0 ≤ t → 0 ≤ u → u < 45 → (TLR s0 t u ↔ LT c s0.1 nm t u)) : HD s0 (f_X1_tieByValue2 s0 nm) (HVb c s0.1 nm 45) (VVb c s0.1 nm 45) NO := by
  unfold f_X1_tieByValue2
  refine (tv_n hc n0 n1 f h57 cl ft 160).2 0 s0 (by omega) f.1.1 (HD.rfl.iff (fun y x _ _ _ => ⟨fun w => absurd w id, fun ⟨u, p, t, w1, w2, _⟩ => ?_⟩) (fun y x y0 _ _ => ⟨fun w => absurd w id, fun ⟨_, w2, _⟩ => by omega⟩) (fun _ _ _ _ _ => Iff.rfl)) (by omega)
  rcases w1 with w | w <;> omega

