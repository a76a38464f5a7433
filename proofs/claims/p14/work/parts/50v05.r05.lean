/-! the class: what goes through, round after round -/
/-- the table as it stands -/
def TT5 (s : ST) (q b i : Int) : Prop := ib (s.1 51 (6 * q + b).toNat) i
def SL0 (c : Nat) (F : Nat → Nat → Int) (s : ST) : Prop := (∀ p, c ≤ p → p ≤ c + 15 → s.1 p = F p) ∧ s.2.2 49 1 = c ∧ (∀ y x, 0 ≤ y → y < 585 → 0 ≤ x → x < 585 → (CH s y x ↔ DHc c F y x)) ∧ (∀ p u, 0 ≤ p → p < F c 1 → 0 ≤ u → u < 45 → (bt (s.2.1 50 p.toNat) u ↔ CAL c F u p))
theorem SL0.s {c : Nat} {F : Nat → Nat → Int} {s : ST} (h : SL0 c F s) : SLC c F (TT5 s) s := ⟨h.1, h.2.1, h.2.2.1, h.2.2.2, fun _ _ _ _ => Iff.rfl⟩
/-- what the search for what goes through writes -/
def EQ5 (s s' : ST) : Prop := s'.2.2 = s.2.2 ∧ (∀ p, p ≠ 52 → p ≠ 53 → s'.2.1 p = s.2.1 p) ∧ ∀ p j, p ≠ 51 → p ≠ 54 → ¬ (p = 49 ∧ j = 8) → s'.1 p j = s.1 p j
theorem EQ5.rfl {s : ST} : EQ5 s s := ⟨_root_.rfl, fun _ _ _ => _root_.rfl, fun _ _ _ _ _ => _root_.rfl⟩
theorem EQ5.tr {s u w : ST} (a : EQ5 s u) (b : EQ5 u w) : EQ5 s w := ⟨b.1.trans a.1, fun p h1 h2 => (b.2.1 p h1 h2).trans (a.2.1 p h1 h2), fun p j h1 h2 h3 => (b.2.2 p j h1 h2 h3).trans (a.2.2 p j h1 h2 h3)⟩
theorem EQ2.e5 {s s' : ST} (h : EQ2 s s') : EQ5 s s' := ⟨h.1, h.2.1, fun p j _ h2 h3 => h.2.2 p j h2 h3⟩
section G
variable {c : Nat} {F : Nat → Nat → Int}
theorem SL0.e5 {s s' : ST} (hc : c = 2 ∨ c = 18) (h : EQ5 s s') (a : SL0 c F s) : SL0 c F s' := by
  obtain ⟨a1, a2, a3, a4⟩ := a
  refine ⟨fun p p1 p2 => funext fun j => (h.2.2 p j (by omega) (by omega) (by omega)).trans (congrFun (a1 p p1 p2) j), by rw [h.1]; exact a2, fun y x y0 y1 x0 x1 => ?_, fun p u p0 p1 u0 u1 => ?_⟩
  · unfold CH
    rw [h.2.1 58 (by decide) (by decide)]
    exact a3 y x y0 y1 x0 x1
  · rw [h.2.1 50 (by decide) (by decide)]
    exact a4 p u p0 p1 u0 u1
/-- between two steps: small, no more than what goes through, each by the others -/
def GI (c : Nat) (F : Nat → Nat → Int) (s : ST) : Prop := SL0 c F s ∧ (∀ j : Nat, j < 30 → 0 ≤ s.1 51 j ∧ s.1 51 j < 64) ∧ (∀ p b i, RNG c F p b i → TT5 s p b i → TSM c F p b i) ∧ (∀ p b i, RNG c F p b i → TT5 s p b i → PHI c F (TT5 s) p b i)
noncomputable def CN5 (s : ST) : Nat := cc (fun k => ib (s.1 51 (k / 6)) ((k % 6 : Nat) : Int)) 180
theorem CN5.le (s : ST) : CN5 s ≤ 180 := cc_le _ _
/-- one step of a round -/
theorem g_step (f : CFC c F) (hc : c = 2 ∨ c = 18) (nc : NCL c F) {s : ST} {p b : Int} (p0 : 0 ≤ p) (p1 : p < F c 1) (b0 : 0 ≤ b) (b1 : b < 6) (g : GI c F s) : ∃ s1 v, f_X4_insFrom2 s p b = (s1, v) ∧ s1.1 51 (p * 6 + b).toNat = s.1 51 (p * 6 + b).toNat ∧ EQ5 s (sI s1 51 (p * 6 + b).toNat v) ∧ GI c F (sI s1 51 (p * 6 + b).toNat v) ∧ CN5 s ≤ CN5 (sI s1 51 (p * 6 + b).toNat v) ∧ (v ≠ s.1 51 (p * 6 + b).toNat → CN5 s + 1 ≤ CN5 (sI s1 51 (p * 6 + b).toNat v)) ∧ (v = s.1 51 (p * 6 + b).toNat → (∀ j : Nat, (sI s1 51 (p * 6 + b).toNat v).1 51 j = s.1 51 j) ∧ ∀ i, 0 ≤ i → i < 6 → PHI c F (TT5 s) p b i → TT5 s p b i) := by
  obtain ⟨sl, sm, ga, gb⟩ := g
  have p5 := f.2.1
  obtain ⟨s1, v, e, e2, v0, v1, hv⟩ := ins_ok f hc nc p0 p1 b0 b1 sl.s
  have i51 : ∀ j : Nat, s1.1 51 j = s.1 51 j := fun j => e2.2.2 51 j (by decide) (by omega)
  obtain ⟨k, hk⟩ : ∃ k, k = (p * 6 + b).toNat := ⟨_, rfl⟩
  have k30 : k < 30 := by omega
  obtain ⟨s', hs⟩ : ∃ s', s' = sI s1 51 k v := ⟨_, rfl⟩
  refine ⟨s1, v, e, ?_⟩
  rw [← hk, ← hs]
  have r51 : ∀ j : Nat, s'.1 51 j = if j = k then v else s.1 51 j := fun j => by
    rw [hs]
    by_cases z : j = k
    · rw [if_pos z, z, sI_eq]
    · rw [if_neg z, sI_ne (fun w => z w.2), i51]
  have e5 : EQ5 s s' := by
    refine e2.e5.tr ?_
    rw [hs]
    exact ⟨rfl, fun _ _ _ => rfl, fun q j h1 _ _ => sI_ne (fun w => h1 w.1)⟩
  have ix : ∀ q b' i, RNG c F q b' i → ((6 * q + b').toNat = k ↔ q = p ∧ b' = b) := fun q b' i r => by
    obtain ⟨r1, r2, r3, r4, r5, r6⟩ := r
    omega
  have tt : ∀ q b' i, RNG c F q b' i → (TT5 s' q b' i ↔ (q = p ∧ b' = b ∧ PHI c F (TT5 s) p b i) ∨ (¬ (q = p ∧ b' = b) ∧ TT5 s q b' i)) := fun q b' i r => by
    unfold TT5
    rw [r51]
    by_cases z : q = p ∧ b' = b
    · rw [if_pos ((ix q b' i r).mpr z), hv i r.2.2.2.2.1 r.2.2.2.2.2]
      exact ⟨fun h => Or.inl ⟨z.1, z.2, h⟩, fun h => by rcases h with h | h; (exact h.2.2); (exact absurd z h.1)⟩
    · rw [if_neg (fun w => z ((ix q b' i r).mp w))]
      exact ⟨fun h => Or.inr ⟨z, h⟩, fun h => by rcases h with h | h; (exact absurd ⟨h.1, h.2.1⟩ z); (exact h.2)⟩
  have up : ∀ q b' i, RNG c F q b' i → TT5 s q b' i → TT5 s' q b' i := fun q b' i r h => by
    rw [tt q b' i r]
    by_cases z : q = p ∧ b' = b
    · rw [z.1, z.2] at h r
      exact Or.inl ⟨z.1, z.2, gb p b i r h⟩
    · exact Or.inr ⟨z, h⟩
  have pu : ∀ q b' i, PHI c F (TT5 s) q b' i → PHI c F (TT5 s') q b' i := fun q b' i h => PHI.mono f up h
  have bits : ∀ j : Nat, j < 30 → ∀ i, 0 ≤ i → i < 6 → ib (s.1 51 j) i → ib (s'.1 51 j) i := fun j hj i i0 i1 h => by
    rw [r51]
    by_cases z : j = k
    · rw [if_pos z, hv i i0 i1]
      refine gb p b i ⟨p0, p1, b0, b1, i0, i1⟩ ?_
      unfold TT5
      rw [show (6 * p + b).toNat = j by omega]
      exact h
    · rw [if_neg z]; exact h
  refine ⟨i51 k, e5, ⟨sl.e5 hc e5, fun j hj => ?_, fun q b' i r h => ?_, fun q b' i r h => ?_⟩, ?_, fun ne => ?_, fun ev => ⟨fun j => ?_, fun i i0 i1 h => ?_⟩⟩
  · rw [r51]
    by_cases z : j = k
    · rw [if_pos z]; exact ⟨v0, v1⟩
    · rw [if_neg z]; exact sm j hj
  · rcases (tt q b' i r).mp h with ⟨z1, z2, h⟩ | ⟨_, h⟩
    · rw [z1, z2] at r ⊢
      exact TSM.pre f p b i r (PHI.mono f ga h)
    · exact ga q b' i r h
  · rcases (tt q b' i r).mp h with ⟨z1, z2, h⟩ | ⟨_, h⟩
    · rw [z1, z2]; exact pu p b i h
    · exact pu q b' i (gb q b' i r h)
  · exact cc_mono (fun m hm h => bits (m / 6) (by omega) _ (by omega) (by omega) h)
  · -- a bit that is new
    have nb : ∃ i, 0 ≤ i ∧ i < 6 ∧ ib v i ∧ ¬ ib (s.1 51 k) i := by
      refine Classical.byContradiction (fun no => ne (ib_inj v0 v1 (sm k k30).1 (sm k k30).2 (fun i i0 i1 => ⟨fun h => Classical.byContradiction (fun w => no ⟨i, i0, i1, h, w⟩), fun h => ?_⟩)))
      have z := bits k k30 i i0 i1 h
      rw [r51, if_pos rfl] at z
      exact z
    obtain ⟨i, i0, i1, h1, h2⟩ := nb
    refine cc_lt (x := 6 * k + i.toNat) (fun m hm h => bits (m / 6) (by omega) _ (by omega) (by omega) h) (by omega) ?_ ?_
    · rw [show (6 * k + i.toNat) / 6 = k by omega, show (((6 * k + i.toNat) % 6 : Nat) : Int) = i by omega]
      exact h2
    · rw [show (6 * k + i.toNat) / 6 = k by omega, show (((6 * k + i.toNat) % 6 : Nat) : Int) = i by omega, r51, if_pos rfl]
      exact h1
  · rw [r51]
    by_cases z : j = k
    · rw [if_pos z, z]; exact ev
    · rw [if_neg z]
  · unfold TT5
    rw [show (6 * p + b).toNat = k by omega, ← ev]
    exact (hv i i0 i1).mpr h
/-- after a round -/
def GR5 (c : Nat) (F : Nat → Nat → Int) (s0 s : ST) (v : Int) : Prop := EQ5 s0 s ∧ GI c F s ∧ (v = 0 ∨ v = 1) ∧ CN5 s0 ≤ CN5 s ∧ (v = 1 → CN5 s0 + 1 ≤ CN5 s)
/-- what stands still up to here -/
def GS5 (c : Nat) (F : Nat → Nat → Int) (s : ST) (p b : Int) : Prop := ∀ q b' i, RNG c F q b' i → (q < p ∨ (q = p ∧ b' < b)) → PHI c F (TT5 s) q b' i → TT5 s q b' i
theorem gt_n (f : CFC c F) (hc : c = 2 ∨ c = 18) (nc : NCL c F) {s0 : ST} : ∀ n : Nat,
    (∀ (v p x : Int) (s : ST), 0 ≤ p → p ≤ F c 1 → 10 * (6 - p) + 2 < (n : Int) → GR5 c F s0 s v → (v = 0 → GS5 c F s p 0) → ∃ s' v', f_X4_growThrough2_ n 4 v p x s = (s', v') ∧ GR5 c F s0 s' v' ∧ (v' = 0 → PRE c F (TT5 s'))) ∧
    (∀ (v p b : Int) (s : ST), 0 ≤ p → p < F c 1 → 0 ≤ b → b ≤ 6 → 10 * (6 - p) - b < (n : Int) → GR5 c F s0 s v → (v = 0 → GS5 c F s p b) → ∃ s' v', f_X4_growThrough2_ n 17 v p b s = (s', v') ∧ GR5 c F s0 s' v' ∧ (v' = 0 → PRE c F (TT5 s'))) := by
  intro n
  have p5 := f.2.1
  induction n with
  | zero => exact ⟨by intros; omega, by intros; omega⟩
  | succ n ih =>
    refine ⟨fun v p x s p0 p1 hm g st => ?_, fun v p b s p0 p1 b0 b1 hm g st => ?_⟩
    · rw [f_X4_growThrough2_, if_pos rfl, bd_r, g.2.1.1.2.1, bd_r, g.2.1.1.1 c (by omega) (by omega)]
      by_cases z : F c 1 ≤ p
      · rw [if_pos z]
        exact ⟨s, v, rfl, g, fun v0 q b' i r h => st v0 q b' i r (Or.inl (by have := r.2.1; omega)) h⟩
      · rw [if_neg z]
        exact ih.2 v p 0 s p0 (by omega) (by omega) (by omega) (by omega) g st
    · rw [f_X4_growThrough2_, if_neg (by decide)]
      by_cases z : 6 ≤ b
      · rw [if_pos z]
        refine ih.1 v (p + 1) 0 s (by omega) (by omega) (by omega) g (fun v0 q b' i r h => st v0 q b' i r ?_)
        have := r.2.2.2.1
        have := r.2.2.1
        omega
      · rw [if_neg z, bd2_r]
        obtain ⟨s1, w, e, eo, e5, gi, c1, c2, c3⟩ := g_step f hc nc p0 p1 b0 (show b < 6 by omega) g.2.1
        rw [e]
        dsimp only
        rw [bd_r, eo]
        by_cases y : w = s.1 51 (p * 6 + b).toNat
        · rw [if_pos y, bd_r, bd_r]
          have vi : o_ior v 0 = v := by
            rcases g.2.2.1 with h | h <;> rw [h] <;> decide
          rw [vi]
          have c4 := c3 y
          refine ih.2 v p (b + 1) _ p0 p1 (by omega) (by omega) (by omega) ⟨g.1.tr e5, gi, g.2.2.1, by have := g.2.2.2.1; omega, fun h => by have := g.2.2.2.2 h; omega⟩ (fun v0 q b' i r h ph => ?_)
          have et : TT5 (sI s1 51 (p * 6 + b).toNat w) = TT5 s := by
            funext q b i
            unfold TT5
            rw [c4.1]
          rw [et] at ph ⊢
          by_cases k : q = p ∧ b' = b
          · rw [k.1, k.2] at ph ⊢
            exact c4.2 i r.2.2.2.2.1 r.2.2.2.2.2 ph
          · exact st v0 q b' i r (by omega) ph
        · rw [if_neg y, bd_r, bd_r]
          have vi : o_ior v 1 = 1 := by
            rcases g.2.2.1 with h | h <;> rw [h] <;> decide
          rw [vi]
          exact ih.2 1 p (b + 1) _ p0 p1 (by omega) (by omega) (by omega) ⟨g.1.tr e5, gi, Or.inr rfl, by have := g.2.2.2.1; omega, fun _ => by have := g.2.2.2.1; have := c2 y; omega⟩ (fun h => absurd h (by decide))
theorem gt_ok (f : CFC c F) (hc : c = 2 ∨ c = 18) (nc : NCL c F) {s : ST} (g : GI c F s) : ∃ s' v', f_X4_growThrough2 s = (s', v') ∧ GR5 c F s s' v' ∧ (v' = 0 → PRE c F (TT5 s')) := by
  unfold f_X4_growThrough2
  exact (gt_n f hc nc 202).1 0 0 0 s (by omega) f.2.1.1 (by omega) ⟨EQ5.rfl, g, Or.inl rfl, by omega, fun h => absurd h (by decide)⟩ (fun _ q b' i r h => by have := r.1; have := r.2.2.1; omega)
/-- rounds until nothing is new -/
theorem pr_n (f : CFC c F) (hc : c = 2 ∨ c = 18) (nc : NCL c F) {s0 : ST} : ∀ (n : Nat) (v k : Int) (s : ST), 0 ≤ k → k ≤ 181 → 190 - k < (n : Int) → EQ5 s0 s → GI c F s → (v = 0 → PRE c F (TT5 s)) → (¬ v = 0 → k ≤ CN5 s) → EQ5 s0 (f_X4_prepare2_ n 84 v k s) ∧ GI c F (f_X4_prepare2_ n 84 v k s) ∧ PRE c F (TT5 (f_X4_prepare2_ n 84 v k s)) := by
  intro n
  induction n with
  | zero => intros; omega
  | succ n ih =>
    intro v k s k0 k181 hm e g h1 h2
    rw [f_X4_prepare2_, if_neg (by decide)]
    by_cases z : 180 < k
    · rw [if_pos z]
      refine ⟨e, g, ?_⟩
      by_cases w : v = 0
      · exact h1 w
      · have a := h2 w
        have b := CN5.le s
        omega
    · rw [if_neg z]
      by_cases w : v = 0
      · rw [if_pos w]
        exact ⟨e, g, h1 w⟩
      · rw [if_neg w, bd2_r]
        obtain ⟨s', v', es, gr, pr⟩ := gt_ok f hc nc g
        rw [es]
        dsimp only
        refine ih v' (k + 1) s' (by omega) (by omega) (by omega) (e.tr gr.1) gr.2.1 pr (fun nv => ?_)
        have a := h2 w
        rcases gr.2.2.1 with q | q
        · exact absurd q nv
        · have b := gr.2.2.2.2 q
          omega
end G
