/-! what stands on all ways from a unit to the end, in the class -/
def CT3 (s : ST) (k u : Int) : Prop := bt (s.2.1 63 k.toNat) u
/-- on all ways on from w -/
def XS (X : Int → Int → Prop) (w u : Int) : Prop := w < 40 ∧ X w u
def pfW (c : Nat) (F : Nat → Nat → Int) (X : Int → Int → Prop) : Prop := ∀ k u, 0 ≤ k → k < F c 0 → 0 ≤ u → X k u → u < 40 ∧ (u = k ∨ (XS X (F (c + 12) k.toNat) u ∧ (cDE c F k → XS X (F (c + 13) k.toNat) u)))
def GW (c : Nat) (F : Nat → Nat → Int) (k u : Int) : Prop := ∃ X, pfW c F X ∧ X k u
def FW (c : Nat) (F : Nat → Nat → Int) (s : ST) (k u : Int) : Prop := u = k ∨ (CT3 s (F (c + 12) k.toNat) u ∧ (cDE c F k → CT3 s (F (c + 13) k.toNat) u))
def FC0 (c : Nat) (s0 s : ST) : Prop := EQL 63 s0 s ∧ (∀ k u, 0 ≤ k → k < 40 → 0 ≤ u → CT3 s k u → u < 40) ∧ (∀ w u, 40 ≤ w → w < 45 → 0 ≤ u → ¬ CT3 s w u) ∧ (∀ X, pfW c s0.1 X → ∀ k u, 0 ≤ k → k < s0.1 c 0 → 0 ≤ u → X k u → CT3 s k u) ∧ (∀ k u, 0 ≤ k → k < s0.1 c 0 → 0 ≤ u → u < 64 → FW c s0.1 s k u → CT3 s k u)
def FCP (c : Nat) (s0 s : ST) : Prop := EQL 63 s0 s ∧ (∀ w u, 40 ≤ w → w < 45 → 0 ≤ u → ¬ CT3 s w u) ∧ (∀ k u, 0 ≤ k → k < s0.1 c 0 → 0 ≤ u → (CT3 s k u ↔ GW c s0.1 k u))
theorem FCP.of {c : Nat} {s0 s : ST} (f : CFC c s0.1) (h : FC0 c s0 s) (fx : ∀ k u, 0 ≤ k → k < s0.1 c 0 → 0 ≤ u → u < 64 → CT3 s k u → FW c s0.1 s k u) : FCP c s0 s := by
  obtain ⟨h1, h2, h3, h4, h5⟩ := h
  have n40 := f.1
  have p5 := f.2.1
  refine ⟨h1, h3, fun k u k0 k1 u0 => ⟨fun z => ⟨CT3 s, fun k u k0 k1 u0 z => ?_, z⟩, fun ⟨X, hX, z⟩ => h4 X hX k u k0 k1 u0 z⟩⟩
  have u40 := h2 k u k0 (by omega) u0 z
  refine ⟨u40, ?_⟩
  have e := f.2.2.2.2.1 k k0 k1
  have u12 := UO.r e.2.2.2.1 f e.2.2.1.1 e.2.2.1.2
  have u13 := UO.r e.2.2.2.2 f e.2.2.1.1 e.2.2.1.2
  have up : ∀ w, 0 ≤ w → w < 45 → CT3 s w u → XS (CT3 s) w u := fun w w0 w1 y => ⟨by
    by_cases g : w < 40
    · exact g
    · exact absurd y (h3 w u (by omega) w1 u0), y⟩
  rcases fx k u k0 k1 u0 (by omega) z with y | y
  · exact Or.inl y
  · exact Or.inr ⟨up _ u12.1 u12.2 y.1, fun d => up _ u13.1 u13.2 (y.2 d)⟩
/-- how much is left -/
noncomputable def CN3 (s : ST) : Nat := cR (fun k u => ¬ CT3 s k u) 40 40
theorem fc_step {c : Nat} {s0 s : ST} {k : Int} {v : Int64} (f : CFC c s0.1) (h : FC0 c s0 s) (k0 : 0 ≤ k) (k1 : k < s0.1 c 0) (hv : ∀ u, 0 ≤ u → u < 64 → (bt v u ↔ FW c s0.1 s k u)) : FC0 c s0 (sL s 63 k.toNat v) ∧ CN3 s ≤ CN3 (sL s 63 k.toNat v) ∧ (¬ v = s.2.1 63 k.toNat → CN3 s + 1 ≤ CN3 (sL s 63 k.toNat v)) ∧ (v = s.2.1 63 k.toNat → (sL s 63 k.toNat v).2.1 63 = s.2.1 63) := by
  obtain ⟨h1, h2, h3, h4, h5⟩ := h
  have n40 := f.1
  have p5 := f.2.1
  have ce : ∀ w u, 0 ≤ w → 0 ≤ u → u < 64 → (CT3 (sL s 63 k.toNat v) w u ↔ if w = k then FW c s0.1 s k u else CT3 s w u) := fun w u w0 u0 u1 => by
    unfold CT3
    by_cases z : w = k
    · rw [if_pos z, z, sL_eq]; exact hv u u0 u1
    · rw [if_neg z, sL_ne (by omega)]
  have ge : ∀ w u, 64 ≤ u → ¬ CT3 (sL s 63 k.toNat v) w u := fun w u u1 => bt_ge u1
  have dn : ∀ w u, 0 ≤ w → 0 ≤ u → CT3 (sL s 63 k.toNat v) w u → CT3 s w u := fun w u w0 u0 z => by
    by_cases g : u < 64
    · have y := (ce w u w0 u0 g).mp z
      by_cases x : w = k
      · rw [if_pos x] at y
        rw [x]
        exact h5 k u k0 k1 u0 g y
      · rw [if_neg x] at y
        exact y
    · exact absurd z (ge w u (by omega))
  have un : ∀ j, 0 ≤ j → j < s0.1 c 0 → (0 ≤ s0.1 (c + 12) j.toNat ∧ s0.1 (c + 12) j.toNat < 45) ∧ (0 ≤ s0.1 (c + 13) j.toNat ∧ s0.1 (c + 13) j.toNat < 45) := fun j j0 j1 => by
    have e := f.2.2.2.2.1 j j0 j1
    exact ⟨UO.r e.2.2.2.1 f e.2.2.1.1 e.2.2.1.2, UO.r e.2.2.2.2 f e.2.2.1.1 e.2.2.1.2⟩
  have fm : ∀ j u, 0 ≤ j → j < s0.1 c 0 → 0 ≤ u → FW c s0.1 (sL s 63 k.toNat v) j u → FW c s0.1 s j u := fun j u j0 j1 u0 z => by
    have q := un j j0 j1
    rcases z with z | z
    · exact Or.inl z
    · exact Or.inr ⟨dn _ u q.1.1 u0 z.1, fun d => dn _ u q.2.1 u0 (z.2 d)⟩
  refine ⟨⟨h1.tr EQL.L, fun w u w0 w1 u0 z => h2 w u w0 w1 u0 (dn w u w0 u0 z), fun w u w0 w1 u0 z => h3 w u w0 w1 u0 (dn w u (by omega) u0 z), fun X hX w u w0 w1 u0 z => ?_, fun w u w0 w1 u0 u1 z => ?_⟩, ?_, fun nv => ?_, fun nv => ?_⟩
  · have x := hX w u w0 w1 u0 z
    rw [ce w u w0 u0 (by omega)]
    by_cases y : w = k
    · rw [if_pos y]
      rw [y] at x
      have q := un k k0 k1
      have up : ∀ w', 0 ≤ w' → w' < 45 → UO c s0.1 w' (s0.1 (c + 3) k.toNat) → XS X w' u → CT3 s w' u := fun w' a b d g => by
        rcases d with d | d
        · exact h4 X hX w' u a d.2.1 u0 g.2
        · have e := f.2.2.2.2.1 k k0 k1
          have := e.2.2.1
          have := g.1
          omega
      have e := f.2.2.2.2.1 k k0 k1
      rcases x.2 with g | g
      · exact Or.inl g
      · exact Or.inr ⟨up _ q.1.1 q.1.2 e.2.2.2.1 g.1, fun d => up _ q.2.1 q.2.2 e.2.2.2.2 (g.2 d)⟩
    · rw [if_neg y]
      exact h4 X hX w u w0 w1 u0 z
  · have y := fm w u w0 w1 u0 z
    rw [ce w u w0 u0 u1]
    by_cases x : w = k
    · rw [if_pos x, ← x]; exact y
    · rw [if_neg x]; exact h5 w u w0 w1 u0 u1 y
  · exact cR_mono (fun a b a0 _ b0 _ z y => z (dn a b a0 b0 y))
  · have : ∃ u, 0 ≤ u ∧ u < 64 ∧ bt (s.2.1 63 k.toNat) u ∧ ¬ bt v u := by
      rcases Classical.em (∃ u, 0 ≤ u ∧ u < 64 ∧ bt (s.2.1 63 k.toNat) u ∧ ¬ bt v u) with g | g
      · exact g
      · exfalso
        refine nv (bt_ext (fun j j0 j1 => ⟨fun z => ?_, fun z => ?_⟩))
        · exact h5 k j k0 k1 j0 j1 ((hv j j0 j1).mp z)
        · rcases Classical.em (bt v j) with y | y
          · exact y
          · exact absurd ⟨j, j0, j1, z, y⟩ g
    obtain ⟨u, u0, u1, g1, g2⟩ := this
    have u40 := h2 k u k0 (by omega) u0 g1
    refine cR_lt (R := fun k u => ¬ CT3 s k u) (Q := fun w u => ¬ CT3 (sL s 63 k.toNat v) w u) (x := k) (y := u) (fun a b a0 _ b0 _ z y => z (dn a b a0 b0 y)) k0 (by omega) u0 (by omega) (fun z => z g1) ?_
    unfold CT3
    rw [sL_eq]
    exact g2
  · funext q
    show (if 63 = 63 ∧ q = k.toNat then v else s.2.1 63 q) = s.2.1 63 q
    by_cases y : q = k.toNat
    · rw [if_pos ⟨rfl, y⟩, y, nv]
    · rw [if_neg (fun x => y x.2)]
theorem CT3.e {s s' : ST} (h : s'.2.1 63 = s.2.1 63) : CT3 s' = CT3 s := by
  funext t u
  unfold CT3
  rw [h]
theorem fc_n {c : Nat} {s0 : ST} (f : CFC c s0.1) (h57 : s0.2.2 57 6 = c) : ∀ n : Nat,
    (∀ (l1 l2 l3 : Int) (sx : ST), FC0 c s0 sx → (l1 = 0 ∨ l1 = 1) → 0 ≤ l2 → l2 ≤ 2025 → (l1 = 0 → ∀ k u, 0 ≤ k → k < s0.1 c 0 → 0 ≤ u → u < 64 → CT3 sx k u → FW c s0.1 sx k u) → (l1 = 1 → l2 ≤ (CN3 sx : Int)) → 60 * (2026 - l2) < (n : Int) → FCP c s0 (f_X1_findCertain2_ n 37 l1 l2 l3 sx)) ∧
    (∀ (l1 l2 l3 : Int) (sr sx : ST), FC0 c s0 sx → (l1 = 0 ∨ l1 = 1) → 0 ≤ l2 → l2 < 2025 → -1 ≤ l3 → l3 < s0.1 c 0 → l2 ≤ (CN3 sr : Int) → CN3 sr ≤ CN3 sx → (l1 = 0 → ∀ k u, l3 < k → k < s0.1 c 0 → 0 ≤ u → u < 64 → CT3 sx k u → FW c s0.1 sx k u) → (l1 = 1 → CN3 sr + 1 ≤ CN3 sx) → 60 * (2025 - l2) + 10 + l3 < (n : Int) → FCP c s0 (f_X1_findCertain2_ n 60 l1 l2 l3 sx)) := by
  intro n
  have n40 := f.1
  induction n with
  | zero => exact ⟨by intros; omega, by intros; omega⟩
  | succ n ih =>
    refine ⟨fun l1 l2 l3 sx h hl h0 h1 hc hn hm => ?_, fun l1 l2 l3 sr sx h hl h0 h1 h2 h3 h4 h5 hc hn hm => ?_⟩
    · have e : sx.1 = s0.1 := h.1.1
      have r : sx.2.2 57 6 = c := by rw [h.1.2.1]; exact h57
      rw [f_X1_findCertain2_, if_neg (by decide), if_pos rfl]
      have le : CN3 sx ≤ 1600 := cR_le _ _ _
      by_cases z : 2025 ≤ l2
      · rw [if_pos z]
        refine FCP.of f h (hc ?_)
        rcases hl with y | y
        · exact y
        · have := hn y; omega
      · rw [if_neg z]
        by_cases y : l1 = 0
        · rw [if_pos y]
          exact FCP.of f h (hc y)
        · rw [if_neg y, bd_r, r, bd_r, e]
          exact ih.2 0 l2 (s0.1 c 0 - 1) sx sx h (Or.inl rfl) h0 (by omega) (by omega) (by omega) (hn (by omega)) (Nat.le_refl _) (fun _ k u k0 k1 => by omega) (fun w => absurd w (by decide)) (by omega)
    · have e : sx.1 = s0.1 := h.1.1
      have r : sx.2.2 57 6 = c := by rw [h.1.2.1]; exact h57
      rw [f_X1_findCertain2_, if_neg (by decide), if_neg (by decide)]
      by_cases z : l3 < 0
      · rw [if_pos z]
        refine ih.1 l1 (l2 + 1) 0 sx h hl (by omega) (by omega) (fun w k u k0 k1 => hc w k u (by omega) k1) (fun w => ?_) (by omega)
        have := hn w
        omega
      · rw [if_neg z]
        simp only [bd_r, r, e]
        have de := de_r (X := sx) (k := l3) (by rw [e]; exact f) (by omega) (by rw [e]; exact h3)
        rw [e] at de
        have go : ∀ v : Int64, (∀ u, 0 ≤ u → u < 64 → (bt v u ↔ FW c s0.1 sx l3 u)) → FCP c s0 (if o_lcmp v (sx.2.1 63 l3.toNat) = 0 then f_X1_findCertain2_ n 60 (o_ior l1 0) l2 (l3 + -1) (sL sx 63 l3.toNat v) else f_X1_findCertain2_ n 60 (o_ior l1 1) l2 (l3 + -1) (sL sx 63 l3.toNat v)) := fun v hv => by
          have st := fc_step f h (by omega) h3 hv
          by_cases y : o_lcmp v (sx.2.1 63 l3.toNat) = 0
          · rw [if_pos y]
            have o := ior_01 hl (Or.inl rfl : (0 : Int) = 0 ∨ (0 : Int) = 1)
            have ev := st.2.2.2 (lcmp_r.mp y)
            refine ih.2 (o_ior l1 0) l2 (l3 + -1) sr _ st.1 o.1 h0 h1 (by omega) (by omega) h4 (by omega) (fun w k u k0 k1 u0 u1 x => ?_) (fun w => ?_) (by omega)
            · have w0 := (o.2.mp w).1
              unfold FW
              rw [CT3.e ev] at x ⊢
              by_cases g : k = l3
              · rw [g] at x ⊢
                refine (hv u u0 u1).mp ?_
                rw [lcmp_r.mp y]
                exact x
              · exact hc w0 k u (by omega) k1 u0 u1 x
            · have : l1 = 1 := by
                rcases hl with g | g
                · exact absurd (o.2.mpr ⟨g, rfl⟩) (by omega)
                · exact g
              have := hn this
              have := st.2.1
              omega
          · rw [if_neg y]
            have o := ior_01 hl (Or.inr rfl : (1 : Int) = 0 ∨ (1 : Int) = 1)
            have gr := st.2.2.1 (fun w => y (lcmp_r.mpr w))
            refine ih.2 (o_ior l1 1) l2 (l3 + -1) sr _ st.1 o.1 h0 h1 (by omega) (by omega) h4 (by omega) (fun w => absurd (o.2.mp w).2 (by decide)) (fun _ => by omega) (by omega)
        by_cases y : f_X0_decides sx c l3 = 0
        · rw [if_pos y]
          refine go _ (fun u u0 u1 => ?_)
          rw [lor_r, bit_r (by omega) (by omega) u0]
          exact ⟨fun w => by rcases w with w | w; (exact Or.inr ⟨w, fun d => absurd d (de.mp y)⟩); (exact Or.inl w), fun w => by rcases w with w | w; (exact Or.inr w); (exact Or.inl w.1)⟩
        · rw [if_neg y]
          have d : cDE c s0.1 l3 := Classical.byContradiction (fun w => y (de.mpr w))
          refine go _ (fun u u0 u1 => ?_)
          rw [lor_r, bit_r (by omega) (by omega) u0, land_r]
          exact ⟨fun w => by rcases w with w | w; (exact Or.inr ⟨w.1, fun _ => w.2⟩); (exact Or.inl w), fun w => by rcases w with w | w; (exact Or.inr w); (exact Or.inl ⟨w.1, w.2 d⟩)⟩
theorem fc_b {c : Nat} {s0 : ST} (f : CFC c s0.1) (h57 : s0.2.2 57 6 = c) : ∀ (n : Nat) (l1 l2 l3 : Int) (sx : ST), EQL 63 s0 sx → 0 ≤ l1 → l1 ≤ 45 → (∀ k u, 0 ≤ k → k < l1 → 0 ≤ u → u < 64 → (CT3 sx k u ↔ k < 40 ∧ u < 40)) → 121700 - l1 < (n : Int) → FCP c s0 (f_X1_findCertain2_ n 2 l1 l2 l3 sx) := by
  intro n
  have n40 := f.1
  induction n with
  | zero => intros; omega
  | succ n ih =>
    intro l1 l2 l3 sx h h0 h1 hb hm
    rw [f_X1_findCertain2_, if_pos rfl]
    by_cases z : 45 ≤ l1
    · rw [if_pos z]
      have ge : ∀ w u, 64 ≤ u → ¬ CT3 sx w u := fun w u u1 => bt_ge u1
      refine (fc_n f h57 n).1 1 0 0 sx ⟨h, fun k u k0 k1 u0 y => ?_, fun w u w0 w1 u0 y => ?_, fun X hX k u k0 k1 u0 y => ?_, fun k u k0 k1 u0 u1 y => ?_⟩ (Or.inr rfl) (by decide) (by decide) (fun w => absurd w (by decide)) (fun _ => by omega) (by omega)
      · by_cases g : u < 64
        · exact ((hb k u k0 (by omega) u0 g).mp y).2
        · exact absurd y (ge _ _ (by omega))
      · by_cases g : u < 64
        · have := ((hb w u (by omega) (by omega) u0 g).mp y).1
          omega
        · exact absurd y (ge _ _ (by omega))
      · have x := hX k u k0 k1 u0 y
        exact (hb k u k0 (by omega) u0 (by omega)).mpr ⟨by omega, x.1⟩
      · refine (hb k u k0 (by omega) u0 u1).mpr ⟨by omega, ?_⟩
        rcases y with y | y
        · omega
        · have e := f.2.2.2.2.1 k k0 k1
          have u12 := UO.r e.2.2.2.1 f e.2.2.1.1 e.2.2.1.2
          exact ((hb _ u u12.1 (by omega) u0 u1).mp y.1).2
    · rw [if_neg z]
      have stp : ∀ v : Int64, (∀ u, 0 ≤ u → u < 64 → (bt v u ↔ l1 < 40 ∧ u < 40)) → FCP c s0 (f_X1_findCertain2_ n 2 (l1 + 1) 0 0 (sL sx 63 l1.toNat v)) := fun v hv =>
        ih (l1 + 1) 0 0 _ (h.tr EQL.L) (by omega) (by omega) (fun k u k0 k1 u0 u1 => by
          unfold CT3
          by_cases y : k = l1
          · rw [y, sL_eq]; exact hv u u0 u1
          · rw [sL_ne (by omega)]; exact hb k u k0 (by omega) u0 u1) (by omega)
      by_cases y : 40 ≤ l1
      · rw [if_pos y, bd_r]
        exact stp 0 (fun u _ _ => ⟨fun w => absurd w bt_0, fun w => by omega⟩)
      · rw [if_neg y, bd_r]
        exact stp 1099511627775 (fun u u0 _ => by rw [low_r u0]; exact ⟨fun w => ⟨by omega, w⟩, fun w => w.2⟩)
theorem fc_ok {c : Nat} {s : ST} (f : CFC c s.1) (h57 : s.2.2 57 6 = c) : FCP c s (f_X1_findCertain2 s) := by
  unfold f_X1_findCertain2
  have bg := BG_le 387412
  exact fc_b f h57 (BG 387412) 0 0 0 s EQL.rfl (by decide) (by decide) (fun k u k0 k1 => by omega) (by omega)

