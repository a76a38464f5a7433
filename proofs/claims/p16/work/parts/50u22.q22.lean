/-! by way, in the reference: the rows come to rest -/
section E
variable {c : Nat} {S : Int} {F : Nat → Nat → Int}
def OB1 (s : ST) (k u : Int) : Prop := bt (s.2.1 106 k.toNat) u
def OR0 (c : Nat) (F : Nat → Nat → Int) (s0 s : ST) : Prop := EQL 106 s0 s ∧ (∀ X, pfW c F X → ∀ k u, 0 ≤ k → k < F c 0 → 0 ≤ u → X k u → OB1 s k u) ∧ (∀ k u, 0 ≤ k → k < F c 0 → 0 ≤ u → u < 64 → FRX c F s k u → OB1 s k u)
def ORP (c : Nat) (F : Nat → Nat → Int) (s0 s : ST) : Prop := EQL 106 s0 s ∧ ∀ k u, 0 ≤ k → k < F c 0 → 0 ≤ u → (OB1 s k u ↔ GW c F k u)
noncomputable def BCN (s : ST) : Nat := cR (fun k u => ¬ OB1 s k u) 40 64
theorem ORP.of {s0 s : ST} (f : CFC c F) (en : ENDS c F) (h : OR0 c F s0 s) (fx : ∀ k u, 0 ≤ k → k < F c 0 → 0 ≤ u → u < 64 → OB1 s k u → FRX c F s k u) : ORP c F s0 s := by
  obtain ⟨h1, h2, h3⟩ := h
  have n40 := f.1
  refine ⟨h1, fun k u k0 k1 u0 => ⟨fun z => ⟨OB1 s, fun k u k0 k1 u0 z => ?_, z⟩, fun ⟨X, hX, z⟩ => h2 X hX k u k0 k1 u0 z⟩⟩
  have u64 : u < 64 := by
    by_cases g : u < 64
    · exact g
    · exact absurd z (bt_ge (by omega))
  have u40 : u < 40 := by
    by_cases g : u < 40
    · exact g
    · refine absurd z (en (fun w => OB1 s w u) (fun w w0 w1 y => ?_) k k0 k1)
      rcases fx w u w0 w1 u0 u64 y with q | q
      · omega
      · exact q.1
  refine ⟨u40, ?_⟩
  rcases fx k u k0 k1 u0 u64 z with y | y
  · exact Or.inl y
  · exact Or.inr ⟨y.1, y.2⟩
theorem or_step {s0 s : ST} {k : Int} {v : Int64} (f : CFC c F) (h : OR0 c F s0 s) (k0 : 0 ≤ k) (k1 : k < F c 0) (hv : ∀ u, 0 ≤ u → u < 64 → (bt v u ↔ FRX c F s k u)) : OR0 c F s0 (sL s 106 k.toNat v) ∧ BCN s ≤ BCN (sL s 106 k.toNat v) ∧ (¬ v = s.2.1 106 k.toNat → BCN s + 1 ≤ BCN (sL s 106 k.toNat v)) ∧ (v = s.2.1 106 k.toNat → (sL s 106 k.toNat v).2.1 106 = s.2.1 106) := by
  obtain ⟨h1, h2, h3⟩ := h
  have n40 := f.1
  have p5 := f.2.1
  have ce : ∀ w u, 0 ≤ w → 0 ≤ u → u < 64 → (OB1 (sL s 106 k.toNat v) w u ↔ if w = k then FRX c F s k u else OB1 s w u) := fun w u w0 u0 u1 => by
    unfold OB1
    by_cases z : w = k
    · rw [if_pos z, z, sL_eq]; exact hv u u0 u1
    · rw [if_neg z, sL_ne (by omega)]
  have dn : ∀ w u, 0 ≤ w → 0 ≤ u → OB1 (sL s 106 k.toNat v) w u → OB1 s w u := fun w u w0 u0 z => by
    by_cases g : u < 64
    · have y := (ce w u w0 u0 g).mp z
      by_cases x : w = k
      · rw [if_pos x] at y
        rw [x]
        exact h3 k u k0 k1 u0 g y
      · rw [if_neg x] at y
        exact y
    · exact absurd z (bt_ge (by omega))
  have un : ∀ j, 0 ≤ j → j < F c 0 → 0 ≤ F (c + 12) j.toNat ∧ 0 ≤ F (c + 13) j.toNat := fun j j0 j1 => by
    have e := f.2.2.2.2.1 j j0 j1
    exact ⟨(UO.r e.2.2.2.1 f e.2.2.1.1 e.2.2.1.2).1, (UO.r e.2.2.2.2 f e.2.2.1.1 e.2.2.1.2).1⟩
  have fm : ∀ j u, 0 ≤ j → j < F c 0 → 0 ≤ u → FRX c F (sL s 106 k.toNat v) j u → FRX c F s j u := fun j u j0 j1 u0 z => by
    have q := un j j0 j1
    rcases z with z | z
    · exact Or.inl z
    · exact Or.inr ⟨⟨z.1.1, dn _ u q.1 u0 z.1.2⟩, fun d => ⟨(z.2 d).1, dn _ u q.2 u0 (z.2 d).2⟩⟩
  refine ⟨⟨h1.tr EQL.L, fun X hX w u w0 w1 u0 z => ?_, fun w u w0 w1 u0 u1 z => ?_⟩, ?_, fun nv => ?_, fun nv => ?_⟩
  · have x := hX w u w0 w1 u0 z
    rw [ce w u w0 u0 (by omega)]
    by_cases y : w = k
    · rw [if_pos y]
      rw [y] at x
      have q := un k k0 k1
      rcases x.2 with x2 | x2
      · exact Or.inl x2
      · have e := f.2.2.2.2.1 k k0 k1
        have up : ∀ a, UO c F a (F (c + 3) k.toNat) → XS X a u → OA s a u := fun a ha hx => ⟨hx.1, h2 X hX a u (by rcases ha with g | g <;> omega) (by rcases ha with g | g; (exact g.2.1); (have := hx.1; omega)) u0 hx.2⟩
        exact Or.inr ⟨up _ e.2.2.2.1 x2.1, fun d => up _ e.2.2.2.2 (x2.2 d)⟩
    · rw [if_neg y]
      exact h2 X hX w u w0 w1 u0 z
  · rw [ce w u w0 u0 u1]
    have y := fm w u w0 w1 u0 z
    by_cases x : w = k
    · rw [if_pos x]
      rw [x] at y
      exact y
    · rw [if_neg x]
      exact h3 w u w0 w1 u0 u1 y
  · exact cR_mono (fun a b a0 _ b0 _ y z => y (dn a b a0 b0 z))
  · have ex : ∃ u, 0 ≤ u ∧ u < 64 ∧ ¬ (bt v u ↔ bt (s.2.1 106 k.toNat) u) := Classical.byContradiction (fun w => nv (bt_ext (fun j j0 j1 => Classical.byContradiction (fun y => w ⟨j, j0, j1, y⟩))))
    obtain ⟨u, u0, u1, hu⟩ := ex
    have a1 : OB1 s k u ∧ ¬ OB1 (sL s 106 k.toNat v) k u := by
      have d := dn k u k0 u0
      unfold OB1 at d ⊢
      rw [sL_eq] at d ⊢
      by_cases y : bt v u
      · exact absurd ⟨fun _ => d y, fun _ => y⟩ hu
      · exact ⟨Classical.byContradiction (fun w => hu ⟨fun z => absurd z y, fun z => absurd z w⟩), y⟩
    exact cR_lt (x := k) (y := u) (fun a b a0 _ b0 _ y z => y (dn a b a0 b0 z)) k0 (by omega) u0 (by omega) (fun w => w a1.1) a1.2
  · funext j
    by_cases y : j = k.toNat
    · rw [y, sL_eq]; exact nv
    · exact sL_ne (by omega)
theorem FRX.e {s s' : ST} {k u : Int} (h : s'.2.1 106 = s.2.1 106) : FRX c F s' k u ↔ FRX c F s k u := by
  unfold FRX OA
  rw [h]
theorem or_n {s0 : ST} (hr : RS F s0) (hS : F 70 6 = S) (b : BRI c S F) (h01 : H01 F) : ∀ n : Nat,
    (∀ (l1 l2 : Int) (a : Int64) (a5 a3 : Int) (s : ST), OR0 c F s0 s → (l1 = 0 ∨ l1 = 1) → (l1 = 0 → ∀ k u, 0 ≤ k → k < F c 0 → 0 ≤ u → u < 64 → OB1 s k u → FRX c F s k u) → 3500 + 50 * (2560 - (BCN s : Int)) + 50 * l1 < (n : Int) → ∃ (n' : Nat) (s1 : ST), 3450 < (n' : Int) ∧ ORP c F s0 s1 ∧ f_X8_laysWay2_ n 25 l1 l2 a a5 a3 s = f_X8_laysWay2_ n' 126 0 0 0 0 0 s1) ∧
    (∀ (l1 k : Int) (a : Int64) (a5 a3 : Int) (s : ST), OR0 c F s0 s → (l1 = 0 ∨ l1 = 1) → 0 ≤ k → k ≤ F c 0 → (l1 = 0 → ∀ k' u, 0 ≤ k' → k' < k → 0 ≤ u → u < 64 → OB1 s k' u → FRX c F s k' u) → 3500 + 50 * (2560 - (BCN s : Int)) + 50 * l1 + 45 - k < (n : Int) → ∃ (n' : Nat) (s1 : ST), 3450 < (n' : Int) ∧ ORP c F s0 s1 ∧ f_X8_laysWay2_ n 33 l1 k a a5 a3 s = f_X8_laysWay2_ n' 126 0 0 0 0 0 s1) := by
  have f := b.2.2.2.2.1
  have n40 := f.1
  have bl : ∀ s : ST, (BCN s : Int) ≤ 2560 := fun s => by
    have := cR_le (fun k u => ¬ OB1 s k u) 40 64
    unfold BCN
    omega
  intro n
  induction n with
  | zero =>
    refine ⟨fun l1 _ _ _ _ s _ hl _ hm => ?_, fun l1 k _ _ _ s _ hl k0 k1 _ hm => ?_⟩
    · have := bl s; omega
    · have := bl s; omega
  | succ n ih =>
    refine ⟨fun l1 l2 a a5 a3 s h hl hf hm => ?_, fun l1 k a a5 a3 s h hl k0 k1 hf hm => ?_⟩
    · have bs := bl s
      rw [f_X8_laysWay2_, if_neg (by decide), if_pos rfl]
      rcases hl with z | z
      · rw [if_pos z]
        exact ⟨n, s, by omega, ORP.of f b.2.2.2.2.2.2.2 h (hf z), rfl⟩
      · rw [if_neg (by omega)]
        exact ih.2 0 0 0 0 0 s h (Or.inl rfl) (by omega) n40.1 (fun _ k' u w1 w2 => by omega) (by omega)
    · have r := hr.q h.1.1
      by_cases z : F c 0 ≤ k
      · rw [f_X8_laysWay2_, if_neg (by decide), if_neg (by decide), if_pos rfl, bd_r, bd_r, r.g (q := 70) (j := 6) (by omega), hS, r.g (q := 75) (by omega), b.2.2.1, if_pos z]
        exact ih.1 l1 0 0 0 0 s h hl (fun w k' u w1 w2 => hf w k' u w1 (by omega)) (by omega)
      · obtain ⟨m, hm1, hm2⟩ := row_r r hS b h01 k0 (show k < F c 0 by omega) n l1 a a5 a3
        rw [hm2]
        have st := or_step f h k0 (show k < F c 0 by omega) hm1
        by_cases y : l1 = 0
        · rw [if_neg (fun w => w y)]
          by_cases x : o_lcmp m (s.2.1 106 k.toNat) = 0
          · rw [if_pos x]
            have e := st.2.2.2 (lcmp_r.mp x)
            refine ih.2 0 (k + 1) 0 0 0 _ st.1 (Or.inl rfl) (by omega) (by omega) (fun _ k' u w1 w2 w3 w4 w5 => ?_) (by omega)
            rw [FRX.e e]
            unfold OB1 at w5
            rw [e] at w5
            by_cases q : k' = k
            · rw [q] at w5 ⊢
              rw [← lcmp_r.mp x] at w5
              exact (hm1 u w3 w4).mp w5
            · exact hf y k' u w1 (by omega) w3 w4 w5
          · rw [if_neg x]
            have e := st.2.2.1 (fun w => x (lcmp_r.mpr w))
            exact ih.2 1 (k + 1) 0 0 0 _ st.1 (Or.inr rfl) (by omega) (by omega) (fun w => by omega) (by omega)
        · rw [if_pos y]
          exact ih.2 1 (k + 1) 0 0 0 _ st.1 (Or.inr rfl) (by omega) (by omega) (fun w => by omega) (by omega)
theorem or_i {s0 : ST} (hr : RS F s0) (hS : F 70 6 = S) (b : BRI c S F) (h01 : H01 F) : ∀ (n : Nat) (k l2 : Int) (a : Int64) (a5 a3 : Int) (s : ST), 0 ≤ k → k ≤ 40 → EQL 106 s0 s → (∀ k', 0 ≤ k' → k' < k → s.2.1 106 k'.toNat = -1) → 140000 - k < (n : Int) → ∃ (n' : Nat) (s1 : ST), 3450 < (n' : Int) ∧ ORP c F s0 s1 ∧ f_X8_laysWay2_ n 2 k l2 a a5 a3 s = f_X8_laysWay2_ n' 126 0 0 0 0 0 s1 := by
  have f := b.2.2.2.2.1
  have n40 := f.1
  intro n
  induction n with
  | zero => intros; omega
  | succ n ih =>
    intro k l2 a a5 a3 s k0 k1 h hk hm
    rw [f_X8_laysWay2_, if_pos rfl]
    by_cases z : 40 ≤ k
    · rw [if_pos z]
      have al : ∀ k' u, 0 ≤ k' → k' < 40 → 0 ≤ u → u < 64 → OB1 s k' u := fun k' u w1 w2 w3 w4 => by
        unfold OB1
        rw [hk k' w1 (by omega)]
        exact all_1 w3 w4
      refine (or_n hr hS b h01 n).1 1 0 0 0 0 s ⟨h, fun X hX k' u w1 w2 w3 w4 => ?_, fun k' u w1 w2 w3 w4 _ => al k' u w1 (by omega) w3 w4⟩ (Or.inr rfl) (fun w => by omega) (by omega)
      have := (hX k' u w1 w2 w3 w4).1
      exact al k' u w1 (by omega) w3 (by omega)
    · rw [if_neg z, bd_r]
      refine ih (k + 1) 0 0 0 0 _ (by omega) (by omega) (h.tr EQL.L) (fun k' w1 w2 => ?_) (by omega)
      by_cases q : k' = k
      · rw [q]; exact sL_eq _ _ _ _
      · rw [sL_ne (by omega)]
        exact hk k' w1 (by omega)
end E
