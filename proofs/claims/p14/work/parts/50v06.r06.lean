/-! the class: all that goes through, as a question finds it -/
theorem HISC.ncl {s : ST} {c : Nat} {S : Int} (h : HISC s c S) : NCL c s.1 := by
  obtain ⟨s0, t, a, FL, FG, g, l, al, h4, h5⟩ := h
  have hc := g.1
  have cl : CL c (f_X3_read s0 a c).1 := cl_X3_read hc
  intro k k0 k1 kn
  have e : ∀ q j, c ≤ q → q ≤ c + 15 → s.1 q j = (f_X3_read s0 a c).1.1 q j := fun q j q0 q1 => (h4 q j q0 q1).1
  rw [e c 0 (by omega) (by omega)] at k1
  rw [e (c + 2) _ (by omega) (by omega)] at kn
  rw [e (c + 7) _ (by omega) (by omega), cl.2.2.1 k k0 k1 kn]
  decide
section Q
variable {c : Nat}
theorem co_n {s : ST} (f : CFC c s.1) {p : Int} : ∀ (n lab : Nat) (v : Int64) (l : Int), 0 ≤ l → l ≤ s.1 c 0 → 50 - l < (n : Int) → (∀ u, 0 ≤ u → (bt v u ↔ u < l ∧ s.1 (c + 7) u.toNat = p)) → ∀ u, 0 ≤ u → (bt (f_X0_callsOf2_ n lab c p v l s) u ↔ u < s.1 c 0 ∧ s.1 (c + 7) u.toNat = p) := by
  intro n
  have n40 := f.1
  induction n with
  | zero => intros; omega
  | succ n ih =>
    intro lab v l l0 l1 hm hv
    rw [f_X0_callsOf2_, bd_r]
    by_cases z : s.1 c 0 ≤ l
    · rw [if_pos z]
      intro u u0
      rw [hv u u0, show l = s.1 c 0 by omega]
    · rw [if_neg z, bd_r]
      by_cases w : s.1 (c + 7) l.toNat = p
      · rw [if_neg (fun k => k w), bd_r, bd_r]
        refine ih 5 _ (l + 1) (by omega) (by omega) (by omega) (fun u u0 => ?_)
        rw [lor_r, hv u u0, bit_r l0 (by omega) u0]
        constructor
        · rintro (h | h)
          · exact ⟨by omega, h.2⟩
          · rw [h]; exact ⟨by omega, w⟩
        · intro h
          by_cases k : u = l
          · exact Or.inr k
          · exact Or.inl ⟨by omega, h.2⟩
      · rw [if_pos w]
        refine ih 5 v (l + 1) (by omega) (by omega) (by omega) (fun u u0 => ?_)
        rw [hv u u0]
        constructor
        · intro h; exact ⟨by omega, h.2⟩
        · intro h
          by_cases k : u = l
          · rw [k] at h; exact absurd h.2 w
          · exact ⟨by omega, h.2⟩
theorem co_ok {s : ST} (f : CFC c s.1) (nc : NCL c s.1) {p u : Int} (p0 : 0 ≤ p) (u0 : 0 ≤ u) : bt (f_X0_callsOf2 s c p) u ↔ CAL c s.1 u p := by
  unfold f_X0_callsOf2
  rw [co_n f 139 5 0 0 (by omega) f.1.1 (by omega) (fun u u0 => ⟨fun h => absurd h bt_0, fun h => by omega⟩) u u0]
  constructor
  · intro h
    exact ⟨u0, h.1, Classical.byContradiction (fun w => by have := nc u u0 h.1 w; omega), h.2⟩
  · intro h
    exact ⟨h.2.1, h.2.2.2⟩
/-- what prepare writes behind the tables -/
def EQ6 (s s' : ST) : Prop := s'.2.2 = s.2.2 ∧ (∀ p, p ≠ 50 → p ≠ 52 → p ≠ 53 → s'.2.1 p = s.2.1 p) ∧ ∀ p j, p ≠ 51 → p ≠ 54 → ¬ (p = 49 ∧ j = 8) → s'.1 p j = s.1 p j
theorem EQ6.rfl {s : ST} : EQ6 s s := ⟨_root_.rfl, fun _ _ _ _ => _root_.rfl, fun _ _ _ _ _ => _root_.rfl⟩
theorem EQ6.tr {s u w : ST} (a : EQ6 s u) (b : EQ6 u w) : EQ6 s w := ⟨b.1.trans a.1, fun p h1 h2 h3 => (b.2.1 p h1 h2 h3).trans (a.2.1 p h1 h2 h3), fun p j h1 h2 h3 => (b.2.2 p j h1 h2 h3).trans (a.2.2 p j h1 h2 h3)⟩
theorem EQ5.e6 {s s' : ST} (h : EQ5 s s') : EQ6 s s' := ⟨h.1, fun p _ h2 h3 => h.2.1 p h2 h3, h.2.2⟩
theorem pc_n (hc : c = 2 ∨ c = 18) {s0 : ST} (f : CFC c s0.1) (nc : NCL c s0.1) (r0 : s0.2.2 49 1 = c) (h0 : ∀ y x, 0 ≤ y → y < 585 → 0 ≤ x → x < 585 → (CH s0 y x ↔ DHc c s0.1 y x)) : ∀ (n : Nat) (l x : Int) (s : ST), 0 ≤ l → l ≤ s0.1 c 1 → 300 - l < (n : Int) → EQ6 s0 s → (∀ p u, 0 ≤ p → p < l → 0 ≤ u → (bt (s.2.1 50 p.toNat) u ↔ CAL c s0.1 u p)) → EQ6 s0 (f_X4_prepare2_ n 41 l x s) ∧ SLC c s0.1 (TSM c s0.1) (f_X4_prepare2_ n 41 l x s) := by
  intro n
  have n40 := f.1
  have p5 := f.2.1
  induction n with
  | zero => intros; omega
  | succ n ih =>
    intro l x s l0 l1 hm e hl
    have ec : ∀ p, c ≤ p → p ≤ c + 15 → s.1 p = s0.1 p := fun p p1 p2 => funext fun j => e.2.2 p j (by omega) (by omega) (by omega)
    have r : s.2.2 49 1 = c := by rw [e.1]; exact r0
    rw [f_X4_prepare2_, if_pos rfl, bd_r, r, bd_r, ec c (by omega) (by omega)]
    by_cases z : s0.1 c 1 ≤ l
    · rw [if_pos z, bd_r]
      have fl := fl51 s 0
      generalize f_J7_fill_53178_at512 s 0 = t at fl ⊢
      have et : EQ6 s t := ⟨by rw [fl.1.1], fun p _ _ _ => by rw [fl.1.1], fun p j h1 _ _ => by rw [fl.1.2 p h1]⟩
      have e0 := e.tr et
      have ti : ∀ p, c ≤ p → p ≤ c + 15 → t.1 p = s0.1 p := fun p p1 p2 => funext fun j => e0.2.2 p j (by omega) (by omega) (by omega)
      have f0 : CFC c s0.1 := f
      have z51 : ∀ j : Nat, j < 30 → t.1 51 j = 0 := fl.2
      have none : ∀ p b i, RNG c s0.1 p b i → ¬ TT5 t p b i := fun p b i rg h => by
        obtain ⟨a1, a2, a3, a4, _, _⟩ := rg
        unfold TT5 at h
        rw [z51 _ (by omega)] at h
        exact ib_0 h
      have gi : GI c s0.1 t := by
        refine ⟨⟨ti, by rw [e0.1]; exact r0, fun y x y0 y1 x0 x1 => ?_, fun p u p0 p1 u0 _ => ?_⟩, fun j hj => by rw [z51 j hj]; omega, fun p b i rg h => absurd h (none p b i rg), fun p b i rg h => absurd h (none p b i rg)⟩
        · unfold CH
          rw [e0.2.1 58 (by decide) (by decide) (by decide)]
          exact h0 y x y0 y1 x0 x1
        · have q := hl p u p0 (by omega) u0
          rw [show t.2.1 50 = s.2.1 50 by rw [fl.1.1]]
          exact q
      have pr := pr_n f hc nc (s0 := t) n 1 0 t (by omega) (by omega) (by omega) EQ5.rfl gi (fun h => absurd h (by decide)) (fun _ => by omega)
      generalize f_X4_prepare2_ n 84 1 0 t = w at pr ⊢
      refine ⟨e0.tr pr.1.e6, pr.2.1.1.1, pr.2.1.1.2.1, pr.2.1.1.2.2.1, pr.2.1.1.2.2.2, fun q b i rg => ?_⟩
      exact TSM.of pr.2.1.2.2.1 pr.2.2 rg
    · rw [if_neg z, bd_r, bd_r, bd_r]
      have fs : CFC c s.1 := cfc_c (F := s0.1) (fun p p1 p2 => ec p p1 p2) f
      have ncs : NCL c s.1 := fun k k0 k1 kn => by
        rw [ec c (by omega) (by omega)] at k1
        rw [ec (c + 2) (by omega) (by omega)] at kn
        rw [ec (c + 7) (by omega) (by omega)]
        exact nc k k0 k1 kn
      have co : ∀ u, 0 ≤ u → (bt (f_X0_callsOf2 s c l) u ↔ CAL c s0.1 u l) := fun u u0 => by
        rw [co_ok fs ncs l0 u0]
        unfold CAL
        rw [ec c (by omega) (by omega), ec (c + 2) (by omega) (by omega), ec (c + 7) (by omega) (by omega)]
      generalize f_X0_callsOf2 s c l = v at co ⊢
      refine ih (l + 1) 0 _ (by omega) (by omega) (by omega) (e.tr ⟨rfl, fun p h1 _ _ => sL_nc h1, fun _ _ _ _ _ => rfl⟩) (fun p u p0 p1 u0 => ?_)
      by_cases k : p = l
      · rw [k, sL_eq]; exact co u u0
      · rw [sL_ne (by omega)]
        exact hl p u p0 (by omega) u0
theorem prep_T {s : ST} (hc : c = 2 ∨ c = 18) (f : CFC c s.1) (cl : CLB c s) (nc : NCL c s.1) (z : s.1 49 2 = 0) : SLC c s.1 (TSM c s.1) (f_X4_prepare2 s c) ∧ (f_X4_prepare2 s c).2.1 49 10 = 0 := by
  unfold f_X4_prepare2
  rw [bd_r, if_pos z, bd_r, bd_r, bd_r, bd_r, bd_r, bd_r]
  obtain ⟨s45, h45⟩ : ∃ x, x = sR (sI s 49 2 1) 49 1 c := ⟨_, rfl⟩
  rw [← h45]
  have i45 : ∀ p j, ¬ (p = 49 ∧ j = 2) → s45.1 p j = s.1 p j := fun p j hp => by
    rw [h45]
    show (sI s 49 2 1).1 p j = _
    exact sI_ne hp
  have l45 : s45.2.1 = s.2.1 := by rw [h45]; rfl
  have c47 : s45.2.2 49 1 = c := by
    rw [h45]
    show (if 49 = 49 ∧ 1 = 1 then c else s.2.2 49 1) = c
    rw [if_pos ⟨rfl, rfl⟩]
  rw [c47]
  have e45 : EQF c s.1 s45.1 := fun p h1 h2 => funext fun j => i45 p j (by omega)
  have cl45 : CLB c s45 := fun k k0 k1 => by
    rw [l45, e45 c (by omega) (by omega), e45 (c + 2) (by omega) (by omega)]
    exact cl k k0 k1
  have b := build_ok hc (cfc_c e45 f) cl45
  have t1 : TBL c s.1 (f_X1_build2 s45 c) := TBL.cg (fun p h1 h2 => (e45 p h1 h2).symm) b.2
  generalize f_X1_build2 s45 c = s49 at b t1 ⊢
  obtain ⟨s0, hs0⟩ : ∃ x, x = sL (sL s49 49 10 0) 49 12 0 := ⟨_, rfl⟩
  rw [← hs0]
  have e0 : ∀ p, c ≤ p → p ≤ c + 15 → s0.1 p = s.1 p := fun p h1 h2 => by
    rw [hs0]
    show s49.1 p = s.1 p
    rw [b.1.1]
    show s45.1 p = s.1 p
    exact e45 p h1 h2
  have f0 : CFC c s0.1 := cfc_c (F := s.1) e0 f
  have nc0 : NCL c s0.1 := fun k k0 k1 kn => by
    rw [e0 c (by omega) (by omega)] at k1
    rw [e0 (c + 2) (by omega) (by omega)] at kn
    rw [e0 (c + 7) (by omega) (by omega)]
    exact nc k k0 k1 kn
  have r0 : s0.2.2 49 1 = c := by
    rw [hs0]
    show s49.2.2 49 1 = c
    rw [b.1.2.1]
    show (if 49 = 57 ∧ 1 = 6 then c else s45.2.2 49 1) = c
    rw [if_neg (by omega), c47]
  have dc : DHc c s0.1 = DHc c s.1 := dhc_c (F := s.1) e0
  have h0 : ∀ y x, 0 ≤ y → y < 585 → 0 ≤ x → x < 585 → (CH s0 y x ↔ DHc c s0.1 y x) := fun y x y0 y1 x0 x1 => by
    rw [dc]
    have q := t1.1 y x y0 y1 x0 x1
    unfold CH at q ⊢
    rw [hs0, sL_nc (show (58 : Nat) ≠ 49 by decide), sL_nc (show (58 : Nat) ≠ 49 by decide)]
    exact q
  have k := pc_n hc f0 nc0 r0 h0 760 0 0 s0 (by omega) f0.2.1.1 (by omega) EQ6.rfl (fun p u p0 p1 => by omega)
  generalize f_X4_prepare2_ 760 41 0 0 s0 = w at k ⊢
  have cal : ∀ u q, CAL c s0.1 u q ↔ CAL c s.1 u q := fun u q => by
    unfold CAL
    rw [e0 c (by omega) (by omega), e0 (c + 2) (by omega) (by omega), e0 (c + 7) (by omega) (by omega)]
  have calf : CAL c s0.1 = CAL c s.1 := funext fun u => funext fun q => propext (cal u q)
  have ts : TSM c s0.1 = TSM c s.1 := by
    have a1 : S1 c s0.1 = S1 c s.1 := by unfold S1; rw [calf]
    have a2 : S2 c s0.1 = S2 c s.1 := by unfold S2; rw [calf]
    have a3 : S3 c s0.1 = S3 c s.1 := by unfold S3; rw [calf]
    have a4 : STP c s0.1 = STP c s.1 := by unfold STP; rw [a1, a2, a3, dc]
    have a5 : PHI c s0.1 = PHI c s.1 := by unfold PHI; rw [a4]
    have a6 : RNG c s0.1 = RNG c s.1 := by unfold RNG; rw [e0 c (by omega) (by omega)]
    have a7 : PRE c s0.1 = PRE c s.1 := by unfold PRE; rw [a5, a6]
    unfold TSM
    rw [a7]
  have rg : ∀ q b i, RNG c s.1 q b i → RNG c s0.1 q b i := fun q b i r => by
    unfold RNG at r ⊢
    rw [e0 c (by omega) (by omega)]
    exact r
  refine ⟨⟨fun p p1 p2 => (k.2.1 p p1 p2).trans (e0 p p1 p2), k.2.2.1, fun y x y0 y1 x0 x1 => ?_, fun p u p0 p1 u0 u1 => ?_, fun q b i r => ?_⟩, ?_⟩
  · rw [← dc]
    exact k.2.2.2.1 y x y0 y1 x0 x1
  · rw [← cal]
    exact k.2.2.2.2.1 p u p0 (by rw [e0 c (by omega) (by omega)]; exact p1) u0 u1
  · rw [← ts]
    exact k.2.2.2.2.2 q b i (rg q b i r)
  · rw [k.1.2.1 49 (by decide) (by decide) (by decide), hs0, sL_ne (by omega), sL_eq]
end Q
