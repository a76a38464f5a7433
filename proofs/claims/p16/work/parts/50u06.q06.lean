/-! who told a name last: all rounds -/
noncomputable def CNT (s : ST) : Nat := cR (fun u t => TLR s t u) 45 45
theorem FT0.hs {c : Nat} {nm k : Int} {s0 s s' : ST} {v : Int} (f : CFC c s0.1) (h : FT0 c nm s0 s) (k0 : 0 ≤ k) (k1 : k < s0.1 c 0) (g : HS s s' v (cAt c s.1 nm k)) : FT0 c nm s0 s' ∧ CNT s ≤ CNT s' ∧ (v = 1 → CNT s + 1 ≤ CNT s') := by
  have e : s.1 = s0.1 := h.1.1
  rw [e] at g
  have so : ∀ t u, 0 ≤ t → 0 ≤ u → u < 45 → TLR s' t u → LT c s0.1 nm t u := g.2.2.2.1 _ (LT.cl.2 k k0 k1) h.2.1
  have fr : ∀ p, 0 ≤ p → p < s0.1 c 1 → 0 ≤ s0.1 (c + 1) p.toNat := fun p p0 p1 => (UO.r (f.2.2.2.2.2 p p0 p1) f p0 p1).1
  refine ⟨⟨h.1.tr g.1, so, fun w p p0 p1 => g.2.2.1 _ _ (by omega) (fr p p0 p1) (h.2.2 w p p0 p1)⟩, cR_mono (fun u t u0 _ t0 _ z => g.2.2.1 t u t0 u0 z), fun w => ?_⟩
  obtain ⟨t, u, t0, u0, u1, n, p⟩ := g.2.2.2.2.2 w
  have r := LT.r f (so t u t0 u0 u1 p)
  have f1 := f.1
  have f2 := f.2.1
  exact cR_lt (R := fun u t => TLR s t u) (Q := fun u t => TLR s' t u) (x := u) (y := t) (fun a b a0 _ b0 _ z => g.2.2.1 b a b0 a0 z) u0 (by omega) t0 (by omega) n p
def FTP (c : Nat) (nm : Int) (s0 s : ST) : Prop := EQL 62 s0 s ∧ ∀ t u, 0 ≤ t → 0 ≤ u → u < 45 → (TLR s t u ↔ LT c s0.1 nm t u)
theorem FTP.of {c : Nat} {nm : Int} {s0 s : ST} (f : CFC c s0.1) (h : FT0 c nm s0 s) (cl : ∀ k, 0 ≤ k → k < s0.1 c 0 → cAt c s0.1 nm k (TLR s)) : FTP c nm s0 s := by
  refine ⟨h.1, fun t u t0 u0 u1 => ⟨h.2.1 t u t0 u0 u1, fun z => ?_⟩⟩
  have n40 := f.1
  refine z (fun t u => 0 ≤ u → TLR s t u) ⟨fun w p p0 p1 _ => h.2.2 w p p0 p1, fun k k0 k1 => ?_⟩ u0
  have a := cl k k0 k1
  exact ⟨fun g => ⟨fun y _ => (a.1 g).1 y, fun y t t0 x _ => (a.1 g).2 y t t0 (x k0)⟩, fun g => ⟨fun y _ => (a.2 g).1 y, fun y t t0 x _ => (a.2 g).2 y t t0 (x k0)⟩⟩
theorem FT.full {c : Nat} {nm : Int} {s0 s : ST} (f : CFC c s0.1) (h : FT0 c nm s0 s) (n : 2025 ≤ CNT s) : ∀ k, 0 ≤ k → k < s0.1 c 0 → cAt c s0.1 nm k (TLR s) := by
  intro k k0 k1
  have e := f.2.2.2.2.1 k k0 k1
  have u12 := UO.r e.2.2.2.1 f e.2.2.1.1 e.2.2.1.2
  have u13 := UO.r e.2.2.2.2 f e.2.2.1.1 e.2.2.1.2
  have n40 := f.1
  have p5 := f.2.1
  have fu : ∀ t u, 0 ≤ t → t < 45 → 0 ≤ u → u < 45 → TLR s t u := fun t u t0 t1 u0 u1 => cR_full (R := fun u t => TLR s t u) (A := 45) (B := 45) n u0 (by omega) t0 (by omega)
  have tr : ∀ t u, 0 ≤ t → 0 ≤ u → u < 45 → TLR s t u → t < 45 := fun t u t0 u0 u1 z => by
    have := LT.r f (h.2.1 t u t0 u0 u1 z)
    omega
  exact ⟨fun _ => ⟨fun _ => fu k _ k0 (by omega) u12.1 u12.2, fun _ t t0 x => fu t _ t0 (tr t k t0 k0 (by omega) x) u12.1 u12.2⟩, fun _ => ⟨fun _ => fu k _ k0 (by omega) u13.1 u13.2, fun _ t t0 x => fu t _ t0 (tr t k t0 k0 (by omega) x) u13.1 u13.2⟩⟩
theorem ft_n {c : Nat} {nm : Int} {s0 : ST} (f : CFC c s0.1) (h57 : s0.2.2 57 6 = c) : ∀ n : Nat,
    (∀ (l2 l3 l4 : Int) (sx : ST), FT0 c nm s0 sx → (l2 = 0 ∨ l2 = 1) → 0 ≤ l3 → l3 ≤ 2025 → (l2 = 0 → ∀ k, 0 ≤ k → k < s0.1 c 0 → cAt c s0.1 nm k (TLR sx)) → (l2 = 1 → l3 ≤ (CNT sx : Int)) → 60 * (2026 - l3) < (n : Int) → FTP c nm s0 (f_X1_findTellers2_ n 64 nm l2 l3 l4 sx)) ∧
    (∀ (l2 l3 l4 : Int) (sr sx : ST), FT0 c nm s0 sx → (l2 = 0 ∨ l2 = 1) → 0 ≤ l3 → l3 < 2025 → 0 ≤ l4 → l4 ≤ s0.1 c 0 → l3 ≤ (CNT sr : Int) → CNT sr ≤ CNT sx → (l2 = 0 → ∀ k, 0 ≤ k → k < l4 → cAt c s0.1 nm k (TLR sx)) → (l2 = 1 → CNT sr + 1 ≤ CNT sx) → 60 * (2025 - l3) + 50 - l4 < (n : Int) → FTP c nm s0 (f_X1_findTellers2_ n 80 nm l2 l3 l4 sx)) := by
  intro n
  have n40 := f.1
  induction n with
  | zero => exact ⟨by intros; omega, by intros; omega⟩
  | succ n ih =>
    refine ⟨fun l2 l3 l4 sx h hl h0 h1 hc hn hm => ?_, fun l2 l3 l4 sr sx h hl h0 h1 h2 h3 h4 h5 hc hn hm => ?_⟩
    · rw [f_X1_findTellers2_, if_neg (by decide), if_pos rfl]
      by_cases z : 2025 ≤ l3
      · rw [if_pos z]
        refine FTP.of f h ?_
        rcases hl with y | y
        · exact hc y
        · exact FT.full f h (by have := hn y; omega)
      · rw [if_neg z]
        by_cases y : l2 = 0
        · rw [if_pos y]
          exact FTP.of f h (hc y)
        · rw [if_neg y]
          exact ih.2 0 l3 0 sx sx h (Or.inl rfl) h0 (by omega) (Int.le_refl _) n40.1 (hn (by omega)) (Nat.le_refl _) (fun _ k k0 k1 => by omega) (fun w => absurd w (by decide)) (by omega)
    · have e : sx.1 = s0.1 := h.1.1
      have r : sx.2.2 57 6 = c := by rw [h.1.2.1]; exact h57
      rw [f_X1_findTellers2_, if_neg (by decide), if_neg (by decide), bd_r, r, bd_r, e]
      by_cases z : s0.1 c 0 ≤ l4
      · rw [if_pos z]
        refine ih.1 l2 (l3 + 1) 0 sx h hl (by omega) (by omega) (fun w k k0 k1 => hc w k k0 (by omega)) (fun w => ?_) (by omega)
        have := hn w
        omega
      · rw [if_neg z, bd2_r, bd_r]
        have p := passOn_ok (nm := nm) (k := l4) (s := sx) (c := c) (by rw [e]; exact f) r h2 (by rw [e]; omega)
        have q := FT0.hs f h h2 (by omega) p
        have o := ior_01 hl p.2.1
        generalize f_X1_passOn2 sx l4 nm = R at p q o ⊢
        refine ih.2 (o_ior l2 R.2) l3 (l4 + 1) sr R.1 q.1 o.1 h0 h1 (by omega) (by omega) h4 (by omega) (fun w k k0 k1 => ?_) (fun w => ?_) (by omega)
        · have w2 := o.2.mp w
          have pe := p.2.2.2.2.1 w2.2
          rw [TLR.e pe.1]
          by_cases y : k = l4
          · rw [y, ← e]; exact pe.2
          · exact hc w2.1 k k0 (by omega)
        · by_cases y : l2 = 1
          · have := hn y; omega
          · have y0 : l2 = 0 := by omega
            have v1 : R.2 = 1 := by
              rcases p.2.1 with x | x
              · exact absurd (o.2.mpr ⟨y0, x⟩) (by omega)
              · exact x
            have := q.2.2 v1
            omega
/-- the begins are laid -/
theorem ft_b {c : Nat} {nm : Int} {s0 : ST} (f : CFC c s0.1) (h57 : s0.2.2 57 6 = c) (hn : nm < 2 ∨ 6 ≤ nm) : ∀ (n : Nat) (l2 l3 l4 : Int) (sx : ST), EQL 62 s0 sx → 0 ≤ l2 → l2 ≤ s0.1 c 1 → (∀ t u, 0 ≤ t → 0 ≤ u → u < 45 → (TLR sx t u ↔ ∃ p, 0 ≤ p ∧ p < l2 ∧ t = 40 + p ∧ u = s0.1 (c + 1) p.toNat)) → 121570 - l2 < (n : Int) → FTP c nm s0 (f_X1_findTellers2_ n 22 nm l2 l3 l4 sx) := by
  intro n
  have n40 := f.1
  have p5 := f.2.1
  induction n with
  | zero => intros; omega
  | succ n ih =>
    intro l2 l3 l4 sx h h0 h1 hb hm
    have e : sx.1 = s0.1 := h.1
    have r : sx.2.2 57 6 = c := by rw [h.2.1]; exact h57
    rw [f_X1_findTellers2_, if_pos rfl, bd_r, r, bd_r, e]
    by_cases z : s0.1 c 1 ≤ l2
    · rw [if_pos z]
      refine (ft_n (nm := nm) f h57 n).1 1 0 0 sx ⟨h, fun t u t0 u0 u1 w => ?_, fun _ p p0 p1 => ?_⟩ (Or.inr rfl) (by decide) (by decide) (fun w => absurd w (by decide)) (fun _ => by omega) (by omega)
      · obtain ⟨p, p0, p1, rfl, rfl⟩ := (hb t u t0 u0 u1).mp w
        exact LT.cl.1 hn p p0 (by omega)
      · have fr := UO.r (f.2.2.2.2.2 p p0 p1) f p0 p1
        exact (hb _ _ (by omega) fr.1 fr.2).mpr ⟨p, p0, by omega, rfl, rfl⟩
    · rw [if_neg z, bd_r, bd_r, bd_r, bd_r]
      have fr := UO.r (f.2.2.2.2.2 l2 h0 (by omega)) f h0 (by omega)
      refine ih (l2 + 1) 0 0 _ (h.tr EQL.L) (by omega) (by omega) (fun t u t0 u0 u1 => ?_) (by omega)
      unfold TLR
      by_cases y : u = s0.1 (c + 1) l2.toNat
      · rw [y, sL_eq, bit_r (by omega) (by omega) t0]
        constructor
        · intro w
          exact ⟨l2, h0, by omega, w, rfl⟩
        · rintro ⟨p, p0, p1, w1, w2⟩
          have g1 := f.2.2.2.2.2 l2 h0 (by omega)
          have g2 := f.2.2.2.2.2 p p0 (by omega)
          rw [← w2] at g2
          have pe : p = l2 := by
            rcases g1 with g1 | g1 <;> rcases g2 with g2 | g2 <;> omega
          rw [w1, pe]
      · rw [sL_ne (by omega)]
        have q := hb t u t0 u0 u1
        unfold TLR at q
        rw [q]
        constructor
        · rintro ⟨p, p0, p1, w1, w2⟩
          exact ⟨p, p0, by omega, w1, w2⟩
        · rintro ⟨p, p0, p1, w1, w2⟩
          have : p ≠ l2 := fun x => y (by rw [w2, x])
          exact ⟨p, p0, by omega, w1, w2⟩
theorem ft_ok {c : Nat} {nm : Int} {s : ST} (f : CFC c s.1) (h57 : s.2.2 57 6 = c) : FTP c nm s (f_X1_findTellers2 s nm) := by
  have a := fl62 s 0
  have bg := BG_le 387292
  have z0 : ∀ t u, 0 ≤ t → 0 ≤ u → u < 45 → ¬ TLR (f_J7_fill_d0a16_at622 s 0) t u := fun t u _ u0 u1 => by
    unfold TLR
    rw [a.2 u.toNat (by omega)]
    exact bt_0
  have beg : nm < 2 ∨ 6 ≤ nm → FTP c nm s (f_X1_findTellers2_ (BG 387292) 22 nm 0 0 0 (f_J7_fill_d0a16_at622 s 0)) := fun hn =>
    ft_b f h57 hn (BG 387292) 0 0 0 _ a.1 (by omega) f.2.1.1 (fun t u t0 u0 u1 => ⟨fun w => absurd w (z0 t u t0 u0 u1), fun ⟨p, p0, p1, _⟩ => by omega⟩) (by omega)
  unfold f_X1_findTellers2
  rw [bd_r]
  by_cases z : nm < 2
  · rw [if_pos z]
    exact beg (Or.inl z)
  · rw [if_neg z, bd_r, ifd_r]
    by_cases y : nm < 6
    · rw [if_pos y, if_pos rfl]
      exact (ft_n (nm := nm) f h57 (BG 387292)).1 1 0 0 _ ⟨a.1, fun t u t0 u0 u1 w => absurd w (z0 t u t0 u0 u1), fun w => by omega⟩ (Or.inr rfl) (by decide) (by decide) (fun w => absurd w (by decide)) (fun _ => by omega) (by omega)
    · rw [if_neg y, if_neg (by decide)]
      exact beg (Or.inr (by omega))

