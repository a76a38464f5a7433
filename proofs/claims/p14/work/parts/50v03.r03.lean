/-! the class's searching: one place after another -/
def NCL (c : Nat) (F : Nat → Nat → Int) : Prop := ∀ k, 0 ≤ k → k < F c 0 → ¬ F (c + 2) k.toNat = 1 → F (c + 7) k.toNat < 0
/-- what a search reads -/
def SLC (c : Nat) (F : Nat → Nat → Int) (T : Int → Int → Int → Prop) (s : ST) : Prop := (∀ p, c ≤ p → p ≤ c + 15 → s.1 p = F p) ∧ s.2.2 49 1 = c ∧ (∀ y x, 0 ≤ y → y < 585 → 0 ≤ x → x < 585 → (CH s y x ↔ DHc c F y x)) ∧ (∀ p u, 0 ≤ p → p < F c 1 → 0 ≤ u → u < 45 → (bt (s.2.1 50 p.toNat) u ↔ CAL c F u p)) ∧ (∀ q b i, RNG c F q b i → (ib (s.1 51 (6 * q + b).toNat) i ↔ T q b i))
section S
variable {c : Nat} {F : Nat → Nat → Int} {T : Int → Int → Int → Prop} {pl : Nat}
theorem SLC.eqp {s s' : ST} (hc : c = 2 ∨ c = 18) (hp : pl = 52 ∨ pl = 53) (h : EQP pl s s') (a : SLC c F T s) : SLC c F T s' := by
  obtain ⟨a1, a2, a3, a4, a5⟩ := a
  have i : ∀ p, p ≠ 54 → p ≠ 49 → s'.1 p = s.1 p := fun p h1 h2 => funext fun j => h.2.2 p j h1 (fun z => h2 z.1)
  refine ⟨fun p p1 p2 => (i p (by omega) (by omega)).trans (a1 p p1 p2), by rw [h.1]; exact a2, fun y x y0 y1 x0 x1 => ?_, fun p u p0 p1 u0 u1 => ?_, fun q b j r => ?_⟩
  · unfold CH
    rw [h.2.1 58 (by omega)]
    exact a3 y x y0 y1 x0 x1
  · rw [h.2.1 50 (by omega)]
    exact a4 p u p0 p1 u0 u1
  · rw [i 51 (by decide) (by decide)]
    exact a5 q b j r
theorem fr_n (hc : c = 2 ∨ c = 18) (hp : pl = 52 ∨ pl = 53) {y : Int} (y0 : 0 ≤ y) (y1 : y < 585) : ∀ (n lab : Nat) (l : Int) (sx : ST) (X : Int → Prop), 0 ≤ l → l ≤ 13 → 20 - l < (n : Int) → QP pl X sx → SLC c F T sx → EQP pl sx (f_X4_followRow2_ n lab pl (y * 13) l sx) ∧ PXF sx (f_X4_followRow2_ n lab pl (y * 13) l sx) ∧ QP pl (fun x => X x ∨ (0 ≤ x ∧ x < 585 ∧ l ≤ x % 13 ∧ DHc c F y x)) (f_X4_followRow2_ n lab pl (y * 13) l sx) := by
  intro n
  induction n with
  | zero => intros; omega
  | succ n ih =>
    intro lab l sx X l0 l13 hm q sl
    rw [f_X4_followRow2_]
    by_cases z : 13 ≤ l
    · rw [if_pos z]
      exact ⟨EQP.rfl, PXF.rfl, q.iff (fun x => ⟨Or.inl, fun w => by rcases w with w | w; (exact w); (omega)⟩)⟩
    · rw [if_neg z, bd_r, bd_r]
      obtain ⟨v, hv⟩ : ∃ v, v = sx.2.1 58 (y * 13 + l).toNat := ⟨_, rfl⟩
      rw [← hv]
      have bv : ∀ x, 0 ≤ x → x < 585 → x % 13 = l → (bt v (x / 13) ↔ DHc c F y x) := fun x x0 x1 e => by
        have a := sl.2.2.1 y x y0 y1 x0 x1
        unfold CH at a
        rw [e, show 13 * y + l = y * 13 + l by omega, ← hv] at a
        exact a
      by_cases w : o_lcmp v 0 = 0
      · rw [if_pos w]
        have v0 := lz_r.mp (lcmp_r.mp w)
        have r := ih 8 (l + 1) sx X (by omega) (by omega) (by omega) q sl
        refine ⟨r.1, r.2.1, r.2.2.iff (fun x => ?_)⟩
        constructor
        · rintro (h | ⟨x0, x1, x2, h⟩)
          · exact Or.inl h
          · exact Or.inr ⟨x0, x1, by omega, h⟩
        · rintro (h | ⟨x0, x1, x2, h⟩)
          · exact Or.inl h
          · by_cases k : x % 13 = l
            · exact absurd ((bv x x0 x1 k).mpr h) (v0 (x / 13) (by omega) (by omega))
            · exact Or.inr ⟨x0, x1, by omega, h⟩
      · rw [if_neg w, bd_r]
        have a := addq_ok (m := v) l0 (show l < 13 by omega) q
        generalize f_X4_add2 sx pl l v = t at a ⊢
        have r := ih 8 (l + 1) t _ (by omega) (by omega) (by omega) a.2.2 (sl.eqp hc hp a.1)
        refine ⟨a.1.tr r.1, a.2.1.tr r.2.1, r.2.2.iff (fun x => ?_)⟩
        constructor
        · rintro ((h | ⟨u, u0, u1, h, e⟩) | ⟨x0, x1, x2, h⟩)
          · exact Or.inl h
          · refine Or.inr ⟨by omega, by omega, by omega, (bv x (by omega) (by omega) (by omega)).mp ?_⟩
            rw [show x / 13 = u by omega]
            exact h
          · exact Or.inr ⟨x0, x1, by omega, h⟩
        · rintro (h | ⟨x0, x1, x2, h⟩)
          · exact Or.inl (Or.inl h)
          · by_cases k : x % 13 = l
            · exact Or.inl (Or.inr ⟨x / 13, by omega, by omega, (bv x x0 x1 k).mpr h, by omega⟩)
            · exact Or.inr ⟨x0, x1, by omega, h⟩
theorem fr_ok (f : CFC c F) (hc : c = 2 ∨ c = 18) (hp : pl = 52 ∨ pl = 53) {y : Int} (y0 : 0 ≤ y) (y1 : y < 585) {s : ST} {X : Int → Prop} (q : QP pl X s) (sl : SLC c F T s) : EQP pl s (f_X4_followRow2 s pl y) ∧ PXF s (f_X4_followRow2 s pl y) ∧ QP pl (fun x => X x ∨ DHc c F y x) (f_X4_followRow2 s pl y) := by
  unfold f_X4_followRow2
  have r := fr_n (T := T) hc hp y0 y1 58 8 0 s X (by omega) (by omega) (by omega) q sl
  refine ⟨r.1, r.2.1, r.2.2.iff (fun x => ?_)⟩
  constructor
  · rintro (h | ⟨_, _, _, h⟩)
    · exact Or.inl h
    · exact Or.inr h
  · rintro (h | h)
    · exact Or.inl h
    · have v := (dhc_v f h).r f
      exact Or.inr ⟨v.1, v.2, by omega, h⟩
theorem fcl_n (hp : pl = 52 ∨ pl = 53) {u k a q v : Int} (u0 : 0 ≤ u) (u1 : u < 40) (k0 : 7 ≤ k) (k1 : k < 13) (q0 : 0 ≤ q) (q1 : q < 5) : ∀ (n lab : Nat) (l : Int) (sx : ST) (X : Int → Prop), 0 ≤ l → l ≤ 6 → 10 - l < (n : Int) → QP pl X sx → EQP pl sx (f_X4_followCall2_ n lab pl u k a q v l sx) ∧ PXF sx (f_X4_followCall2_ n lab pl u k a q v l sx) ∧ QP pl (fun x => X x ∨ (∃ i, l ≤ i ∧ i < 6 ∧ ib v i ∧ x = 13 * u + 1 + i) ∨ (a = 2 ∧ x = 13 * (40 + q) + k)) (f_X4_followCall2_ n lab pl u k a q v l sx) := by
  intro n
  induction n with
  | zero => intros; omega
  | succ n ih =>
    intro lab l sx X l0 l6 hm qp
    rw [f_X4_followCall2_]
    by_cases z : 6 ≤ l
    · rw [if_pos z]
      by_cases a2 : a = 2
      · rw [if_neg (fun w => w a2), bd_r, bd_r]
        have r := addq_ok (m := o_lshl (1 : Int64) (40 + q)) (show 0 ≤ k by omega) k1 qp
        refine ⟨r.1, r.2.1, r.2.2.iff (fun x => ?_)⟩
        constructor
        · rintro (h | ⟨t, t0, t1, h, e⟩)
          · exact Or.inl h
          · have et := (shl_r (show 0 ≤ 40 + q by omega) (by omega) t0).mp h
            rw [et] at e
            exact Or.inr (Or.inr ⟨a2, e⟩)
        · rintro (h | ⟨i, i0, i1, _⟩ | ⟨_, e⟩)
          · exact Or.inl h
          · omega
          · exact Or.inr ⟨40 + q, by omega, by omega, (shl_r (by omega) (by omega) (by omega)).mpr rfl, e⟩
      · rw [if_pos a2]
        refine ⟨EQP.rfl, PXF.rfl, qp.iff (fun x => ⟨Or.inl, fun w => ?_⟩)⟩
        rcases w with w | ⟨i, i0, i1, _⟩ | ⟨w, _⟩
        · exact w
        · omega
        · exact absurd w a2
    · rw [if_neg z, bd_r, bd_r]
      have bi := ib_us (v := v) (k := l) l0 (by omega)
      by_cases w : o_iand (o_iushr v l) 1 = 0
      · rw [if_pos w]
        have nb : ¬ ib v l := fun h => by have := bi.mpr h; omega
        have r := ih 37 (l + 1) sx X (by omega) (by omega) (by omega) qp
        refine ⟨r.1, r.2.1, r.2.2.iff (fun x => ?_)⟩
        constructor
        · rintro (h | ⟨i, i0, h⟩ | h)
          · exact Or.inl h
          · exact Or.inr (Or.inl ⟨i, by omega, h⟩)
          · exact Or.inr (Or.inr h)
        · rintro (h | ⟨i, i0, i1, h, e⟩ | h)
          · exact Or.inl h
          · by_cases k : i = l
            · rw [k] at h; exact absurd h nb
            · exact Or.inr (Or.inl ⟨i, by omega, i1, h, e⟩)
          · exact Or.inr (Or.inr h)
      · rw [if_neg w, bd_r, bd_r]
        have hb : ib v l := by
          rcases iand_01 (o_iushr v l) with g | g
          · exact absurd g w
          · exact bi.mp g
        have r1 := addq_ok (m := o_lshl (1 : Int64) u) (show 0 ≤ 1 + l by omega) (show 1 + l < 13 by omega) qp
        generalize f_X4_add2 sx pl (1 + l) (o_lshl (1 : Int64) u) = t at r1 ⊢
        have r := ih 37 (l + 1) t _ (by omega) (by omega) (by omega) r1.2.2
        refine ⟨r1.1.tr r.1, r1.2.1.tr r.2.1, r.2.2.iff (fun x => ?_)⟩
        constructor
        · rintro ((h | ⟨t, t0, t1, h, e⟩) | ⟨i, i0, h⟩ | h)
          · exact Or.inl h
          · have et := (shl_r u0 (show u ≤ 63 by omega) t0).mp h
            rw [et] at e
            exact Or.inr (Or.inl ⟨l, by omega, by omega, hb, by omega⟩)
          · exact Or.inr (Or.inl ⟨i, by omega, h⟩)
          · exact Or.inr (Or.inr h)
        · rintro (h | ⟨i, i0, i1, h, e⟩ | h)
          · exact Or.inl (Or.inl h)
          · by_cases k : i = l
            · exact Or.inl (Or.inr ⟨u, u0, by omega, (shl_r u0 (by omega) u0).mpr rfl, by omega⟩)
            · exact Or.inr (Or.inl ⟨i, by omega, i1, h, e⟩)
          · exact Or.inr (Or.inr h)
theorem fc_ok10 (f : CFC c F) (nc : NCL c F) (hp : pl = 52 ∨ pl = 53) {u k a : Int} (u0 : 0 ≤ u) (u1 : u < F c 0) (k0 : 7 ≤ k) (k1 : k < 13) {s : ST} {X : Int → Prop} (qp : QP pl X s) (sl : SLC c F T s) : EQP pl s (f_X4_followCall2 s pl u k a) ∧ PXF s (f_X4_followCall2 s pl u k a) ∧ QP pl (fun x => X x ∨ S1 c F T (13 * u + k) x ∨ (a = 2 ∧ S2 c F (13 * u + k) x)) (f_X4_followCall2 s pl u k a) := by
  have n40 := f.1
  have p5 := f.2.1
  unfold f_X4_followCall2
  rw [bd_r, sl.2.1, bd_r, sl.1 (c + 7) (by omega) (by omega)]
  by_cases z : 0 ≤ F (c + 7) u.toNat
  · rw [if_pos z, bd_r]
    have k1' : F (c + 2) u.toNat = 1 := Classical.byContradiction (fun w => by have := nc u u0 u1 w; omega)
    have cl : CAL c F u (F (c + 7) u.toNat) := ⟨u0, u1, k1', rfl⟩
    have qr := cl.q f
    obtain ⟨q, hq⟩ : ∃ q, q = F (c + 7) u.toNat := ⟨_, rfl⟩
    rw [← hq] at cl qr ⊢
    have uq : ∀ q', CAL c F u q' → q' = q := fun q' h => by rw [hq]; exact h.2.2.2.symm
    have e51 : q * 6 + k - 7 = 6 * q + (k - 7) := by omega
    rw [e51]
    have r := fcl_n (pl := pl) (v := s.1 51 (6 * q + (k - 7)).toNat) (a := a) hp u0 (show u < 40 by omega) k0 k1 qr.1 (show q < 5 by omega) 37 37 0 s X (by omega) (by omega) (by omega) qp
    refine ⟨r.1, r.2.1, r.2.2.iff (fun x => ?_)⟩
    constructor
    · rintro (h | ⟨i, i0, i1, h, e⟩ | ⟨h, e⟩)
      · exact Or.inl h
      · exact Or.inr (Or.inl ⟨u, q, k, i, cl, k0, k1, i0, i1, (sl.2.2.2.2 q (k - 7) i ⟨qr.1, qr.2, by omega, by omega, i0, i1⟩).mp h, rfl, e⟩)
      · exact Or.inr (Or.inr ⟨h, u, q, k, cl, k0, k1, rfl, e⟩)
    · rintro (h | ⟨u', q', k', i, cl', k0', k1', i0, i1, t, e1, e2⟩ | ⟨h, u', q', k', cl', k0', k1', e1, e2⟩)
      · exact Or.inl h
      · have eu : u' = u := by omega
        have ek : k' = k := by omega
        rw [eu] at cl' e2
        rw [uq q' cl', ek] at t
        exact Or.inr (Or.inl ⟨i, i0, i1, (sl.2.2.2.2 q (k - 7) i ⟨qr.1, qr.2, by omega, by omega, i0, i1⟩).mpr t, e2⟩)
      · have eu : u' = u := by omega
        have ek : k' = k := by omega
        rw [eu] at cl'
        rw [uq q' cl', ek] at e2
        exact Or.inr (Or.inr ⟨h, e2⟩)
  · rw [if_neg z]
    have no : ∀ q', ¬ CAL c F u q' := fun q' h => by
      have a := h.q f
      have b := h.2.2.2
      omega
    refine ⟨EQP.rfl, PXF.rfl, qp.iff (fun x => ⟨Or.inl, fun w => ?_⟩)⟩
    rcases w with w | ⟨u', q', k', i, cl', k0', k1', i0, i1, t, e1, e2⟩ | ⟨h, u', q', k', cl', k0', k1', e1, e2⟩
    · exact w
    · have eu : u' = u := by omega
      rw [eu] at cl'
      exact absurd cl' (no q')
    · have eu : u' = u := by omega
      rw [eu] at cl'
      exact absurd cl' (no q')
/-- one place is followed: all that it steps to is in -/
theorem sp_1 (f : CFC c F) (hc : c = 2 ∨ c = 18) (nc : NCL c F) (hp : pl = 52 ∨ pl = 53) {a y : Int} (vy : VP c F y) {s : ST} {X : Int → Prop} (qp : QP pl X s) (sl : SLC c F T s) (G : ST → Prop)
    (g : ∀ s', EQP pl s s' → PXF s s' → QP pl (fun x => X x ∨ STP c F T a y x) s' → G s') :
    G (if 40 ≤ (y / 13) then (if 7 ≤ (y % 13) then f_X4_followRow2 s pl y else (if ¬ a = 1 then f_X4_followRow2 s pl y else f_X4_add2 (f_X4_followRow2 s pl y) pl (y % 13) ((f_X4_followRow2 s pl y).2.1 50 (((y / 13) - 40)).toNat))) else (if (y % 13) < 7 then f_X4_followRow2 s pl y else f_X4_followCall2 (f_X4_followRow2 s pl y) pl (y / 13) (y % 13) a)) := by
  have n40 := f.1
  have p5 := f.2.1
  have yr := vy.r f
  have yu := vy.u f
  have r := fr_ok (T := T) f hc hp yr.1 yr.2 qp sl
  generalize f_X4_followRow2 s pl y = t at r ⊢
  have sl2 := sl.eqp hc hp r.1
  have dh : (∀ x, STP c F T a y x → DHc c F y x) → G t := fun h => by
    refine g t r.1 r.2.1 (r.2.2.iff (fun x => ⟨fun w => ?_, fun w => ?_⟩))
    · rcases w with w | w
      · exact Or.inl w
      · exact Or.inr (Or.inl w)
    · rcases w with w | w
      · exact Or.inl w
      · exact Or.inr (h x w)
  by_cases z : 40 ≤ y / 13
  · rw [if_pos z]
    have no12 : ∀ x, STP c F T a y x → DHc c F y x ∨ (a = 1 ∧ S3 c F y x) := fun x w => by
      rcases w with w | ⟨u, q, k, i, cl, k0, k1, _, _, _, e, _⟩ | ⟨_, u, q, k, cl, k0, k1, e, _⟩ | w
      · exact Or.inl w
      · have := cl.2.1; omega
      · have := cl.2.1; omega
      · exact Or.inr w
    by_cases w : 7 ≤ y % 13
    · rw [if_pos w]
      refine dh (fun x h => ?_)
      rcases no12 x h with h | ⟨_, u, q, k, cl, k0, k1, e, _⟩
      · exact h
      · omega
    · rw [if_neg w]
      by_cases a1 : a = 1
      · rw [if_neg (fun k => k a1)]
        have ad := addq_ok (m := t.2.1 50 (y / 13 - 40).toNat) (show 0 ≤ y % 13 by omega) (show y % 13 < 13 by omega) r.2.2
        refine g _ (r.1.tr ad.1) (r.2.1.tr ad.2.1) (ad.2.2.iff (fun x => ?_))
        constructor
        · rintro ((h | h) | ⟨u, u0, u1, h, e⟩)
          · exact Or.inl h
          · exact Or.inr (Or.inl h)
          · have cl := (sl2.2.2.2.1 (y / 13 - 40) u (by omega) (by omega) u0 u1).mp h
            exact Or.inr (Or.inr (Or.inr (Or.inr ⟨a1, u, y / 13 - 40, y % 13, cl, by omega, by omega, by omega, e⟩)))
        · rintro (h | h)
          · exact Or.inl (Or.inl h)
          · rcases no12 x h with h | ⟨_, u, q, k, cl, k0, k1, e1, e2⟩
            · exact Or.inl (Or.inr h)
            · have qr := cl.q f
              have eq : q = y / 13 - 40 := by omega
              have ek : k = y % 13 := by omega
              rw [eq] at cl
              have u40 := cl.2.1
              exact Or.inr ⟨u, cl.1, by omega, (sl2.2.2.2.1 (y / 13 - 40) u (by omega) (by omega) cl.1 (by omega)).mpr cl, by omega⟩
      · rw [if_pos a1]
        refine dh (fun x h => ?_)
        rcases no12 x h with h | h
        · exact h
        · exact absurd h.1 a1
  · rw [if_neg z]
    have yn : 0 ≤ y / 13 ∧ y / 13 < F c 0 := by
      rcases yu with k | k
      · exact k
      · omega
    have no3 : ∀ x, STP c F T a y x → DHc c F y x ∨ S1 c F T y x ∨ (a = 2 ∧ S2 c F y x) := fun x w => by
      rcases w with w | w | w | ⟨_, u, q, k, cl, k0, k1, e, _⟩
      · exact Or.inl w
      · exact Or.inr (Or.inl w)
      · exact Or.inr (Or.inr w)
      · have := cl.q f; omega
    by_cases w : y % 13 < 7
    · rw [if_pos w]
      refine dh (fun x h => ?_)
      rcases no3 x h with h | ⟨u, q, k, i, cl, k0, k1, _, _, _, e, _⟩ | ⟨_, u, q, k, cl, k0, k1, e, _⟩
      · exact h
      · omega
      · omega
    · rw [if_neg w]
      have fc := fc_ok10 (a := a) f nc hp yn.1 yn.2 (show 7 ≤ y % 13 by omega) (show y % 13 < 13 by omega) r.2.2 sl2
      rw [show 13 * (y / 13) + y % 13 = y by omega] at fc
      refine g _ (r.1.tr fc.1) (r.2.1.tr fc.2.1) (fc.2.2.iff (fun x => ?_))
      constructor
      · rintro ((h | h) | h | h)
        · exact Or.inl h
        · exact Or.inr (Or.inl h)
        · exact Or.inr (Or.inr (Or.inl h))
        · exact Or.inr (Or.inr (Or.inr (Or.inl h)))
      · rintro (h | h)
        · exact Or.inl (Or.inl h)
        · rcases no3 x h with h | h | h
          · exact Or.inl (Or.inr h)
          · exact Or.inr (Or.inl h)
          · exact Or.inr (Or.inr h)
/-- a search ends with all that is reached -/
def SPR (c : Nat) (F : Nat → Nat → Int) (T : Int → Int → Int → Prop) (pl : Nat) (a : Int) (X0 : Int → Prop) (s0 s : ST) : Prop := EQP pl s0 s ∧ s.1 49 8 = 0 ∧ ∀ x, 0 ≤ x → x < 585 → (PX s pl x ↔ CLO (STP c F T a) X0 x)
theorem sp_n (f : CFC c F) (hc : c = 2 ∨ c = 18) (nc : NCL c F) (hp : pl = 52 ∨ pl = 53) {a : Int} {X0 : Int → Prop} {s0 : ST} (v0 : ∀ x, X0 x → VP c F x) : ∀ (n lab : Nat) (t : Int) (sx : ST) (X : Int → Prop), 0 ≤ t → t ≤ 585 → 600 - t < (n : Int) → EQP pl s0 sx → QP pl X sx → SLC c F T sx → (∀ x, X0 x → X x) → (∀ x, X x → CLO (STP c F T a) X0 x) → (∀ j, 0 ≤ j → j < t → j < sx.1 49 8 → ∀ x, STP c F T a (sx.1 54 j.toNat) x → X x) → SPR c F T pl a X0 s0 (f_X4_spread2_ n lab pl a t sx) := by
  intro n
  induction n with
  | zero => intros; omega
  | succ n ih =>
    intro lab t sx X t0 t585 hm e0 qp sl x0 xc done
    rw [f_X4_spread2_]
    have le := qp.1.le
    have fin : sx.1 49 8 ≤ t → SPR c F T pl a X0 s0 (sI sx 49 8 0) := fun h => by
      have e1 : EQP pl sx (sI sx 49 8 0) := ⟨rfl, fun _ _ => rfl, fun p j _ h2 => sI_ne h2⟩
      refine ⟨e0.tr e1, sI_eq _ _ _ _, fun x a0 a1 => ?_⟩
      have q := qp.2 x a0 a1
      show PX sx pl x ↔ _
      rw [q]
      refine ⟨xc x, fun w => w X x0 (fun y z hy r => ?_)⟩
      obtain ⟨j, j0, j1, e⟩ := qp.1.2.2.1 y hy
      exact done j j0 (by omega) j1 z (by rw [e]; exact r)
    by_cases z : 585 ≤ t
    · rw [if_pos z, bd_r]
      exact fin (by omega)
    · rw [if_neg z, bd_r]
      by_cases w : sx.1 49 8 ≤ t
      · rw [if_pos w, bd_r]
        exact fin w
      · rw [if_neg w, bd_r, bd_r, bd_r, bd_r]
        obtain ⟨y, hy⟩ : ∃ y, y = sx.1 54 t.toNat := ⟨_, rfl⟩
        rw [← hy]
        have hX : X y := by rw [hy]; exact qp.1.2.1 t t0 (by omega)
        have vy := CLO.v f v0 (xc y hX)
        have st := sp_1 (a := a) f hc nc hp vy qp sl (fun s' => SPR c F T pl a X0 s0 (f_X4_spread2_ n 2 pl a (t + 1) s')) (fun s' e p q => by
          refine ih 2 (t + 1) s' _ (by omega) (by omega) (by omega) (e0.tr e) q (sl.eqp hc hp e) (fun x h => Or.inl (x0 x h)) (fun x h => ?_) (fun j j0 j1 j2 x h => ?_)
          · rcases h with h | h
            · exact xc x h
            · exact CLO.s (xc y hX) h
          · by_cases k : j = t
            · rw [k, p.2 t t0 (by omega), ← hy] at h
              exact Or.inr h
            · rw [p.2 j j0 (by omega)] at h
              exact Or.inl (done j j0 (by omega) (by omega) x h))
        by_cases h40 : 40 ≤ y / 13
        · rw [if_pos h40] at st ⊢
          by_cases h7 : 7 ≤ y % 13
          · rw [if_pos h7] at st ⊢
            exact st
          · rw [if_neg h7] at st ⊢
            by_cases ha : a = 1
            · rw [if_neg (fun k => k ha)] at st ⊢
              exact st
            · rw [if_pos ha] at st ⊢
              exact st
        · rw [if_neg h40] at st ⊢
          by_cases h6 : y % 13 < 7
          · rw [if_pos h6] at st ⊢
            exact st
          · rw [if_neg h6] at st ⊢
            exact st
theorem sp_ok (f : CFC c F) (hc : c = 2 ∨ c = 18) (nc : NCL c F) (hp : pl = 52 ∨ pl = 53) {a : Int} {X0 : Int → Prop} {s : ST} (v0 : ∀ x, X0 x → VP c F x) (qp : QP pl X0 s) (sl : SLC c F T s) : SPR c F T pl a X0 s (f_X4_spread2 s pl a) := by
  unfold f_X4_spread2
  exact sp_n f hc nc hp v0 1774 2 0 s X0 (by omega) (by omega) (by omega) EQP.rfl qp sl (fun _ h => h) (fun _ h => CLO.a h) (fun j j0 j1 => by omega)
end S
