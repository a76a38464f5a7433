/-! the class: what goes through one procedure, by what is known so far -/
theorem cc_none {p : Nat → Prop} {n : Nat} (h : ∀ k, k < n → ¬ p k) : cc p n = 0 := by
  induction n with
  | zero => rfl
  | succ n ih =>
    show cc p n + cq (p n) = 0
    rw [ih (fun k hk => h k (by omega)), cq_0 (h n (by omega))]
def EQ2 (s s' : ST) : Prop := s'.2.2 = s.2.2 ∧ (∀ p, p ≠ 52 → p ≠ 53 → s'.2.1 p = s.2.1 p) ∧ ∀ p j, p ≠ 54 → ¬ (p = 49 ∧ j = 8) → s'.1 p j = s.1 p j
theorem EQ2.rfl {s : ST} : EQ2 s s := ⟨_root_.rfl, fun _ _ _ => _root_.rfl, fun _ _ _ _ => _root_.rfl⟩
theorem EQ2.tr {s u w : ST} (a : EQ2 s u) (b : EQ2 u w) : EQ2 s w := ⟨b.1.trans a.1, fun p h1 h2 => (b.2.1 p h1 h2).trans (a.2.1 p h1 h2), fun p j h1 h2 => (b.2.2 p j h1 h2).trans (a.2.2 p j h1 h2)⟩
theorem EQP.e2 {pl : Nat} {s s' : ST} (hp : pl = 52 ∨ pl = 53) (h : EQP pl s s') : EQ2 s s' := ⟨h.1, fun p h1 h2 => h.2.1 p (by omega), h.2.2⟩
section I
variable {c : Nat} {F : Nat → Nat → Int} {T : Int → Int → Int → Prop}
theorem SLC.e2 {s s' : ST} (hc : c = 2 ∨ c = 18) (h : EQ2 s s') (a : SLC c F T s) : SLC c F T s' := by
  obtain ⟨a1, a2, a3, a4, a5⟩ := a
  have i : ∀ p, p ≠ 54 → p ≠ 49 → s'.1 p = s.1 p := fun p h1 h2 => funext fun j => h.2.2 p j h1 (fun z => h2 z.1)
  refine ⟨fun p p1 p2 => (i p (by omega) (by omega)).trans (a1 p p1 p2), by rw [h.1]; exact a2, fun y x y0 y1 x0 x1 => ?_, fun p u p0 p1 u0 u1 => ?_, fun q b j r => ?_⟩
  · unfold CH
    rw [h.2.1 58 (by decide) (by decide)]
    exact a3 y x y0 y1 x0 x1
  · rw [h.2.1 50 (by decide) (by decide)]
    exact a4 p u p0 p1 u0 u1
  · rw [i 51 (by decide) (by decide)]
    exact a5 q b j r
theorem clr_ok (s : ST) : EQ2 s (f_X4_clearFound2 s) ∧ (∀ pl, pl = 52 ∨ pl = 53 → QP pl (fun _ => False) (f_X4_clearFound2 s)) := by
  unfold f_X4_clearFound2
  rw [bd_r, bd_r, bd_r]
  have a := fl52 s 0
  generalize f_J7_fill_d0a16_at522 s 0 = t at a ⊢
  have b := fl53 t 0
  generalize f_J7_fill_d0a16_at532 t 0 = w at b ⊢
  have e8 : (sI w 49 8 0).1 49 8 = 0 := sI_eq _ _ _ _
  refine ⟨⟨?_, fun p h1 h2 => ?_, fun p j h1 h2 => ?_⟩, fun pl hp => ⟨⟨fun x h => absurd h id, fun j j0 j1 => by omega, fun x h => absurd h id, ?_⟩, fun x x0 x1 => ⟨fun h => ?_, fun h => absurd h id⟩⟩⟩
  · show w.2.2 = s.2.2
    rw [b.1.2.1, a.1.2.1]
  · show w.2.1 p = s.2.1 p
    rw [b.1.2.2 p h2, a.1.2.2 p h1]
  · rw [sI_ne h2, b.1.1, a.1.1]
  · rw [e8, cc_none (fun _ _ h => h)]
    rfl
  · unfold PX at h
    have e : (sI w 49 8 0).2.1 pl (x % 13).toNat = 0 := by
      show w.2.1 pl (x % 13).toNat = 0
      rcases hp with z | z
      · rw [z, b.1.2.2 52 (by decide)]
        exact a.2 _ (by omega)
      · rw [z]
        exact b.2 _ (by omega)
    rw [e] at h
    exact bt_0 h
theorem ior_tab : ∀ a : Fin 64, ∀ i : Fin 6, 0 ≤ o_ior (a.val : Int) (o_ishl 1 (i.val : Int)) ∧ o_ior (a.val : Int) (o_ishl 1 (i.val : Int)) < 64 := by decide +kernel
theorem ior_64 {a i : Int} (a0 : 0 ≤ a) (a1 : a < 64) (i0 : 0 ≤ i) (i1 : i < 6) : 0 ≤ o_ior a (o_ishl 1 i) ∧ o_ior a (o_ishl 1 i) < 64 := by
  have t := ior_tab ⟨a.toNat, by omega⟩ ⟨i.toNat, by omega⟩
  dsimp only at t
  rw [show ((a.toNat : Nat) : Int) = a by omega, show ((i.toNat : Nat) : Int) = i by omega] at t
  exact t
theorem ib_tab : ∀ a b : Fin 64, (∀ i : Fin 6, (Int32.ofInt (a.val : Int)).toBitVec.getLsbD i.val = (Int32.ofInt (b.val : Int)).toBitVec.getLsbD i.val) → a = b := by decide +kernel
theorem ib_inj {a b : Int} (a0 : 0 ≤ a) (a1 : a < 64) (b0 : 0 ≤ b) (b1 : b < 64) (h : ∀ i, 0 ≤ i → i < 6 → (ib a i ↔ ib b i)) : a = b := by
  have t := ib_tab ⟨a.toNat, by omega⟩ ⟨b.toNat, by omega⟩ (fun i => by
    have q := h (i.val : Int) (by omega) (by have := i.isLt; omega)
    unfold ib at q
    rw [show ((i.val : Int)).toNat = i.val from Int.toNat_natCast _] at q
    dsimp only
    rw [show ((a.toNat : Nat) : Int) = a by omega, show ((b.toNat : Nat) : Int) = b by omega]
    exact Bool.eq_iff_iff.mpr q)
  have t2 := congrArg Fin.val t
  dsimp only at t2
  omega
theorem ins_n {p b : Int} (p0 : 0 ≤ p) (p1 : p < 5) {s : ST} {Q : Int → Prop} (hq : ∀ i, 0 ≤ i → i < 6 → (PX s 53 (13 * (40 + p) + 1 + i) ↔ Q i)) : ∀ (n lab : Nat) (v l : Int), 0 ≤ l → l ≤ 6 → 10 - l < (n : Int) → 0 ≤ v → v < 64 → (∀ i, 0 ≤ i → i < 6 → (ib v i ↔ i < l ∧ Q i)) → ∃ w, f_X4_insFrom2_ n lab p v l s = (s, w) ∧ 0 ≤ w ∧ w < 64 ∧ ∀ i, 0 ≤ i → i < 6 → (ib w i ↔ Q i) := by
  intro n
  induction n with
  | zero => intros; omega
  | succ n ih =>
    intro lab v l l0 l6 hm v0 v1 hv
    rw [f_X4_insFrom2_]
    by_cases z : 6 ≤ l
    · rw [if_pos z]
      exact ⟨v, rfl, v0, v1, fun i i0 i1 => (hv i i0 i1).trans ⟨fun h => h.2, fun h => ⟨by omega, h⟩⟩⟩
    · rw [if_neg z, bd_r, bd_r]
      have e : bt (s.2.1 53 (1 + l).toNat) (40 + p) ↔ Q l := by
        rw [← hq l l0 (by omega)]
        unfold PX
        rw [show (13 * (40 + p) + 1 + l) % 13 = 1 + l by omega, show (13 * (40 + p) + 1 + l) / 13 = 40 + p by omega]
      have hh := has_r (s := s) (x := s.2.1 53 (1 + l).toNat) (k := 40 + p) (by omega) (by omega)
      rw [e] at hh
      by_cases w : f_X7_has s (s.2.1 53 (1 + l).toNat) (40 + p) = 0
      · rw [if_pos w]
        have nq := hh.mp w
        refine ih 37 v (l + 1) (by omega) (by omega) (by omega) v0 v1 (fun i i0 i1 => ?_)
        rw [hv i i0 i1]
        constructor
        · intro h; exact ⟨by omega, h.2⟩
        · intro h
          by_cases k : i = l
          · rw [k] at h; exact absurd h.2 nq
          · exact ⟨by omega, h.2⟩
      · rw [if_neg w, bd_r, bd_r]
        have yq : Q l := Classical.byContradiction (fun h => w (hh.mpr h))
        have r := ior_64 v0 v1 l0 (show l < 6 by omega)
        refine ih 37 _ (l + 1) (by omega) (by omega) (by omega) r.1 r.2 (fun i i0 i1 => ?_)
        rw [ib_or l0 (by omega) i0 (by omega), hv i i0 i1]
        constructor
        · rintro (h | h)
          · exact ⟨by omega, h.2⟩
          · rw [h]; exact ⟨by omega, yq⟩
        · intro h
          by_cases k : i = l
          · exact Or.inr k
          · exact Or.inl ⟨by omega, h.2⟩
theorem ins_ok (f : CFC c F) (hc : c = 2 ∨ c = 18) (nc : NCL c F) {s : ST} {p b : Int} (p0 : 0 ≤ p) (p1 : p < F c 1) (b0 : 0 ≤ b) (b1 : b < 6) (sl : SLC c F T s) : ∃ s' w, f_X4_insFrom2 s p b = (s', w) ∧ EQ2 s s' ∧ 0 ≤ w ∧ w < 64 ∧ ∀ i, 0 ≤ i → i < 6 → (ib w i ↔ PHI c F T p b i) := by
  have p5 := f.2.1
  unfold f_X4_insFrom2
  rw [bd_r, bd_r]
  have a := clr_ok s
  generalize f_X4_clearFound2 s = t at a ⊢
  rw [bd_r]
  have sl1 := sl.e2 hc a.1
  have a2 := addq_ok (m := f_X7_bit t (40 + p)) (show 0 ≤ 7 + b by omega) (show 7 + b < 13 by omega) (a.2 53 (Or.inr rfl))
  generalize f_X4_add2 t 53 (7 + b) (f_X7_bit t (40 + p)) = w at a2 ⊢
  rw [bd_r]
  have q : QP 53 (fun x => x = 13 * (40 + p) + 7 + b) w := a2.2.2.iff (fun x => by
    constructor
    · rintro (h | ⟨u, u0, u1, h, e⟩)
      · exact absurd h id
      · have eu := (bit_r (s := t) (show 0 ≤ 40 + p by omega) (by omega) u0).mp h
        omega
    · intro h
      exact Or.inr ⟨40 + p, by omega, by omega, (bit_r (by omega) (by omega) (by omega)).mpr rfl, by omega⟩)
  have e2 := a2.1.e2 (Or.inr rfl)
  have sp := sp_ok (a := 0) f hc nc (Or.inr rfl) (fun x h => ⟨40 + p, 7 + b, by omega, by omega, by omega, Or.inr ⟨by omega, by omega⟩⟩) q (sl1.e2 hc e2)
  generalize f_X4_spread2 w 53 0 = r at sp ⊢
  obtain ⟨v, e, v0, v1, hv⟩ := ins_n (p := p) (b := b) (s := r) (Q := PHI c F T p b) p0 (by omega) (fun i i0 i1 => sp.2.2 _ (by omega) (by omega)) 37 37 0 0 (by omega) (by omega) (by omega) (by omega) (by omega) (fun i i0 i1 => ⟨fun h => absurd h ib_0, fun h => by omega⟩)
  exact ⟨r, v, e, a.1.tr (e2.tr (sp.1.e2 (Or.inr rfl))), v0, v1, hv⟩
end I
