/-! all tables of the reference; they are the class's -/
/-- tables of the reference -/
def RTB (c : Nat) (F : Nat → Nat → Int) (s : ST) : Prop := (∀ y x, 0 ≤ y → y < 585 → 0 ≤ x → x < 585 → (RH s y x ↔ DHc c F y x)) ∧ (∀ k j, 0 ≤ k → k < F c 0 → 0 ≤ j → (bt (s.2.1 104 k.toNat) j ↔ VVV c F 10 k j)) ∧ (∀ y x, 0 ≤ y → y < F c 0 → 0 ≤ x → (bt (s.2.1 105 y.toNat) x ↔ WWb c F (F c 0) y x)) ∧ BEG c F (F c 1) s
/-- what laysAll writes -/
def GXf (s s' : ST) : Prop := s'.2.2 = s.2.2 ∧ (∀ p j, ¬ (p = 108 ∨ p = 109 ∨ p = 110 ∨ (p = 70 ∧ j = 47)) → s'.1 p j = s.1 p j) ∧ (∀ p j : Nat, p ≠ 111 → ¬ (p = 5000 ∧ j = 5000) → s'.2.1 p j = s.2.1 p j)
theorem GXf.rfl {s : ST} : GXf s s := ⟨_root_.rfl, fun _ _ _ => _root_.rfl, fun _ _ _ _ => _root_.rfl⟩
theorem GXf.tr {s u w : ST} (a : GXf s u) (b : GXf u w) : GXf s w := ⟨b.1.trans a.1, fun p j h => (b.2.1 p j h).trans (a.2.1 p j h), fun p j h g => (b.2.2 p j h g).trans (a.2.2 p j h g)⟩
theorem GRf.x {s s' : ST} (a : GRf s s') : GXf s s' := ⟨a.1, a.2.1, fun p j _ g => a.2.2 p j g⟩
theorem GXf.L {s : ST} {j : Nat} {v : Int64} : GXf s (sL s 111 j v) := ⟨_root_.rfl, fun _ _ _ => _root_.rfl, fun p i h _ => by rw [sL_nc h]⟩
theorem la_p : ∀ (n : Nat) (k : Int) (s : ST), GXf s (f_X8_laysAll2_ n 36 k s) := by
  intro n
  induction n with
  | zero => intro k s; rw [f_X8_laysAll2_]; exact GXf.rfl
  | succ n ih =>
    intro k s
    rw [f_X8_laysAll2_, if_neg (by decide), bd_r, bd_r]
    refine p_if (Q := GXf s) (fun _ => GXf.rfl) (fun _ => ?_)
    rw [bd_r, bd_r, bd_r, bd_r, bd_r]
    have a1 := (grf_X8_empties_x2 (s := s)).x
    have a2 := (grf_X8_reachAll2 (s := f_X8_empties_x2 s) (a2 := k)).x
    have a3 := (grf_X8_goesBack2 (s := f_X8_reachAll2 (f_X8_empties_x2 s) k)).x
    exact (((a1.tr a2).tr a3).tr GXf.L).tr (ih (k + 1) _)
theorem RH.x {s s' : ST} {y x : Int} (h : s'.1 103 = s.1 103) : RH s' y x ↔ RH s y x := by
  unfold RH
  rw [h]
theorem RTB.x {c : Nat} {F : Nat → Nat → Int} {s s' : ST} (g : GXf s s') (h : RTB c F s) : RTB c F s' := by
  have e : s'.1 103 = s.1 103 := funext fun j => g.2.1 103 j (by omega)
  have l : ∀ p j, p = 104 ∨ p = 105 ∨ p = 107 → s'.2.1 p j = s.2.1 p j := fun p j hp => g.2.2 p j (by omega) (by omega)
  refine ⟨fun y x a b d e' => by rw [RH.x e]; exact h.1 y x a b d e', fun k j a b d => by rw [l 104 _ (by omega)]; exact h.2.1 k j a b d, fun y x a b d => by rw [l 105 _ (by omega)]; exact h.2.2.1 y x a b d, fun p u a b d => by rw [l 107 _ (by omega)]; exact h.2.2.2 p u a b d⟩
/-- what laysAll leaves -/
def LAf (s s' : ST) : Prop := s'.2.2 = s.2.2 ∧ (∀ p j, ¬ (p = 103 ∨ p = 108 ∨ p = 109 ∨ p = 110 ∨ (p = 70 ∧ j = 47)) → s'.1 p j = s.1 p j) ∧ (∀ p j : Nat, p < 104 ∨ p = 112 → s'.2.1 p j = s.2.1 p j)
theorem la_n {c : Nat} {S : Int} {F : Nat → Nat → Int} {s0 : ST} (hr : RS F s0) (hS : F 70 6 = S) (b : BRI c S F) (h01 : H01 F) : ∀ (n : Nat) (k : Int) (s : ST), 0 ≤ k → k ≤ 11115 → EQI 103 s0 s → (∀ j : Nat, (j : Int) < k → s.1 103 j = 0) → 11120 - k < (n : Int) → RTB c F (f_X8_laysAll2_ n 2 k s) ∧ LAf s0 (f_X8_laysAll2_ n 2 k s) := by
  intro n
  induction n with
  | zero => intros; omega
  | succ n ih =>
    intro k s k0 k1 h hk hm
    rw [f_X8_laysAll2_, if_pos rfl]
    by_cases z : 11115 ≤ k
    · rw [if_pos z, bd_r, bd_r, bd_r]
      have r := hr.e h
      have v := values_ok r hS b h01 (fun y x y0 y1 x0 x1 => by
        unfold RH
        rw [hk _ (by omega)]
        exact ib_0)
      have r1 : RS F (f_X8_laysValues2 s) := fun q j d1 d2 d3 d4 d5 => by rw [v.1 q d1]; exact r q j d1 d2 d3 d4 d5
      have w := way_ok r1 hS b h01
      have g1 := (grf_X8_laysThrough2 (s := f_X8_laysWay2 (f_X8_laysValues2 s))).x
      have g2 := la_p n 0 (f_X8_laysThrough2 (f_X8_laysWay2 (f_X8_laysValues2 s)))
      have g := g1.tr g2
      have rt : RTB c F (f_X8_laysWay2 (f_X8_laysValues2 s)) := by
        refine ⟨fun y x a b d e => ?_, fun k j a b d => ?_, w.2.2.2.2.1, w.2.2.2.2.2⟩
        · rw [w.2.2.2.1 y x a d (by omega), v.2.2.2.1 y x a b d (by omega)]
          unfold DHc
          constructor
          · rintro ((q | q) | q | q | q)
            · exact Or.inr (Or.inr (Or.inl q))
            · exact Or.inr (Or.inr (Or.inr (Or.inl q)))
            · exact Or.inl q
            · exact Or.inr (Or.inl q)
            · exact Or.inr (Or.inr (Or.inr (Or.inr q)))
          · rintro (q | q | q | q | q)
            · exact Or.inr (Or.inl q)
            · exact Or.inr (Or.inr (Or.inl q))
            · exact Or.inl (Or.inl q)
            · exact Or.inl (Or.inr q)
            · exact Or.inr (Or.inr (Or.inr q))
        · rw [w.2.2.1 104 (by decide) (by decide) (by decide)]
          exact v.2.2.2.2 k j a b d
      refine ⟨rt.x g, ?_, fun p j hp => ?_, fun p j hp => ?_⟩
      · rw [g.1, w.2.1, v.2.1, h.1]
      · rw [g.2.1 p j (by omega), w.1 p (by omega), v.1 p (by omega), h.2 p (by omega)]
      · rw [g.2.2 p j (by omega) (by omega), w.2.2.1 p (by omega) (by omega) (by omega), v.2.2.1 p (by omega), h.1]
    · rw [if_neg z, bd_r]
      refine ih (k + 1) _ (by omega) (by omega) (h.tr EQI.I) (fun j hj => ?_) (by omega)
      by_cases q : j = k.toNat
      · rw [q]; exact sI_eq _ _ _ _
      · rw [sI_ne (by omega)]
        exact hk j (by omega)
theorem laysAll_ok {c : Nat} {S : Int} {s : ST} (hS : s.1 70 6 = S) (b : BRI c S s.1) (h01 : H01 s.1) : RTB c s.1 (f_X8_laysAll2 s) ∧ LAf s (f_X8_laysAll2 s) := by
  have bg := BG_le 33490
  unfold f_X8_laysAll2
  exact la_n (fun _ _ _ _ _ _ _ => rfl) hS b h01 (BG 33490) 0 s (by decide) (by decide) EQI.rfl (fun j hj => by omega) (by omega)

