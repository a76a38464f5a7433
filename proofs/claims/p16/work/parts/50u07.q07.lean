/-! on what each place hangs, in the class: rows -/
def CH (s : ST) (y x : Int) : Prop := bt (s.2.1 58 (13 * y + x % 13).toNat) (x / 13)
def BV (s : ST) (y x : Int) : Prop := bt (s.2.1 59 y.toNat) x
def BW (s : ST) (y x : Int) : Prop := bt (s.2.1 60 y.toNat) x
def EQH (s s' : ST) : Prop := s'.1 = s.1 ∧ s'.2.2 = s.2.2 ∧ ∀ p, p ≠ 58 → p ≠ 59 → p ≠ 60 → s'.2.1 p = s.2.1 p
theorem EQH.rfl {s : ST} : EQH s s := ⟨_root_.rfl, _root_.rfl, fun _ _ _ _ => _root_.rfl⟩
theorem EQH.tr {s u w : ST} (a : EQH s u) (b : EQH u w) : EQH s w := ⟨b.1.trans a.1, b.2.1.trans a.2.1, fun p h1 h2 h3 => (b.2.2 p h1 h2 h3).trans (a.2.2 p h1 h2 h3)⟩
/-- A hangs more now, V more by value, W more by way -/
def HD (s s' : ST) (A V W : Int → Int → Prop) : Prop := EQH s s' ∧ (∀ y x, 0 ≤ y → 0 ≤ x → x < 585 → (CH s' y x ↔ CH s y x ∨ A y x)) ∧ (∀ y x, 0 ≤ y → 0 ≤ x → x < 64 → (BV s' y x ↔ BV s y x ∨ V y x)) ∧ (∀ y x, 0 ≤ y → 0 ≤ x → x < 64 → (BW s' y x ↔ BW s y x ∨ W y x))
def NO (_ _ : Int) : Prop := False
theorem HD.rfl {s : ST} : HD s s NO NO NO := ⟨EQH.rfl, fun _ _ _ _ _ => ⟨Or.inl, fun z => by rcases z with z | z; (exact z); (exact absurd z id)⟩, fun _ _ _ _ _ => ⟨Or.inl, fun z => by rcases z with z | z; (exact z); (exact absurd z id)⟩, fun _ _ _ _ _ => ⟨Or.inl, fun z => by rcases z with z | z; (exact z); (exact absurd z id)⟩⟩
theorem HD.tr {s u w : ST} {A V W A' V' W' : Int → Int → Prop} (a : HD s u A V W) (b : HD u w A' V' W') : HD s w (fun y x => A y x ∨ A' y x) (fun y x => V y x ∨ V' y x) (fun y x => W y x ∨ W' y x) :=
  ⟨a.1.tr b.1, fun y x h1 h2 h3 => by rw [b.2.1 y x h1 h2 h3, a.2.1 y x h1 h2 h3, or_assoc], fun y x h1 h2 h3 => by rw [b.2.2.1 y x h1 h2 h3, a.2.2.1 y x h1 h2 h3, or_assoc], fun y x h1 h2 h3 => by rw [b.2.2.2 y x h1 h2 h3, a.2.2.2 y x h1 h2 h3, or_assoc]⟩
theorem HD.iff {s u : ST} {A V W A' V' W' : Int → Int → Prop} (a : HD s u A V W) (hA : ∀ y x, 0 ≤ y → 0 ≤ x → x < 585 → (A y x ↔ A' y x)) (hV : ∀ y x, 0 ≤ y → 0 ≤ x → x < 64 → (V y x ↔ V' y x)) (hW : ∀ y x, 0 ≤ y → 0 ≤ x → x < 64 → (W y x ↔ W' y x)) : HD s u A' V' W' :=
  ⟨a.1, fun y x h1 h2 h3 => by rw [a.2.1 y x h1 h2 h3, hA y x h1 h2 h3], fun y x h1 h2 h3 => by rw [a.2.2.1 y x h1 h2 h3, hV y x h1 h2 h3], fun y x h1 h2 h3 => by rw [a.2.2.2 y x h1 h2 h3, hW y x h1 h2 h3]⟩
theorem tie_ok {s : ST} {u p q : Int} {m : Int64} (u0 : 0 ≤ u) (u1 : u < 45) (p0 : 0 ≤ p) (p1 : p < 13) (q0 : 0 ≤ q) (q1 : q < 13) : HD s (f_X1_tie2 s u p q m) (fun y x => y = 13 * u + p ∧ x % 13 = q ∧ bt m (x / 13)) NO NO := by
  unfold f_X1_tie2
  repeat rewrite [bd_r]
  refine ⟨⟨rfl, rfl, fun r h1 _ _ => sL_nc h1⟩, fun y x y0 x0 x1 => ?_, fun y x y0 x0 x1 => ?_, fun y x y0 x0 x1 => ?_⟩
  · unfold CH
    by_cases z : y = 13 * u + p ∧ x % 13 = q
    · rw [show (13 * y + x % 13).toNat = (((u * 13 + p) * 13) + q).toNat by omega, sL_eq, lor_r]
      exact ⟨fun w => by rcases w with w | w; (exact Or.inl w); (exact Or.inr ⟨z.1, z.2, w⟩), fun w => by rcases w with w | w; (exact Or.inl w); (exact Or.inr w.2.2)⟩
    · rw [sL_ne (by omega)]
      exact ⟨Or.inl, fun w => by rcases w with w | w; (exact w); (exact absurd ⟨w.1, w.2.1⟩ z)⟩
  · unfold BV
    rw [sL_nc (by decide)]
    exact ⟨Or.inl, fun w => by rcases w with w | w; (exact w); (exact absurd w id)⟩
  · unfold BW
    rw [sL_nc (by decide)]
    exact ⟨Or.inl, fun w => by rcases w with w | w; (exact w); (exact absurd w id)⟩
/-- the place by which a unit tells a name -/
def pT (c : Nat) (F : Nat → Nat → Int) (nm t : Int) : Int := if t < 40 then (if F (c + 2) t.toNat = 1 then 13 * t + 7 + (if nm < 6 then 0 else nm - 4) else 13 * t) else 13 * t + 1 + (if nm < 6 then nm else nm - 4)
/-- what the row of calls says -/
def CLB (c : Nat) (s : ST) : Prop := ∀ k, 0 ≤ k → k < 64 → (bt (s.2.1 c 2) k ↔ k < s.1 c 0 ∧ s.1 (c + 2) k.toNat = 1)
theorem tieUse_ok {c : Nat} {s : ST} {u p nm : Int} (hc : c = 2 ∨ c = 18) (f : CFC c s.1) (h57 : s.2.2 57 6 = c) (cl : CLB c s) (u0 : 0 ≤ u) (u1 : u < 45) (p0 : 0 ≤ p) (p1 : p < 13) (n0 : 0 ≤ nm) (n1 : nm ≤ 9) (hr : ∀ t, 0 ≤ t → TLR s t u → (t < s.1 c 0 ∨ (40 ≤ t ∧ t < 45 ∧ (nm < 2 ∨ 6 ≤ nm)))) : HD s (f_X1_tieUse2 s u p nm) (fun y x => y = 13 * u + p ∧ ∃ t, 0 ≤ t ∧ TLR s t u ∧ x = pT c s.1 nm t) (fun y x => y = u ∧ u < 40 ∧ TLR s x u ∧ x < 40) NO := by
  have n40 := f.1
  obtain ⟨v1, hv1⟩ : ∃ v, v = s.2.1 62 u.toNat := ⟨_, rfl⟩
  have tl : ∀ t, TLR s t u ↔ bt v1 t := fun t => by unfold TLR; rw [hv1]
  obtain ⟨Q, hQ⟩ : ∃ Q : ST → Prop, Q = fun s' => HD s s' (fun y x => y = 13 * u + p ∧ ∃ t, 0 ≤ t ∧ TLR s t u ∧ x = pT c s.1 nm t) (fun y x => y = u ∧ u < 40 ∧ TLR s x u ∧ x < 40) NO := ⟨_, rfl⟩
  have fin : ∀ po pb : Int, 0 ≤ po → po ≤ 5 → 0 ≤ pb → pb ≤ 5 → (nm < 6 → po = 0 ∧ (nm < 2 → pb = nm)) → (¬ nm < 6 → po = nm - 4 ∧ pb = nm - 4) → Q (bd (o_land v1 (1099511627775 : Int64)) fun v19 => bd (s.2.2 57 6) fun c21 => bd (s.2.1 c21 2) fun v23 => bd (o_lxor v23 ((-1) : Int64)) fun v25 => bd (o_land v19 v25) fun v27 => bd (f_X1_tie2 s u p 0 v27) fun s29 => bd (s29.2.2 57 6) fun c35 => bd (s29.2.1 c35 2) fun v37 => bd (o_land v1 v37) fun v39 => bd (f_X1_tie2 s29 u p ((7 + po)) v39) fun s41 => bd (o_land v1 ((-1099511627776) : Int64)) fun v47 => bd (f_X1_tie2 s41 u p ((1 + pb)) v47) fun s49 => if 40 ≤ u then (s49) else (bd (s49.2.1 59 (u).toNat) fun v56 => bd (o_land v1 (1099511627775 : Int64)) fun v58 => bd (o_lor v56 v58) fun v60 => bd (sL s49 59 (u).toNat v60) fun s62 => s62)) := by
    intro po pb po0 po5 pb0 pb5 hp1 hp2
    refine p_bd (Q := Q) (fun v19 h19 => ?_)
    refine p_bd (Q := Q) (fun c21 h21 => ?_)
    have q21 : c21 = c := h21.trans h57
    rw [q21]
    refine p_bd (Q := Q) (fun v23 h23 => ?_)
    refine p_bd (Q := Q) (fun v25 h25 => ?_)
    refine p_bd (Q := Q) (fun v27 h27 => ?_)
    refine p_bd (Q := Q) (fun s29 h29 => ?_)
    have a1 := tie_ok (s := s) (u := u) (p := p) (q := 0) (m := v27) u0 u1 p0 p1 (by decide) (by decide)
    rw [← h29] at a1
    refine p_bd (Q := Q) (fun c35 h35 => ?_)
    have q35 : c35 = c := by rw [h35, a1.1.2.1]; exact h57
    rw [q35]
    refine p_bd (Q := Q) (fun v37 h37 => ?_)
    have e37 : v37 = v23 := by rw [h37, h23, a1.1.2.2 c (by omega) (by omega) (by omega)]
    refine p_bd (Q := Q) (fun v39 h39 => ?_)
    refine p_bd (Q := Q) (fun s41 h41 => ?_)
    have a2 := tie_ok (s := s29) (u := u) (p := p) (q := 7 + po) (m := v39) u0 u1 p0 p1 (by omega) (by omega)
    rw [← h41] at a2
    refine p_bd (Q := Q) (fun v47 h47 => ?_)
    refine p_bd (Q := Q) (fun s49 h49 => ?_)
    have a3 := tie_ok (s := s41) (u := u) (p := p) (q := 1 + pb) (m := v47) u0 u1 p0 p1 (by omega) (by omega)
    rw [← h49] at a3
    have a := (a1.tr a2).tr a3
    have b27 : ∀ t, 0 ≤ t → t < 64 → (bt v27 t ↔ bt v1 t ∧ t < 40 ∧ ¬ (t < s.1 c 0 ∧ s.1 (c + 2) t.toNat = 1)) := fun t t0 t1 => by
      rw [h27, land_r, h19, land_r, low_r t0, h25, not_r t0 t1, h23, cl t t0 t1, and_assoc]
    have b39 : ∀ t, 0 ≤ t → t < 64 → (bt v39 t ↔ bt v1 t ∧ t < s.1 c 0 ∧ s.1 (c + 2) t.toNat = 1) := fun t t0 t1 => by
      rw [h39, land_r, e37, h23, cl t t0 t1]
    have b47 : ∀ t, 0 ≤ t → t < 64 → (bt v47 t ↔ bt v1 t ∧ 40 ≤ t) := fun t t0 t1 => by
      rw [h47, land_r, high_r t0 t1]
    have hA : ∀ y x, 0 ≤ y → 0 ≤ x → x < 585 → (((y = 13 * u + p ∧ x % 13 = 0 ∧ bt v27 (x / 13)) ∨ (y = 13 * u + p ∧ x % 13 = 7 + po ∧ bt v39 (x / 13))) ∨ (y = 13 * u + p ∧ x % 13 = 1 + pb ∧ bt v47 (x / 13)) ↔ y = 13 * u + p ∧ ∃ t, 0 ≤ t ∧ TLR s t u ∧ x = pT c s.1 nm t) := by
      intro y x y0 x0 x1
      constructor
      · rintro ((⟨w1, w2, w3⟩ | ⟨w1, w2, w3⟩) | ⟨w1, w2, w3⟩)
        · refine ⟨w1, x / 13, by omega, ?_, ?_⟩
          · rw [tl]; exact ((b27 _ (by omega) (by omega)).mp w3).1
          · have k := (b27 _ (by omega) (by omega)).mp w3
            have r := hr (x / 13) (by omega) ((tl _).mpr k.1)
            unfold pT
            rw [if_pos k.2.1, if_neg (fun z => k.2.2 ⟨by omega, z⟩)]
            omega
        · refine ⟨w1, x / 13, by omega, ?_, ?_⟩
          · rw [tl]; exact ((b39 _ (by omega) (by omega)).mp w3).1
          · have k := (b39 _ (by omega) (by omega)).mp w3
            unfold pT
            rw [if_pos (by omega), if_pos k.2.2]
            by_cases g : nm < 6
            · rw [if_pos g]; have := (hp1 g).1; omega
            · rw [if_neg g]; have := (hp2 g).1; omega
        · refine ⟨w1, x / 13, by omega, ?_, ?_⟩
          · rw [tl]; exact ((b47 _ (by omega) (by omega)).mp w3).1
          · have k := (b47 _ (by omega) (by omega)).mp w3
            have r := hr (x / 13) (by omega) ((tl _).mpr k.1)
            unfold pT
            rw [if_neg (by omega)]
            by_cases g : nm < 6
            · rw [if_pos g]; have := (hp1 g).2 (by omega); omega
            · rw [if_neg g]; have := (hp2 g).2; omega
      · rintro ⟨w1, t, t0, w2, w3⟩
        have r := hr t t0 w2
        have w4 := (tl t).mp w2
        unfold pT at w3
        by_cases g40 : t < 40
        · rw [if_pos g40] at w3
          by_cases gk : s.1 (c + 2) t.toNat = 1
          · rw [if_pos gk] at w3
            have x6 : x = 13 * t + 7 + po := by
              by_cases g : nm < 6
              · rw [if_pos g] at w3; have := (hp1 g).1; omega
              · rw [if_neg g] at w3; have := (hp2 g).1; omega
            refine Or.inl (Or.inr ⟨w1, by omega, ?_⟩)
            rw [show x / 13 = t by omega]
            exact (b39 t t0 (by omega)).mpr ⟨w4, by omega, gk⟩
          · rw [if_neg gk] at w3
            refine Or.inl (Or.inl ⟨w1, by omega, ?_⟩)
            rw [show x / 13 = t by omega]
            exact (b27 t t0 (by omega)).mpr ⟨w4, g40, fun z => gk z.2⟩
        · rw [if_neg g40] at w3
          have x6 : x = 13 * t + 1 + pb := by
            by_cases g : nm < 6
            · rw [if_pos g] at w3; have := (hp1 g).2 (by omega); omega
            · rw [if_neg g] at w3; have := (hp2 g).2; omega
          refine Or.inr ⟨w1, by omega, ?_⟩
          rw [show x / 13 = t by omega]
          exact (b47 t t0 (by omega)).mpr ⟨w4, by omega⟩
    have nono : ∀ y x : Int, ((NO y x ∨ NO y x) ∨ NO y x ↔ False) := fun y x => ⟨fun z => by rcases z with (z | z) | z <;> exact z, fun z => absurd z id⟩
    refine p_if (Q := Q) (fun z => ?_) (fun z => ?_)
    · rw [hQ]
      exact a.iff hA (fun y x _ _ _ => (nono y x).trans ⟨fun w => absurd w id, fun w => by have := w.2.1; omega⟩) (fun y x _ _ _ => nono y x)
    · refine p_bd (Q := Q) (fun v56 h56 => ?_)
      refine p_bd (Q := Q) (fun v58 h58 => ?_)
      refine p_bd (Q := Q) (fun v60 h60 => ?_)
      refine p_bd (Q := Q) (fun s62 h62 => ?_)
      rw [hQ]
      have a4 : HD s49 s62 NO (fun y x => y = u ∧ u < 40 ∧ TLR s x u ∧ x < 40) NO := by
        rw [h62]
        refine ⟨⟨rfl, rfl, fun r _ h2 _ => sL_nc h2⟩, fun y x y0 x0 x1 => ?_, fun y x y0 x0 x1 => ?_, fun y x y0 x0 x1 => ?_⟩
        · unfold CH
          rw [sL_nc (by decide)]
          exact ⟨Or.inl, fun w => by rcases w with w | w; (exact w); (exact absurd w id)⟩
        · unfold BV
          by_cases g : y = u
          · rw [g, sL_eq, h60, lor_r, h56, h58, land_r, low_r x0, ← tl x]
            exact ⟨fun w => by rcases w with w | w; (exact Or.inl w); (exact Or.inr ⟨rfl, by omega, w.1, w.2⟩), fun w => by rcases w with w | w; (exact Or.inl w); (exact Or.inr ⟨w.2.2.1, w.2.2.2⟩)⟩
          · rw [sL_ne (by omega)]
            exact ⟨Or.inl, fun w => by rcases w with w | w; (exact w); (exact absurd w.1 g)⟩
        · unfold BW
          rw [sL_nc (by decide)]
          exact ⟨Or.inl, fun w => by rcases w with w | w; (exact w); (exact absurd w id)⟩
      refine (a.tr a4).iff (fun y x h1 h2 h3 => ?_) (fun y x _ _ _ => ?_) (fun y x _ _ _ => ?_)
      · rw [← hA y x h1 h2 h3]
        exact ⟨fun w => by rcases w with w | w; (exact w); (exact absurd w id), Or.inl⟩
      · rw [nono]
        exact ⟨fun w => by rcases w with w | w; (exact absurd w id); (exact w), Or.inr⟩
      · rw [nono]
        exact ⟨fun w => by rcases w with w | w <;> exact absurd w id, fun w => absurd w id⟩
  have goal : Q (f_X1_tieUse2 s u p nm) := by
    unfold f_X1_tieUse2
    rw [bd_r, ← hv1, bd_r, ifd_r]
    by_cases g : nm < 6
    · rw [if_pos g, if_pos rfl, bd_r, if_pos rfl]
      exact fin 0 nm (by decide) (by decide) n0 (by omega) (fun _ => ⟨rfl, fun _ => rfl⟩) (fun z => absurd g z)
    · rw [if_neg g, if_neg (by decide), bd_r, bd_r, if_neg (by decide), bd_r]
      exact fin (f_X7_portOfField2 s nm) (f_X7_portOfField2 s nm) (by unfold f_X7_portOfField2; omega) (by unfold f_X7_portOfField2; omega) (by unfold f_X7_portOfField2; omega) (by unfold f_X7_portOfField2; omega) (fun z => absurd z g) (fun _ => by unfold f_X7_portOfField2; omega)
  rw [hQ] at goal
  exact goal

