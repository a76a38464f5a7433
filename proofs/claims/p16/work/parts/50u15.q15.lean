/-! on what a place hangs in the reference: one use of a name -/
theorem ntz_r {x : Int64} (h : ¬ x = 0) : 0 ≤ ntzI x ∧ ntzI x < 64 ∧ bt x (ntzI x) ∧ ∀ j, 0 ≤ j → j < 64 → (bt (o_land x (o_lsub x 1)) j ↔ bt x j ∧ j ≠ ntzI x) := by
  have hx : ¬ x.toBitVec = 0#64 := fun z => h (Int64.toBitVec_inj.mp z)
  have lb : LB x.toBitVec (Classical.epsilon (fun k : Nat => LB x.toBitVec k)) := Classical.epsilon_spec (p := fun k : Nat => LB x.toBitVec k) (low_ex _ hx)
  obtain ⟨k, hk⟩ : ∃ k, k = Classical.epsilon (fun k : Nat => LB x.toBitVec k) := ⟨_, rfl⟩
  have e : ntzI x = (k : Int) := by unfold ntzI; rw [hk]
  rw [← hk] at lb
  have k64 := lb.1
  rw [e]
  refine ⟨by omega, by omega, ?_, fun j j0 j1 => ?_⟩
  · unfold bt
    rw [show ((k : Int)).toNat = k from Int.toNat_natCast k]
    exact lb.2.1
  · unfold bt o_land o_lsub
    rw [Int64.toBitVec_and, Int64.toBitVec_sub]
    have q := low_and lb j.toNat (by omega)
    have e1 : (1 : Int64).toBitVec = 1#64 := rfl
    rw [e1, q]
    refine and_congr Iff.rfl ?_
    omega
def RH (s : ST) (y x : Int) : Prop := ib (s.1 103 (19 * y + x / 32).toNat) (x % 32)
theorem RS.e {F : Nat → Nat → Int} {s s' : ST} (h : EQI 103 s s') (r : RS F s) : RS F s' := fun q j a b d e f => by rw [h.2 q a]; exact r q j a b d e f
theorem hang_e {s : ST} {y x : Int} : EQI 103 s (f_X8_hang2 s y x) := by
  unfold f_X8_hang2
  simp only [bd_r]
  exact EQI.I
theorem hang_r {s : ST} {y x y' x' : Int} (y0 : 0 ≤ y) (x0 : 0 ≤ x) (x1 : x < 608) (y0' : 0 ≤ y') (x0' : 0 ≤ x') (x1' : x' < 608) : RH (f_X8_hang2 s y x) y' x' ↔ RH s y' x' ∨ (y' = y ∧ x' = x) := by
  unfold f_X8_hang2 RH
  simp only [bd_r]
  by_cases z : 19 * y' + x' / 32 = 19 * y + x / 32
  · rw [z, sI_eq, ib_or (by omega) (by omega) (by omega) (by omega)]
    refine or_congr Iff.rfl ?_
    omega
  · rw [sI_ne (by omega)]
    exact ⟨Or.inl, fun w => by rcases w with w | w; (exact w); (exact absurd (by rw [w.1, w.2]) z)⟩
theorem hung_r {s : ST} {y x : Int} (x0 : 0 ≤ x) : f_X8_isHung2 s y x = 0 ↔ ¬ RH s y x := by
  unfold f_X8_isHung2 RH
  simp only [bd_r]
  have b := ib_us (v := s.1 103 (19 * y + x / 32).toNat) (k := x % 32) (by omega) (by omega)
  by_cases z : ib (s.1 103 (19 * y + x / 32).toNat) (x % 32)
  · rw [if_neg (fun w => w (b.mpr z))]
    exact ⟨fun w => absurd w (by decide), fun w => absurd z w⟩
  · rw [if_pos (fun w => z (b.mp w))]
    exact ⟨fun _ => z, fun _ => rfl⟩
/-- more hangs: x of y for which A -/
def RDH (s s' : ST) (A : Int → Int → Prop) : Prop := EQI 103 s s' ∧ ∀ y x, 0 ≤ y → 0 ≤ x → x < 608 → (RH s' y x ↔ RH s y x ∨ A y x)
section U
variable {c : Nat} {S p to y nm : Int} {F : Nat → Nat → Int}
/-- of one use: nothing else is hung -/
def uH (c : Nat) (F : Nat → Nat → Int) (p to y nm : Int) (s0 s : ST) : Prop := EQI 103 s0 s ∧ (∀ y' x, 0 ≤ y' → 0 ≤ x → x < 608 → RH s0 y' x → RH s y' x) ∧ (∀ y' x, 0 ≤ y' → 0 ≤ x → x < 608 → RH s y' x → RH s0 y' x ∨ (y' = y ∧ ∃ t, 0 ≤ t ∧ LT c F nm t (en p to) ∧ x = pT c F nm t))
/-- all ways to v of statements ahead of (a, e1) are dealt with -/
def uC (c : Nat) (S : Int) (F : Nat → Nat → Int) (p y nm : Int) (s : ST) (seen left : Int64) (v a e1 : Int) : Prop := ∀ k e, 0 ≤ k → k < F c 0 → F (c + 3) k.toNat = p → (e = 0 ∨ e = 1) → (k < a ∨ (k = a ∧ e < e1)) → rW c S F k e = v → (¬ rT c F nm k e = -1 → RH s y (rT c F nm k e)) ∧ (rT c F nm k e = -1 → bt seen k ∨ bt left k)
def uB (c : Nat) (S : Int) (F : Nat → Nat → Int) (p y nm : Int) (s : ST) (v : Int) : Prop := nm < 2 ∨ 6 ≤ nm → F 100 (5 * S + p).toNat = v → RH s y (pT c F nm (40 + p))
def uS (c : Nat) (F : Nat → Nat → Int) (p to nm : Int) (seen left : Int64) : Prop := (∀ u, 0 ≤ u → (bt seen u ∨ bt left u) → u < F c 0 ∧ F (c + 3) u.toNat = p ∧ ∀ t, 0 ≤ t → LT c F nm t u → LT c F nm t (en p to)) ∧ (∀ u, 0 ≤ u → ¬ (bt seen u ∧ bt left u))
def uK (c : Nat) (S : Int) (F : Nat → Nat → Int) (p y nm : Int) (s : ST) (seen left : Int64) (v : Int) : Prop := uC c S F p y nm s seen left v (F c 0) 0 ∧ uB c S F p y nm s v
theorem uC.mono {s s' : ST} {seen left seen' left' : Int64} {v a e1 : Int} (b : BRI c S F) (y0 : 0 ≤ y) (n0 : 0 ≤ nm) (n1 : nm ≤ 9) (h : uC c S F p y nm s seen left v a e1) (hs : ∀ x, 0 ≤ x → x < 608 → RH s y x → RH s' y x) (hb : ∀ k, 0 ≤ k → bt seen k ∨ bt left k → bt seen' k ∨ bt left' k) : uC c S F p y nm s' seen' left' v a e1 := by
  intro k e k0 k1 ko he ha hw
  have q := h k e k0 k1 ko he ha hw
  refine ⟨fun z => ?_, fun z => hb k k0 (q.2 z)⟩
  have x := q.1 z
  have k40 := b.2.2.2.2.1.1.2
  have r : 0 ≤ rT c F nm k e ∧ rT c F nm k e < 608 := by
    unfold rT at z ⊢
    revert z
    repeat' split
    all_goals intro z
    all_goals first | omega | exact absurd rfl z
  exact hs _ r.1 r.2 x
theorem uK.mono {s s' : ST} {seen left seen' left' : Int64} {v : Int} (b : BRI c S F) (y0 : 0 ≤ y) (n0 : 0 ≤ nm) (n1 : nm ≤ 9) (p0 : 0 ≤ p) (p1 : p < F c 1) (h : uK c S F p y nm s seen left v) (hs : ∀ x, 0 ≤ x → x < 608 → RH s y x → RH s' y x) (hb : ∀ k, 0 ≤ k → bt seen k ∨ bt left k → bt seen' k ∨ bt left' k) : uK c S F p y nm s' seen' left' v := by
  refine ⟨h.1.mono b y0 n0 n1 hs hb, fun w z => hs _ ?_ ?_ (h.2 w z)⟩
  · unfold pT
    rw [if_neg (by omega)]
    split <;> omega
  · have := b.2.2.2.2.1.2.1.2
    unfold pT
    rw [if_neg (by omega)]
    split <;> omega
/-- who is seen and who is left make a closed set -/
theorem uses_fin {s0 s : ST} {seen : Int64} (b : BRI c S F) (n0 : 0 ≤ nm) (p0 : 0 ≤ p) (p1 : p < F c 1) (hto : to = -1 ∨ (0 ≤ to ∧ to < F c 0 ∧ F (c + 3) to.toNat = p)) (h : uH c F p to y nm s0 s) (hs : uS c F p to nm seen 0) (hk : ∀ u, 0 ≤ u → bt seen u → uK c S F p y nm s seen 0 u) (he : to = -1 → uK c S F p y nm s seen 0 (-1)) (ht : ¬ to = -1 → bt seen to) (y0 : 0 ≤ y) : RDH s0 s (fun y' x => y' = y ∧ ∃ t, 0 ≤ t ∧ LT c F nm t (en p to) ∧ x = pT c F nm t) := by
  refine ⟨h.1, fun y' x y0' x0 x1 => ⟨h.2.2 y' x y0' x0 x1, fun z => ?_⟩⟩
  rcases z with z | ⟨rfl, t, t0, z, rfl⟩
  · exact h.2.1 y' x y0' x0 x1 z
  · have f := b.2.2.2.2.1
    have n40 := f.1
    -- D: the units that are done
    obtain ⟨D, hD⟩ : ∃ D : Int → Prop, D = fun w => (0 ≤ w ∧ w < 40 ∧ bt seen w) ∨ (w = 40 + p ∧ to = -1) := ⟨_, rfl⟩
    have dw : ∀ v, D (en p v) → -1 ≤ v → v < F c 0 → uK c S F p y' nm s seen 0 v := fun v d v0 v1 => by
      rw [hD] at d
      rcases d with d | d
      · by_cases g : v = -1
        · rw [g, en_1] at d; omega
        · rw [en_n g] at d; exact hk v d.1 d.2.2
      · by_cases g : v = -1
        · rw [g]; exact he d.2
        · rw [en_n g] at d; omega
    have dp : ∀ w, D w → w = 40 + p ∨ (0 ≤ w ∧ w < F c 0 ∧ F (c + 3) w.toNat = p) := fun w d => by
      rw [hD] at d
      rcases d with d | d
      · have q := hs.1 w d.1 (Or.inl d.2.2)
        exact Or.inr ⟨d.1, q.1, q.2.1⟩
      · exact Or.inl d.1
    have fin := z (fun t w => D w → RH s y' (pT c F nm t)) ⟨fun g q q0 q1 d => ?_, fun k k0 k1 => ?_⟩
    · refine fin ?_
      rw [hD]
      rcases hto with w | w
      · rw [w, en_1]; exact Or.inr ⟨rfl, rfl⟩
      · rw [en_n (by omega)]; exact Or.inl ⟨w.1, by omega, ht (by omega)⟩
    · have br := b.2.2.2.2.2.2.1 q q0 q1
      have uo := f.2.2.2.2.2 q q0 q1
      have qp : q = p := by
        rcases dp _ d with w | w
        · rcases uo with u | u <;> omega
        · rcases uo with u | u <;> omega
      rw [qp] at br d ⊢
      rw [← br.1] at d
      exact (dw _ d br.2.1 br.2.2.1).2 g rfl
    · have e := f.2.2.2.2.1 k k0 k1
      have kd := e.1
      -- a way of the class is one of the reference
      have way : ∀ (u : Int) (Tl : Prop) (e' : Int), (e' = 0 ∨ e' = 1) → rW c S F k e' ≠ -2 → u = en (F (c + 3) k.toNat) (rW c S F k e') → UO c F u (F (c + 3) k.toNat) → TLs c F nm k Tl (rT c F nm k e') → cUp Tl k u (fun t w => D w → RH s y' (pT c F nm t)) := fun u Tl e' he' hw hu huo ht' => by
        have er := edge_r (nm := nm) b k0 k1 he' n0
        rcases er with er | er
        · exact absurd er hw
        · have op : D u → F (c + 3) k.toNat = p := fun d => by
            rcases dp _ d with w | w
            · rcases huo with v | v <;> omega
            · rcases huo with v | v <;> omega
          constructor
          · intro tl d
            rcases ht' with w | w
            · have o := op d
              rw [hu, o] at d
              have kk := (dw _ d er.1 er.2.1).1 k e' k0 k1 o he' (Or.inl k1) rfl
              have nt : ¬ rT c F nm k e' = -1 := by
                rw [w.2]
                unfold pT
                rw [if_pos (by omega)]
                split
                · split <;> omega
                · omega
              have x := kk.1 nt
              rw [w.2] at x
              exact x
            · exact absurd tl w.1
          · intro tl t t0 ct d
            rcases ht' with w | w
            · exact absurd w.1 tl
            · have o := op d
              rw [hu, o] at d
              have kk := (dw _ d er.1 er.2.1).1 k e' k0 k1 o he' (Or.inl k1) rfl
              rcases kk.2 w.2 with v | v
              · refine ct ?_
                rw [hD]
                exact Or.inl ⟨k0, by omega, v⟩
              · exact absurd v bt_0
      have ex := class_way (nm := nm) b k0 k1 n0
      refine ⟨fun g => ?_, fun g => ?_⟩
      · obtain ⟨e', a1, a2, a3, a4⟩ := ex.1 g
        exact way _ _ e' a1 a2 a3 e.2.2.2.1 a4
      · obtain ⟨e', a1, a2, a3, a4⟩ := ex.2 g
        exact way _ _ e' a1 a2 a3 e.2.2.2.2 a4
end U
