/-! what is reached: the least set that holds the first places and is closed under the steps -/
def CLO (R : Int → Int → Prop) (A : Int → Prop) (x : Int) : Prop := ∀ C : Int → Prop, (∀ z, A z → C z) → (∀ y z, C y → R y z → C z) → C x
theorem CLO.a {R : Int → Int → Prop} {A : Int → Prop} {x : Int} (h : A x) : CLO R A x := fun _ h1 _ => h1 x h
theorem CLO.s {R : Int → Int → Prop} {A : Int → Prop} {y x : Int} (h : CLO R A y) (r : R y x) : CLO R A x := fun C h1 h2 => h2 y x (h C h1 h2) r
theorem CLO.mono {R R' : Int → Int → Prop} {A A' : Int → Prop} (hr : ∀ y x, R y x → R' y x) (ha : ∀ x, A x → A' x) {x : Int} (h : CLO R A x) : CLO R' A' x := h _ (fun z a => CLO.a (ha z a)) (fun y z w r => CLO.s w (hr y z r))
theorem CLO.iff {R R' : Int → Int → Prop} {A A' : Int → Prop} (hr : ∀ y x, R y x ↔ R' y x) (ha : ∀ x, A x ↔ A' x) {x : Int} : CLO R A x ↔ CLO R' A' x := ⟨CLO.mono (fun y x => (hr y x).mp) (fun x => (ha x).mp), CLO.mono (fun y x => (hr y x).mpr) (fun x => (ha x).mpr)⟩
section P
variable {c : Nat} {F : Nat → Nat → Int}
/-- u is a call of q -/
def CAL (c : Nat) (F : Nat → Nat → Int) (u q : Int) : Prop := 0 ≤ u ∧ u < F c 0 ∧ F (c + 2) u.toNat = 1 ∧ F (c + 7) u.toNat = q
/-- a place that there is -/
def VP (c : Nat) (F : Nat → Nat → Int) (x : Int) : Prop := ∃ u k, x = 13 * u + k ∧ 0 ≤ k ∧ k < 13 ∧ ((0 ≤ u ∧ u < F c 0) ∨ (40 ≤ u ∧ u < 40 + F c 1))
/-- through a call; down; up -/
def S1 (c : Nat) (F : Nat → Nat → Int) (T : Int → Int → Int → Prop) (y x : Int) : Prop := ∃ u q k i, CAL c F u q ∧ 7 ≤ k ∧ k < 13 ∧ 0 ≤ i ∧ i < 6 ∧ T q (k - 7) i ∧ y = 13 * u + k ∧ x = 13 * u + 1 + i
def S2 (c : Nat) (F : Nat → Nat → Int) (y x : Int) : Prop := ∃ u q k, CAL c F u q ∧ 7 ≤ k ∧ k < 13 ∧ y = 13 * u + k ∧ x = 13 * (40 + q) + k
def S3 (c : Nat) (F : Nat → Nat → Int) (y x : Int) : Prop := ∃ u q k, CAL c F u q ∧ 0 ≤ k ∧ k < 7 ∧ y = 13 * (40 + q) + k ∧ x = 13 * u + k
/-- one step: a is 0 within procedures, 1 up, 2 down -/
def STP (c : Nat) (F : Nat → Nat → Int) (T : Int → Int → Int → Prop) (a y x : Int) : Prop := DHc c F y x ∨ S1 c F T y x ∨ (a = 2 ∧ S2 c F y x) ∨ (a = 1 ∧ S3 c F y x)
theorem CAL.q {u q : Int} (f : CFC c F) (h : CAL c F u q) : 0 ≤ q ∧ q < F c 1 := by
  have z := (f.2.2.2.2.1 u h.1 h.2.1).2.1 h.2.2.1
  rw [h.2.2.2] at z
  exact z
theorem VP.r {x : Int} (f : CFC c F) (h : VP c F x) : 0 ≤ x ∧ x < 585 := by
  obtain ⟨u, k, e, k0, k1, h⟩ := h
  have a := f.1
  have b := f.2.1
  omega
theorem VP.u {x : Int} (f : CFC c F) (h : VP c F x) : (0 ≤ x / 13 ∧ x / 13 < F c 0) ∨ (40 ≤ x / 13 ∧ x / 13 < 40 + F c 1) := by
  obtain ⟨u, k, e, k0, k1, h⟩ := h
  have a : x / 13 = u := by omega
  rw [a]
  exact h
theorem dhc_v {y x : Int} (f : CFC c F) (h : DHc c F y x) : VP c F x := by
  unfold DHc at h
  rcases h with ⟨k, u, k0, k1, u0, u1, _, _, e⟩ | ⟨p, u, p0, p1, u0, u1, _, _, e⟩ | ⟨nm, n0, n1, u, p, t, _, _, _, t0, lt, e⟩ | ⟨k, k0, k1, _, h⟩ | ⟨k, p, k0, _, k1, _, p1, p2, _, e⟩
  · by_cases z : F (c + 2) k.toNat = 1
    · rw [if_pos z] at e
      exact ⟨k, 8, e, by omega, by omega, Or.inl ⟨k0, k1⟩⟩
    · rw [if_neg z] at e
      exact ⟨k, 0, e, by omega, by omega, Or.inl ⟨k0, k1⟩⟩
  · exact ⟨40 + p, 0, by omega, by omega, by omega, Or.inr ⟨by omega, by omega⟩⟩
  · have r := LT.r f lt
    have n40 := f.1
    unfold pT at e
    rcases r with r | r
    · rw [if_pos (by omega)] at e
      by_cases z : F (c + 2) t.toNat = 1
      · rw [if_pos z] at e
        by_cases w : nm < 6
        · rw [if_pos w] at e
          exact ⟨t, 7, by omega, by omega, by omega, Or.inl r⟩
        · rw [if_neg w] at e
          exact ⟨t, 7 + (nm - 4), by omega, by omega, by omega, Or.inl r⟩
      · rw [if_neg z] at e
        exact ⟨t, 0, by omega, by omega, by omega, Or.inl r⟩
    · rw [if_neg (by omega)] at e
      by_cases w : nm < 6
      · rw [if_pos w] at e
        exact ⟨t, 1 + nm, by omega, by omega, by omega, Or.inr r⟩
      · rw [if_neg w] at e
        exact ⟨t, 1 + (nm - 4), by omega, by omega, by omega, Or.inr r⟩
  · rcases h with ⟨_, e⟩ | ⟨_, _, e⟩
    · by_cases z : F (c + 2) k.toNat = 1
      · rw [if_pos z] at e
        exact ⟨k, 7, e, by omega, by omega, Or.inl ⟨k0, k1⟩⟩
      · rw [if_neg z] at e
        exact ⟨k, 0, e, by omega, by omega, Or.inl ⟨k0, k1⟩⟩
    · by_cases z : F (c + 2) k.toNat = 1
      · rw [if_pos z] at e
        exact ⟨k, 8, e, by omega, by omega, Or.inl ⟨k0, k1⟩⟩
      · rw [if_neg z] at e
        exact ⟨k, 0, e, by omega, by omega, Or.inl ⟨k0, k1⟩⟩
  · exact ⟨k, 0, by omega, by omega, by omega, Or.inl ⟨k0, k1⟩⟩
theorem STP.v {T : Int → Int → Int → Prop} {a y x : Int} (f : CFC c F) (h : STP c F T a y x) : VP c F x := by
  rcases h with h | ⟨u, q, k, i, cl, _, _, i0, i1, _, _, e⟩ | ⟨_, u, q, k, cl, k0, k1, _, e⟩ | ⟨_, u, q, k, cl, k0, k1, _, e⟩
  · exact dhc_v f h
  · exact ⟨u, 1 + i, by omega, by omega, by omega, Or.inl ⟨cl.1, cl.2.1⟩⟩
  · have z := cl.q f
    exact ⟨40 + q, k, e, by omega, by omega, Or.inr ⟨by omega, by omega⟩⟩
  · exact ⟨u, k, e, by omega, by omega, Or.inl ⟨cl.1, cl.2.1⟩⟩
theorem CLO.v {T : Int → Int → Int → Prop} {A : Int → Prop} {a x : Int} (f : CFC c F) (ha : ∀ x, A x → VP c F x) (h : CLO (STP c F T a) A x) : VP c F x := h _ ha (fun _ _ _ r => STP.v f r)
/-- what goes through a procedure, by what is known to go through others -/
def PHI (c : Nat) (F : Nat → Nat → Int) (T : Int → Int → Int → Prop) (p b i : Int) : Prop := CLO (STP c F T 0) (fun x => x = 13 * (40 + p) + 7 + b) (13 * (40 + p) + 1 + i)
/-- the places of such a table -/
def RNG (c : Nat) (F : Nat → Nat → Int) (p b i : Int) : Prop := 0 ≤ p ∧ p < F c 1 ∧ 0 ≤ b ∧ b < 6 ∧ 0 ≤ i ∧ i < 6
def PRE (c : Nat) (F : Nat → Nat → Int) (T : Int → Int → Int → Prop) : Prop := ∀ p b i, RNG c F p b i → PHI c F T p b i → T p b i
/-- what goes through: the least -/
def TSM (c : Nat) (F : Nat → Nat → Int) (p b i : Int) : Prop := ∀ T, PRE c F T → T p b i
theorem STP.mono {T T' : Int → Int → Int → Prop} {a y x : Int} (f : CFC c F) (ht : ∀ p b i, RNG c F p b i → T p b i → T' p b i) (h : STP c F T a y x) : STP c F T' a y x := by
  rcases h with h | ⟨u, q, k, i, cl, k0, k1, i0, i1, t, e1, e2⟩ | h | h
  · exact Or.inl h
  · have z := cl.q f
    exact Or.inr (Or.inl ⟨u, q, k, i, cl, k0, k1, i0, i1, ht q (k - 7) i ⟨z.1, z.2, by omega, by omega, i0, i1⟩ t, e1, e2⟩)
  · exact Or.inr (Or.inr (Or.inl h))
  · exact Or.inr (Or.inr (Or.inr h))
theorem STP.iff {T T' : Int → Int → Int → Prop} {a y x : Int} (f : CFC c F) (ht : ∀ p b i, RNG c F p b i → (T p b i ↔ T' p b i)) : STP c F T a y x ↔ STP c F T' a y x := ⟨STP.mono f (fun p b i r => (ht p b i r).mp), STP.mono f (fun p b i r => (ht p b i r).mpr)⟩
theorem PHI.mono {T T' : Int → Int → Int → Prop} {p b i : Int} (f : CFC c F) (ht : ∀ p b i, RNG c F p b i → T p b i → T' p b i) (h : PHI c F T p b i) : PHI c F T' p b i := CLO.mono (fun _ _ r => STP.mono f ht r) (fun _ z => z) h
theorem TSM.pre (f : CFC c F) : PRE c F (TSM c F) := fun p b i r h T hT => hT p b i r (PHI.mono f (fun p b i _ t => t T hT) h)
/-- a table that grew out of nothing by what goes through, and grows no more -/
theorem TSM.of {T : Int → Int → Int → Prop} (h1 : ∀ p b i, RNG c F p b i → T p b i → TSM c F p b i) (h2 : PRE c F T) {p b i : Int} (r : RNG c F p b i) : T p b i ↔ TSM c F p b i := ⟨h1 p b i r, fun t => t T h2⟩
end P
