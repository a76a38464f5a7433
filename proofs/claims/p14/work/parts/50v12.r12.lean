/-! what the law carries of both sides' slices -/
section C
variable {c : Nat} {F F' : Nat → Nat → Int}
theorem cal_c (h : EQF c F F') : CAL c F' = CAL c F := by
  have e0 := h c (by omega) (by omega)
  have e2 := h (c + 2) (by omega) (by omega)
  have e7 := h (c + 7) (by omega) (by omega)
  funext u q
  unfold CAL
  rw [e0, e2, e7]
theorem stp_c (h : EQF c F F') : STP c F' = STP c F := by
  have e := cal_c h
  have a1 : S1 c F' = S1 c F := by unfold S1; rw [e]
  have a2 : S2 c F' = S2 c F := by unfold S2; rw [e]
  have a3 : S3 c F' = S3 c F := by unfold S3; rw [e]
  unfold STP
  rw [a1, a2, a3, dhc_c h]
theorem rng_c (h : EQF c F F') : RNG c F' = RNG c F := by
  unfold RNG
  rw [h c (by omega) (by omega)]
theorem tsm_c (h : EQF c F F') : TSM c F' = TSM c F := by
  have a5 : PHI c F' = PHI c F := by unfold PHI; rw [stp_c h]
  have a7 : PRE c F' = PRE c F := by unfold PRE; rw [a5, rng_c h]
  unfold TSM
  rw [a7]
theorem bk_c (h : EQF c F F') : BK c F' = BK c F := by
  have a1 : BKQ c F' = BKQ c F := by unfold BKQ; rw [stp_c h]
  have a2 : SA c F' = SA c F := by unfold SA; rw [h (c + 2) (by omega) (by omega)]
  unfold BK
  rw [a1, a2, tsm_c h]
theorem bo_c (h : EQF c F F') : BO c F' = BO c F := by
  have a1 : BKQ c F' = BKQ c F := by unfold BKQ; rw [stp_c h]
  unfold BO
  rw [a1, tsm_c h]
/-- the class's tables stand -/
def RDY (c : Nat) (F : Nat → Nat → Int) (s : ST) : Prop := TBL c F s ∧ PRE2 c F s
theorem RDY.cg {s : ST} (h : EQF c F F') (r : RDY c F s) : RDY c F' s := by
  refine ⟨TBL.cg h r.1, ?_, ?_⟩
  · obtain ⟨a1, a2, a3, a4, a5⟩ := r.2.1
    refine ⟨fun p p1 p2 => (a1 p p1 p2).trans (h p p1 p2).symm, a2, ?_, ?_, ?_⟩
    · rw [dhc_c h]; exact a3
    · rw [cal_c h, h c (by omega) (by omega)]; exact a4
    · rw [rng_c h, tsm_c h]; exact a5
  · have b := r.2.2
    unfold BKS at b ⊢
    rw [bk_c h, h c (by omega) (by omega)]
    exact b
/-- cells that the class's tables stand in -/
theorem RDY.s {s s' : ST} (i : ∀ p j, (c ≤ p ∧ p ≤ c + 15) ∨ p = 51 → s'.1 p j = s.1 p j) (r : s'.2.2 49 1 = s.2.2 49 1) (l : ∀ p j, (58 ≤ p ∧ p ≤ 61) ∨ p = 50 ∨ p = 55 ∨ (p = 49 ∧ j = 10) → s'.2.1 p j = s.2.1 p j) (h : RDY c F s) : RDY c F s' := by
  obtain ⟨t, ⟨a1, a2, a3, a4, a5⟩, b⟩ := h
  refine ⟨TBL.s (fun p j p1 p2 => l p j (by omega)) t, ⟨fun p p1 p2 => (funext fun j => i p j (by omega)).trans (a1 p p1 p2), r.trans a2, fun y x y0 y1 x0 x1 => ?_, fun p u p0 p1 u0 u1 => ?_, fun q p j g => ?_⟩, fun k k0 k1 hb j j0 => ?_⟩
  · unfold CH
    rw [l 58 _ (by omega)]
    exact a3 y x y0 y1 x0 x1
  · rw [l 50 _ (by omega)]
    exact a4 p u p0 p1 u0 u1
  · rw [i 51 _ (by omega)]
    exact a5 q p j g
  · rw [l 49 10 (by omega)] at hb
    rw [l 55 _ (by omega)]
    exact b k k0 k1 hb j j0
theorem RT2.cg {s : ST} (h : EQF c F F') (r : RT2 c F s) : RT2 c F' s := by
  unfold RT2 at r ⊢
  rw [rng_c h, tsm_c h, bk_c h, h c (by omega) (by omega)]
  exact r
theorem RT2.s {s s' : ST} (i : ∀ j, s'.1 108 j = s.1 108 j) (l : ∀ j, s'.2.1 111 j = s.2.1 111 j) (h : RT2 c F s) : RT2 c F s' := by
  refine ⟨fun q p j r => ?_, fun k j k0 k1 j0 => ?_⟩
  · rw [i]; exact h.1 q p j r
  · rw [l]; exact h.2 k j k0 k1 j0
end C
def RW0 (c : Nat) (s : ST) : Prop := s.1 70 30 = 0 ∨ (RTB c s.1 s ∧ RT2 c s.1 s)
def PW0 (c : Nat) (s : ST) : Prop := s.1 49 2 = 0 ∨ RDY c s.1 s
def TXW (s : ST) : Prop := RW0 (s.2.2 0 3) s ∧ PW0 (s.2.2 0 3) s
theorem RW0.cong {c : Nat} {s s' : ST} (i : ∀ q j, (c ≤ q ∧ q ≤ c + 15) ∨ (q = 70 ∧ j = 30) ∨ q = 103 ∨ q = 108 → s'.1 q j = s.1 q j) (l : ∀ q j, q = 104 ∨ q = 105 ∨ q = 107 ∨ q = 111 → s'.2.1 q j = s.2.1 q j) (h : RW0 c s) : RW0 c s' := by
  rcases h with h | h
  · exact Or.inl ((i 70 30 (by omega)).trans h)
  · have F : EQF c s.1 s'.1 := fun p p1 p2 => funext fun j => i p j (by omega)
    exact Or.inr ⟨RTB.cg F (RTB.s (fun j => i 103 j (by omega)) (fun p j hp => l p j (by omega)) h.1), RT2.cg F (RT2.s (fun j => i 108 j (by omega)) (fun j => l 111 j (by omega)) h.2)⟩
theorem PW0.cong {c : Nat} {s s' : ST} (i : ∀ q j, (c ≤ q ∧ q ≤ c + 15) ∨ (q = 49 ∧ j = 2) ∨ q = 51 → s'.1 q j = s.1 q j) (r : s'.2.2 49 1 = s.2.2 49 1) (l : ∀ p j, (58 ≤ p ∧ p ≤ 61) ∨ p = 50 ∨ p = 55 ∨ (p = 49 ∧ j = 10) → s'.2.1 p j = s.2.1 p j) (h : PW0 c s) : PW0 c s' := by
  rcases h with h | h
  · exact Or.inl ((i 49 2 (by omega)).trans h)
  · have F : EQF c s.1 s'.1 := fun p p1 p2 => funext fun j => i p j (by omega)
    exact Or.inr (RDY.cg F (RDY.s (fun p j hp => i p j (by omega)) r l h))
theorem TXW.cong {s s' : ST} (hc : s.2.2 0 3 = 2 ∨ s.2.2 0 3 = 18) (r3 : s'.2.2 0 3 = s.2.2 0 3) (r : s'.2.2 49 1 = s.2.2 49 1) (i : ∀ q j, (2 ≤ q ∧ q ≤ 33) ∨ (q = 49 ∧ j = 2) ∨ q = 51 ∨ (q = 70 ∧ j = 30) ∨ q = 103 ∨ q = 108 → s'.1 q j = s.1 q j) (l : ∀ q j, (58 ≤ q ∧ q ≤ 61) ∨ q = 50 ∨ q = 55 ∨ (q = 49 ∧ j = 10) ∨ q = 104 ∨ q = 105 ∨ q = 107 ∨ q = 111 → s'.2.1 q j = s.2.1 q j) (h : TXW s) : TXW s' := by
  unfold TXW
  rw [r3]
  exact ⟨h.1.cong (fun q j z => i q j (by omega)) (fun q j z => l q j (by omega)), h.2.cong (fun q j z => i q j (by omega)) r (fun q j z => l q j (by omega))⟩
/-- where both sides stand: no text, or one with all its tables -/
def TXU (c : Nat) (s : ST) : Prop := (s.1 70 30 = 0 ∧ s.1 c 0 = 0 ∧ s.1 c 1 = 0) ∨ (¬ s.1 70 30 = 0 ∧ BRI c (s.1 70 29) s.1 ∧ CLB c s ∧ NCL c s.1 ∧ RTB c s.1 s ∧ RT2 c s.1 s)
theorem TXU.of {s : ST} (b74 : ∀ j, s.1 74 j ≤ 280) (h : HIS s) (t : TXW s) : TXU (s.2.2 0 3) s := by
  obtain ⟨c, d, cd, h3, h4, alt⟩ := h
  unfold TXW at t
  rw [h3] at t ⊢
  rcases alt with a | a
  · exact Or.inl ⟨a.1, a.2.1, a.2.2.1⟩
  · have b := HISC.bri b74 a.2
    rcases t.1 with w | w
    · omega
    · exact Or.inr ⟨by omega, b.1, b.2.1, a.2.ncl, w.1, w.2⟩
theorem TXU.t {c : Nat} {s : ST} (t : TXU c s) : TXT c s := by
  rcases t with t | t
  · exact Or.inl t
  · exact Or.inr ⟨t.1, t.2.1, t.2.2.1, t.2.2.2.2.1⟩
/-- a question makes the tables, if they don't stand -/
theorem prep_ok {c : Nat} {s : ST} (hc : c = 2 ∨ c = 18) (f : CFC c s.1) (cl : CLB c s) (nc : NCL c s.1) (pr : PW0 c s) : RDY c s.1 (f_X4_prepare2 s c) ∧ PRf s (f_X4_prepare2 s c) := by
  have p := prepare_ok hc f cl (by rcases pr with w | w; (exact Or.inl w); (exact Or.inr w.1))
  refine ⟨?_, p.2⟩
  by_cases z : s.1 49 2 = 0
  · have t := prep_T hc f cl nc z
    refine ⟨p.1, t.1, fun k k0 k1 hb => ?_⟩
    rw [t.2] at hb
    exact absurd hb bt_0
  · rcases pr with w | w
    · exact absurd w z
    · have e : f_X4_prepare2 s c = s := by
        unfold f_X4_prepare2
        rw [bd_r, if_neg z]
      rw [e]
      exact w
/-- what stays over a question to the class -/
theorem PRf.u {c : Nat} {s s' : ST} (hc : c = 2 ∨ c = 18) (r3 : s.2.2 0 3 = c) (p : PRf s s') (r : RDY c s.1 s') (w : RW0 c s) : TXW s' := by
  have e3 : s'.2.2 0 3 = c := (p.2.2 0 3 (by omega)).trans r3
  unfold TXW
  rw [e3]
  have F : EQF c s.1 s'.1 := fun q q1 q2 => funext fun j => p.1 q j (by omega)
  exact ⟨w.cong (fun q j z => p.1 q j (by omega)) (fun q j z => p.2.1 q j (by omega)), Or.inr (RDY.cg F r)⟩
theorem TXW.prep {s : ST} (b74 : ∀ j, s.1 74 j ≤ 280) (h : HIS s) (t : TXW s) : RDY (s.2.2 0 3) s.1 (f_X4_prepare2 s (s.2.2 0 3)) ∧ PRf s (f_X4_prepare2 s (s.2.2 0 3)) ∧ TXW (f_X4_prepare2 s (s.2.2 0 3)) := by
  have k : ∀ c, (c = 2 ∨ c = 18) → s.2.2 0 3 = c → CFC c s.1 → CLB c s → NCL c s.1 → RDY (s.2.2 0 3) s.1 (f_X4_prepare2 s (s.2.2 0 3)) ∧ PRf s (f_X4_prepare2 s (s.2.2 0 3)) ∧ TXW (f_X4_prepare2 s (s.2.2 0 3)) := fun c c2 e f cl nc => by
    have pr := t.2
    have w := t.1
    rw [e] at pr w
    have p := prep_ok c2 f cl nc pr
    rw [e]
    exact ⟨p.1, p.2, PRf.u c2 e p.2 p.1 w⟩
  obtain ⟨c, d, cd, h3, h4, alt⟩ := h
  rcases alt with a | a
  · refine k c (by omega) h3 ⟨by omega, by omega, by omega, by omega, fun k k0 k1 => by omega, fun p p0 p1 => by omega⟩ (fun k k0 k1 => ?_) (fun k k0 k1 => by omega)
    rw [a.2.2.2.2.2, a.2.1]
    exact ⟨fun y => absurd y bt_0, fun y => by omega⟩
  · have b := HISC.bri b74 a.2
    exact k c (by omega) h3 b.1.2.2.2.2.1 b.2.1 a.2.ncl

