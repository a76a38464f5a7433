/-! by way, in the reference: what hangs on a decision -/
def WYR (c : Nat) (F : Nat → Nat → Int) (sA s : ST) (A W : Int → Int → Prop) : Prop := (∀ q, q ≠ 103 → s.1 q = sA.1 q) ∧ s.2.2 = sA.2.2 ∧ (∀ q, q ≠ 105 → q ≠ 107 → s.2.1 q = sA.2.1 q) ∧ (∀ y x, 0 ≤ y → 0 ≤ x → x < 608 → (RH s y x ↔ RH sA y x ∨ A y x)) ∧ (∀ y x, 0 ≤ y → y < F c 0 → 0 ≤ x → (bt (s.2.1 105 y.toNat) x ↔ W y x))
section E
variable {c : Nat} {S : Int} {F : Nat → Nat → Int}
theorem hang_2 {s : ST} {y x : Int} : (f_X8_hang2 s y x).2 = s.2 := hang_e.1
theorem WYR.hang {sA s : ST} {A W : Int → Int → Prop} (h : WYR c F sA s A W) {y x : Int} (y0 : 0 ≤ y) (x0 : 0 ≤ x) (x1 : x < 608) : WYR c F sA (f_X8_hang2 s y x) (fun y' x' => A y' x' ∨ (y' = y ∧ x' = x)) W := by
  obtain ⟨h1, h2, h3, h4, h5⟩ := h
  refine ⟨fun q hq => ?_, ?_, fun q q1 q2 => ?_, fun y' x' a1 a2 a3 => ?_, fun y' x' a1 a2 a3 => ?_⟩
  · rw [hang_e.2 q hq]; exact h1 q hq
  · rw [hang_2]; exact h2
  · rw [hang_2]; exact h3 q q1 q2
  · rw [hang_r y0 x0 x1 a1 a2 a3, h4 y' x' a1 a2 a3]
    exact or_assoc
  · rw [hang_2]; exact h5 y' x' a1 a2 a3
theorem WYR.iff {sA s : ST} {A W A' W' : Int → Int → Prop} (h : WYR c F sA s A W) (hA : ∀ y x, 0 ≤ y → 0 ≤ x → x < 608 → (A y x ↔ A' y x)) (hW : ∀ y x, 0 ≤ y → y < F c 0 → 0 ≤ x → (W y x ↔ W' y x)) : WYR c F sA s A' W' := ⟨h.1, h.2.1, h.2.2.1, fun y x a b d => by rw [h.2.2.2.1 y x a b d, hA y x a b d], fun y x a b d => by rw [h.2.2.2.2 y x a b d, hW y x a b d]⟩
theorem WYR.row {sA s : ST} {A W W' : Int → Int → Prop} (h : WYR c F sA s A W) {u : Int} {m : Int64} (u0 : 0 ≤ u) (hm : ∀ x, 0 ≤ x → (bt m x ↔ W' u x)) (ho : ∀ y x, 0 ≤ y → y < F c 0 → 0 ≤ x → y ≠ u → (W y x ↔ W' y x)) : WYR c F sA (sL s 105 u.toNat m) A W' := by
  obtain ⟨h1, h2, h3, h4, h5⟩ := h
  refine ⟨h1, h2, fun q q1 q2 => ?_, h4, fun y x a1 a2 a3 => ?_⟩
  · rw [sL_nc q1]; exact h3 q q1 q2
  · by_cases z : y = u
    · rw [z, sL_eq]; exact hm x a3
    · rw [sL_ne (by omega), h5 y x a1 a2 a3]
      exact ho y x a1 a2 a3 z
theorem WYR.rs {sA s : ST} {A W : Int → Int → Prop} (h : WYR c F sA s A W) (hr : RS F sA) : RS F s := fun q j a b d e f => by rw [h.1 q a]; exact hr q j a b d e f
/-- the rows are at rest -/
def OREST (c : Nat) (F : Nat → Nat → Int) (s : ST) : Prop := ∀ k u, 0 ≤ k → k < F c 0 → 0 ≤ u → (OB1 s k u ↔ GW c F k u)
theorem WYR.or {sA s : ST} {A W : Int → Int → Prop} (h : WYR c F sA s A W) (ho : OREST c F sA) : OREST c F s := fun k u a b d => by
  have := ho k u a b d
  unfold OB1 at this ⊢
  rw [h.2.2.1 106 (by decide) (by decide)]
  exact this
theorem oa_gu {s : ST} (ho : OREST c F s) {w p u : Int} (n40 : F c 0 ≤ 40) (p0 : 0 ≤ p) (hw : UO c F w p) (u0 : 0 ≤ u) : OA s w u ↔ GU c F w u := by
  unfold OA GU
  rcases hw with g | g
  · have q := ho w u g.1 g.2.1 u0
    unfold OB1 at q
    rw [q]
  · exact ⟨fun z => by omega, fun z => by omega⟩
theorem dec_r8 {s : ST} (hr : RS F s) (hS : F 70 6 = S) (b : BRI c S F) (h01 : H01 F) {k : Int} (k0 : 0 ≤ k) (k1 : k < F c 0) : f_X8_decides_x2 s k = 0 ↔ ¬ cDE c F k := by
  have kd := (b.2.2.2.2.1.2.2.2.2.1 k k0 k1).1
  have th := thr_r8 hr hS b h01 k0 k1
  unfold f_X8_decides_x2 cDE
  rw [bd_r, kind_r8 hr hS b k0 k1]
  by_cases z2 : F (c + 2) k.toNat = 2
  · rw [if_pos z2]
    exact ⟨fun w => absurd w (by decide), fun w => absurd (Or.inr ⟨by omega, by omega⟩) w⟩
  · rw [if_neg z2]
    by_cases z3 : F (c + 2) k.toNat = 3
    · rw [if_pos z3]
      exact ⟨fun w => absurd w (by decide), fun w => absurd (Or.inr ⟨by omega, by omega⟩) w⟩
    · rw [if_neg z3]
      by_cases z5 : F (c + 2) k.toNat = 5
      · rw [if_pos z5]
        exact ⟨fun w => absurd w (by decide), fun w => absurd (Or.inr ⟨by omega, by omega⟩) w⟩
      · rw [if_neg z5]
        by_cases z4 : F (c + 2) k.toNat = 4
        · rw [if_pos z4]
          exact ⟨fun w => absurd w (by decide), fun w => absurd (Or.inr ⟨by omega, by omega⟩) w⟩
        · rw [if_neg z4, bd_r]
          by_cases t : f_X8_isThrowing_x2 s k = 0
          · rw [if_pos t]
            refine ⟨fun _ w => ?_, fun _ => rfl⟩
            rcases w with w | w
            · exact th.mp t w
            · omega
          · rw [if_neg t]
            exact ⟨fun w => absurd w (by decide), fun w => absurd (Or.inl (Classical.byContradiction (fun v => t (th.mpr v)))) w⟩
theorem mask_r {s : ST} (hr : RS F s) (hS : F 70 6 = S) (b : BRI c S F) (h01 : H01 F) (ho : OREST c F s) {k u : Int} (k0 : 0 ≤ k) (k1 : k < F c 0) (d : cDE c F k) (u0 : 0 ≤ u) : bt (o_lxor (f_X8_onAllFrom_x2 s (f_X8_wayOf_x2 s k 0)) (f_X8_onAllFrom_x2 s (f_X8_wayOf_x2 s k 1))) u ↔ DC c F k u := by
  have e := b.2.2.2.2.1.2.2.2.2.1 k k0 k1
  have n40 := b.2.2.2.2.1.1.2
  have o0 := e.2.2.1.1
  obtain ⟨A, A0, A1, hA, h⟩ := wof_r hr hS b h01 k0 k1
  have rA := on_r (s := s) b (u := u) o0 A0 A1
  rw [hA, oa_gu ho n40 o0 e.2.2.2.1 u0] at rA
  rw [lxor_r]
  unfold DC
  rcases h with ⟨nd, _⟩ | ⟨_, D, D0, D1, hD, h⟩
  · exact absurd d nd
  · have rD := on_r (s := s) b (u := u) o0 D0 D1
    rw [hD, oa_gu ho n40 o0 e.2.2.2.2 u0] at rD
    rcases h with ⟨h1, h2⟩ | ⟨h1, h2⟩
    · rw [h1, h2, rA, rD]
      exact ⟨fun w => ⟨d, w⟩, fun w => w.2⟩
    · rw [h1, h2, rA, rD]
      exact ⟨fun w => ⟨d, fun z => w z.symm⟩, fun w z => w.2 z.symm⟩
/-- decisions so far -/
def PDC (c : Nat) (F : Nat → Nat → Int) (k i k' u : Int) : Prop := (k' < k ∨ (k' = k ∧ u < i)) ∧ 0 ≤ k' ∧ k' < F c 0 ∧ 0 ≤ u ∧ u < F c 0 ∧ DC c F k' u
def PDA (c : Nat) (F : Nat → Nat → Int) (k i y x : Int) : Prop := ∃ k' u, PDC c F k i k' u ∧ y = 13 * u ∧ x = 13 * k' + (if F (c + 2) k'.toNat = 1 then 8 else 0)
theorem PDC.step {k i k' u : Int} (k0 : 0 ≤ k) (k1 : k < F c 0) (i0 : 0 ≤ i) (i1 : i < F c 0) : PDC c F k (i + 1) k' u ↔ PDC c F k i k' u ∨ (k' = k ∧ u = i ∧ DC c F k i) := by
  unfold PDC
  constructor
  · rintro ⟨w, a1, a2, a3, a4, a5⟩
    by_cases q : k' = k ∧ u = i
    · rw [q.1, q.2] at a5
      exact Or.inr ⟨q.1, q.2, a5⟩
    · exact Or.inl ⟨by omega, a1, a2, a3, a4, a5⟩
  · rintro (⟨w, a1, a2, a3, a4, a5⟩ | ⟨rfl, rfl, a⟩)
    · exact ⟨by omega, a1, a2, a3, a4, a5⟩
    · exact ⟨by omega, k0, k1, i0, i1, a⟩
theorem PDC.next {k i k' u : Int} (h : F c 0 ≤ i ∨ ¬ cDE c F k) : PDC c F k i k' u ↔ PDC c F (k + 1) 0 k' u := by
  unfold PDC
  constructor
  · rintro ⟨w, a1, a2, a3, a4, a5⟩
    exact ⟨by omega, a1, a2, a3, a4, a5⟩
  · rintro ⟨w, a1, a2, a3, a4, a5⟩
    refine ⟨?_, a1, a2, a3, a4, a5⟩
    by_cases q : k' = k
    · rcases h with g | g
      · omega
      · rw [q] at a5
        exact absurd a5.1 g
    · omega
theorem PDA.step {k i y x : Int} (k0 : 0 ≤ k) (k1 : k < F c 0) (i0 : 0 ≤ i) (i1 : i < F c 0) : PDA c F k (i + 1) y x ↔ PDA c F k i y x ∨ (DC c F k i ∧ y = 13 * i ∧ x = 13 * k + (if F (c + 2) k.toNat = 1 then 8 else 0)) := by
  unfold PDA
  constructor
  · rintro ⟨k', u, w, a1, a2⟩
    rcases (PDC.step k0 k1 i0 i1).mp w with w | ⟨rfl, rfl, w⟩
    · exact Or.inl ⟨k', u, w, a1, a2⟩
    · exact Or.inr ⟨w, a1, a2⟩
  · rintro (⟨k', u, w, a1, a2⟩ | ⟨w, a1, a2⟩)
    · exact ⟨k', u, (PDC.step k0 k1 i0 i1).mpr (Or.inl w), a1, a2⟩
    · exact ⟨k, i, (PDC.step k0 k1 i0 i1).mpr (Or.inr ⟨rfl, rfl, w⟩), a1, a2⟩
theorem PDA.next {k i y x : Int} (h : F c 0 ≤ i ∨ ¬ cDE c F k) : PDA c F k i y x ↔ PDA c F (k + 1) 0 y x := by
  unfold PDA
  exact ⟨fun ⟨k', u, w, a⟩ => ⟨k', u, (PDC.next h).mp w, a⟩, fun ⟨k', u, w, a⟩ => ⟨k', u, (PDC.next h).mpr w, a⟩⟩
theorem wy_z {sA : ST} (hr : RS F sA) (hS : F 70 6 = S) (b : BRI c S F) : ∀ (n : Nat) (k : Int) (a : Int64) (a5 a3 : Int) (s : ST), 0 ≤ k → k ≤ F c 0 → EQL 105 sA s → (∀ k', 0 ≤ k' → k' < k → s.2.1 105 k'.toNat = 0) → 3445 - k < (n : Int) → ∃ (n' : Nat) (s1 : ST), 3390 < (n' : Int) ∧ EQL 105 sA s1 ∧ (∀ k', 0 ≤ k' → k' < F c 0 → s1.2.1 105 k'.toNat = 0) ∧ f_X8_laysWay2_ n 126 0 k a a5 a3 s = f_X8_laysWay2_ n' 154 0 0 0 0 0 s1 := by
  have f := b.2.2.2.2.1
  have n40 := f.1
  intro n
  induction n with
  | zero => intros; omega
  | succ n ih =>
    intro k a a5 a3 s k0 k1 h hk hm
    have r := hr.q h.1
    rw [f_X8_laysWay2_, if_neg (by decide), if_neg (by decide), if_neg (by decide), if_pos rfl, bd_r, bd_r, r.g (q := 70) (j := 6) (by omega), hS, r.g (q := 75) (by omega), b.2.2.1]
    by_cases z : F c 0 ≤ k
    · rw [if_pos z]
      exact ⟨n, s, by omega, h, fun k' w1 w2 => hk k' w1 (by omega), rfl⟩
    · rw [if_neg z, bd_r]
      refine ih (k + 1) 0 0 0 _ (by omega) (by omega) (h.tr EQL.L) (fun k' w1 w2 => ?_) (by omega)
      by_cases q : k' = k
      · rw [q]; exact sL_eq _ _ _ _
      · rw [sL_ne (by omega)]
        exact hk k' w1 (by omega)
theorem wy_n {sA : ST} (hr0 : RS F sA) (hS : F 70 6 = S) (b : BRI c S F) (h01 : H01 F) (ho : OREST c F sA) : ∀ n : Nat,
    (∀ (k : Int) (a : Int64) (a5 a3 : Int) (s : ST), 0 ≤ k → k ≤ F c 0 → WYR c F sA s (PDA c F k 0) (fun y x => PDC c F k 0 x y) → 1300 + 50 * (40 - k) + 49 < (n : Int) → ∃ (n' : Nat) (s1 : ST), 1250 < (n' : Int) ∧ WYR c F sA s1 (PDA c F (F c 0) 0) (fun y x => PDC c F (F c 0) 0 x y) ∧ f_X8_laysWay2_ n 154 0 k a a5 a3 s = f_X8_laysWay2_ n' 285 0 0 0 0 0 s1) ∧
    (∀ (k i : Int) (m : Int64) (a3 : Int) (s : ST), 0 ≤ k → k < F c 0 → 0 ≤ i → i ≤ F c 0 → cDE c F k → (∀ u, 0 ≤ u → (bt m u ↔ DC c F k u)) → WYR c F sA s (PDA c F k i) (fun y x => PDC c F k i x y) → 1300 + 50 * (40 - k) + 48 - i < (n : Int) → ∃ (n' : Nat) (s1 : ST), 1250 < (n' : Int) ∧ WYR c F sA s1 (PDA c F (F c 0) 0) (fun y x => PDC c F (F c 0) 0 x y) ∧ f_X8_laysWay2_ n 203 0 k m i a3 s = f_X8_laysWay2_ n' 285 0 0 0 0 0 s1) := by
  have f := b.2.2.2.2.1
  have n40 := f.1
  intro n
  induction n with
  | zero => exact ⟨by intros; omega, by intros; omega⟩
  | succ n ih =>
    refine ⟨fun k a a5 a3 s k0 k1 h hm => ?_, fun k i m a3 s k0 k1 i0 i1 d hmk h hm => ?_⟩
    · have r := h.rs hr0
      rw [f_X8_laysWay2_, if_neg (by decide), if_neg (by decide), if_neg (by decide), if_neg (by decide), if_pos rfl, bd_r, bd_r, r.g (q := 70) (j := 6) (by omega), hS, r.g (q := 75) (by omega), b.2.2.1]
      by_cases z : F c 0 ≤ k
      · rw [if_pos z]
        have e : k = F c 0 := by omega
        rw [e] at h
        exact ⟨n, s, by omega, h, rfl⟩
      · rw [if_neg z, bd_r]
        have dc := dec_r8 r hS b h01 k0 (show k < F c 0 by omega)
        by_cases y : f_X8_decides_x2 s k = 0
        · rw [if_neg (fun w => w y)]
          have nd := dc.mp y
          exact ih.1 (k + 1) 0 0 0 s (by omega) (by omega) (h.iff (fun _ _ _ _ _ => PDA.next (Or.inr nd)) (fun _ _ _ _ _ => PDC.next (Or.inr nd))) (by omega)
        · rw [if_pos y, bd_r, bd_r, bd_r, bd_r, bd_r]
          have d : cDE c F k := Classical.byContradiction (fun w => y (dc.mpr w))
          exact ih.2 k 0 _ 0 s k0 (by omega) (by omega) n40.1 d (fun u u0 => mask_r r hS b h01 (h.or ho) k0 (by omega) d u0) h (by omega)
    · have r := h.rs hr0
      rw [f_X8_laysWay2_, if_neg (by decide), if_neg (by decide), if_neg (by decide), if_neg (by decide), if_neg (by decide), if_pos rfl, bd_r, bd_r, r.g (q := 70) (j := 6) (by omega), hS, r.g (q := 75) (by omega), b.2.2.1]
      by_cases z : F c 0 ≤ i
      · rw [if_pos z]
        exact ih.1 (k + 1) 0 0 0 s (by omega) (by omega) (h.iff (fun _ _ _ _ _ => PDA.next (Or.inl z)) (fun _ _ _ _ _ => PDC.next (Or.inl z))) (by omega)
      · rw [if_neg z, bd_r]
        have i1' : i < F c 0 := by omega
        have hx := has2_r (s := s) (x := m) i0 (show i ≤ 63 by omega)
        by_cases y : f_X8_has2 s m i = 0
        · rw [if_neg (fun w => w y)]
          have nb : ¬ DC c F k i := fun w => hx.mp y ((hmk i i0).mpr w)
          refine ih.2 k (i + 1) m 0 s k0 k1 (by omega) (by omega) d hmk (h.iff (fun y' x _ _ _ => ?_) (fun y' x _ _ _ => ?_)) (by omega)
          · rw [PDA.step k0 k1 i0 i1']
            exact ⟨Or.inl, fun w => by rcases w with w | w; (exact w); (exact absurd w.1 nb)⟩
          · rw [PDC.step k0 k1 i0 i1']
            exact ⟨Or.inl, fun w => by rcases w with w | w; (exact w); (exact absurd w.2.2 nb)⟩
        · rw [if_pos y]
          have yb : DC c F k i := (hmk i i0).mp (Classical.byContradiction (fun w => y (hx.mpr w)))
          rw [bd_r, bd_r, bd_r, bd_r, bd_r, bd_r]
          have hrow : WYR c F sA (sL s 105 i.toNat (o_lor (s.2.1 105 i.toNat) (o_lshl (1 : Int64) k))) (PDA c F k i) (fun y x => PDC c F k (i + 1) x y) := by
            refine h.row i0 (fun x x0 => ?_) (fun y' x _ _ _ w => ?_)
            · rw [lor_r, h.2.2.2.2 i x i0 i1' x0, shl_r k0 (by omega) x0, PDC.step k0 k1 i0 i1']
              exact or_congr Iff.rfl ⟨fun w => ⟨w, rfl, yb⟩, fun w => w.1⟩
            · rw [PDC.step k0 k1 i0 i1']
              exact ⟨Or.inl, fun v => by rcases v with v | v; (exact v); (exact absurd v.2.1 w)⟩
          have r2 := hrow.rs hr0
          rw [kind_r8 r2 hS b k0 k1]
          have go : ∀ e : Int, e = (if F (c + 2) k.toNat = 1 then 8 else 0) → WYR c F sA (f_X8_hang2 (sL s 105 i.toNat (o_lor (s.2.1 105 i.toNat) (o_lshl (1 : Int64) k))) (13 * i + 0) (13 * k + e)) (PDA c F k (i + 1)) (fun y x => PDC c F k (i + 1) x y) := fun e he => by
            have e8 : 0 ≤ e ∧ e ≤ 8 := by
              rw [he]
              split <;> omega
            refine (hrow.hang (by omega) (by omega) (by omega)).iff (fun y' x _ _ _ => ?_) (fun _ _ _ _ _ => Iff.rfl)
            rw [PDA.step k0 k1 i0 i1', ← he]
            exact or_congr Iff.rfl ⟨fun w => ⟨yb, by omega, w.2⟩, fun w => ⟨by omega, w.2.2⟩⟩
          by_cases k1' : F (c + 2) k.toNat = 1
          · rw [if_neg (fun w => w k1'), bd_r, bd_r]
            unfold f_X8_statementPlace2
            exact ih.2 k (i + 1) m 0 _ k0 k1 (by omega) (by omega) d hmk (go 8 (by rw [if_pos k1'])) (by omega)
          · rw [if_pos k1', bd_r, bd_r]
            unfold f_X8_statementPlace2
            exact ih.2 k (i + 1) m 0 _ k0 k1 (by omega) (by omega) d hmk (go 0 (by rw [if_neg k1'])) (by omega)
end E
