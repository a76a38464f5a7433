/-! the reference's ways, laid -/
def IQW (t X : ST) : Prop := ∀ c, ¬ (95 ≤ c ∧ c ≤ 100) → X.1 c = t.1 c
theorem IQW.I {t X : ST} {q j : Nat} {v : Int} (h : IQW t X) (hq : 95 ≤ q ∧ q ≤ 100) : IQW t (sI X q j v) := fun c z => (sI_nc (by omega)).trans (h c z)
theorem mw_c {t X : ST} (h : IQW t X) : ∀ n : Nat, (∀ i, (m_W n).1 X i = (m_W n).1 t i) ∧ (∀ i, (m_W n).2.1 X i = (m_W n).2.1 t i) ∧ (∀ i, (m_W n).2.2.1 X i = (m_W n).2.2.1 t i) ∧ (∀ i, (m_W n).2.2.2 X i = (m_W n).2.2.2 t i) := by
  intro n
  induction n with
  | zero => exact ⟨fun _ => rfl, fun _ => rfl, fun _ => rfl, fun _ => rfl⟩
  | succ n ih =>
    obtain ⟨h1, h2, h3, h4⟩ := ih
    refine ⟨fun i => ?_, fun i => ?_, fun i => ?_, fun i => ?_⟩
    · show f_X8_entryOf_b (m_W n).2.1 X i = f_X8_entryOf_b (m_W n).2.1 t i
      unfold f_X8_entryOf_b
      repeat rewrite [bd_r]
      rw [h 77 (by omega), h 85 (by omega), h 78 (by omega), h2]
    · show f_X8_firstOf_b (m_W n).2.2.1 (m_W n).1 X i = f_X8_firstOf_b (m_W n).2.2.1 (m_W n).1 t i
      unfold f_X8_firstOf_b
      repeat rewrite [bd_r]
      rw [h 90 (by omega), h3, h1]
    · show f_X8_endOf_b (m_W n).2.2.2 X i = f_X8_endOf_b (m_W n).2.2.2 t i
      unfold f_X8_endOf_b
      repeat rewrite [bd_r]
      rw [h 92 (by omega), h 77 (by omega), h 78 (by omega), h4]
    · show f_X8_behind_b (m_W n).2.2.1 (m_W n).1 X i = f_X8_behind_b (m_W n).2.2.1 (m_W n).1 t i
      unfold f_X8_behind_b
      repeat rewrite [bd_r]
      rw [h 87 (by omega), h 88 (by omega), h3, h1]
theorem fo_c {t X : ST} (h : IQW t X) (b : Int) : f_X8_firstOf X b = f_X8_firstOf t b := (mw_c h 540).2.1 b
theorem bh_c {t X : ST} (h : IQW t X) (i : Int) : f_X8_behind X i = f_X8_behind t i := (mw_c h 540).2.2.2 i
theorem tr_c {t X : ST} (h : IQW t X) : ∀ (n k : Nat) (b : Int), f_X8_tryOf_ n k b X = f_X8_tryOf_ n k b t := by
  intro n
  induction n with
  | zero => intro k b; rfl
  | succ n ih =>
    intro k b
    rw [f_X8_tryOf_, f_X8_tryOf_]
    repeat rewrite [bd_r]
    rw [h 92 (by omega), h 77 (by omega), h 88 (by omega), h 85 (by omega), ih]
theorem to_c {t X : ST} (h : IQW t X) (i : Int) : f_X8_tryOf X i = f_X8_tryOf_ 805 7 (gI t 88 i) t := by
  unfold f_X8_tryOf
  rewrite [bd_r]
  rw [h 88 (by omega)]
  exact tr_c h 805 7 _
/-- what is laid of a statement -/
def LWK (t : ST) (S : Int) (X : ST) (k : Int) : Prop := gI X 95 (40 * S + k) = f_X8_behind t (gI t 93 (40 * S + k)) ∧ gI X 96 (40 * S + k) = (if gI t 85 (gI t 93 (40 * S + k)) = -1 then -2 else f_X8_firstOf t (gI t 85 (gI t 93 (40 * S + k)))) ∧ gI X 97 (40 * S + k) = OT t (f_X8_firstOf t) (f_X8_behind t) (gI t 93 (40 * S + k)) ∧ gI X 98 (40 * S + k) = TH t (f_X8_firstOf t) (fun b => f_X8_tryOf_ 805 7 b t) (gI t 93 (40 * S + k)) ∧ gI X 99 (40 * S + k) = vV t (fun b => f_X8_tryOf_ 805 7 b t) (gI t 93 (40 * S + k))
theorem LWK.ne {t X : ST} {S k j v : Int} {q : Nat} (h : LWK t S X j) (a0 : 0 ≤ 40 * S + k) (a1 : 0 ≤ 40 * S + j) (n : j ≠ k) : LWK t S (sI X q (40 * S + k).toNat v) j := by
  have e : ∀ p, gI (sI X q (40 * S + k).toNat v) p (40 * S + j) = gI X p (40 * S + j) := fun p => sI_ne (fun z => by have := z.2; omega)
  unfold LWK at *
  rw [e, e, e, e, e]
  exact h
theorem lw_p {t : ST} {S P : Int} (S0 : 0 ≤ S) (hS : t.1 70 6 = S) (hP : gI t 76 S = P) : ∀ (n : Nat) (l : Int) (X : ST), 0 ≤ l → P - l < n → IQW t X → (∀ k, 0 ≤ k → k < gI t 75 S → LWK t S X k) → (∀ p, 0 ≤ p → p < l → gI X 100 (5 * S + p) = f_X8_firstOf t (gI t 94 (5 * S + p))) → IQW t (f_X8_laysWays_ n 174 l 0 0 0 X) ∧ (∀ k, 0 ≤ k → k < gI t 75 S → LWK t S (f_X8_laysWays_ n 174 l 0 0 0 X) k) ∧ (∀ p, 0 ≤ p → p < P → gI (f_X8_laysWays_ n 174 l 0 0 0 X) 100 (5 * S + p) = f_X8_firstOf t (gI t 94 (5 * S + p))) ∨ P < l := by
  intro n
  induction n with
  | zero => intro l X l0 hn _ _ _; exact Or.inr (by omega)
  | succ n ih =>
    intro l X l0 hn hX hk hp
    by_cases lP : P < l
    · exact Or.inr lP
    · left
      obtain ⟨fin, kf⟩ : ∃ z, z = f_X8_laysWays_ (n + 1) 174 l 0 0 0 X := ⟨_, rfl⟩
      rewrite [← kf]
      rewrite [f_X8_laysWays_] at kf
      have j1 := if_f kf (by decide)
      have j2 := if_f j1 (by decide)
      have j3 := if_f j2 (by decide)
      have j4 := bd_e j3 (show X.1 70 6 = S by rw [hX 70 (by omega)]; exact hS)
      have j5 := bd_e j4 (show X.1 76 S.toNat = P by rw [hX 76 (by omega)]; exact hP)
      by_cases z : P ≤ l
      · have j6 := if_t j5 z
        rw [j6]
        exact ⟨hX, hk, fun p p0 p1 => hp p p0 (by omega)⟩
      · have j6 := if_f j5 z
        have j7 := bd_e j6 (show X.1 94 (5 * S + l).toNat = gI t 94 (5 * S + l) by rw [hX 94 (by omega)]; rfl)
        have j8 := bd_e j7 (fo_c hX _)
        have j9 := bd_e j8 rfl
        rw [j9]
        have R := ih (l + 1) (sI X 100 (5 * S + l).toNat (f_X8_firstOf t (gI t 94 (5 * S + l)))) (by omega) (by omega) (hX.I (by omega)) (fun k k0 k1 => by
          have e : ∀ p, p ≠ 100 → gI (sI X 100 (5 * S + l).toNat (f_X8_firstOf t (gI t 94 (5 * S + l)))) p (40 * S + k) = gI X p (40 * S + k) := fun p hp => gI_nc hp
          have q := hk k k0 k1
          unfold LWK at *
          rw [e 95 (by decide), e 96 (by decide), e 97 (by decide), e 98 (by decide), e 99 (by decide)]
          exact q) (fun p p0 p1 => by
          by_cases y : p = l
          · rw [y]; exact gI_eq
          · rw [gI_ni (by omega) (by omega) (by omega)]
            exact hp p p0 (by omega))
        rcases R with R | R
        · exact R
        · omega
set_option maxHeartbeats 4000000 in
theorem lw_k {t : ST} {S P : Int} (S0 : 0 ≤ S) (hS : t.1 70 6 = S) (hP : gI t 76 S = P) (P0 : 0 ≤ P) (h75 : 0 ≤ gI t 75 S) : ∀ (m n : Nat) (k a b d : Int) (X : ST), 0 ≤ k → k ≤ gI t 75 S → gI t 75 S - k = m → 3 * (m : Int) + P + 2 < n → IQW t X → (∀ j, 0 ≤ j → j < k → LWK t S X j) → IQW t (f_X8_laysWays_ n 2 k a b d X) ∧ (∀ k', 0 ≤ k' → k' < gI t 75 S → LWK t S (f_X8_laysWays_ n 2 k a b d X) k') ∧ (∀ p, 0 ≤ p → p < P → gI (f_X8_laysWays_ n 2 k a b d X) 100 (5 * S + p) = f_X8_firstOf t (gI t 94 (5 * S + p))) := by
  intro m
  induction m with
  | zero =>
    intro n k a b d X k0 k1 hm hn hX hk
    obtain ⟨n, rfl⟩ : ∃ n', n = n' + 1 := ⟨n - 1, by omega⟩
    obtain ⟨fin, kf⟩ : ∃ z, z = f_X8_laysWays_ (n + 1) 2 k a b d X := ⟨_, rfl⟩
    rewrite [← kf]
    rewrite [f_X8_laysWays_] at kf
    have j1 := if_t kf rfl
    have j2 := bd_e j1 (show X.1 70 6 = S by rw [hX 70 (by omega)]; exact hS)
    have j3 := bd_e j2 (show X.1 75 S.toNat = gI t 75 S by rw [hX 75 (by omega)]; rfl)
    have j4 := if_t j3 (show gI t 75 S ≤ k by omega)
    rw [j4]
    rcases lw_p S0 hS hP n 0 X (by omega) (by omega) hX (fun k' h0 h1 => hk k' h0 (by omega)) (fun p h0 h1 => by omega) with R | R
    · exact R
    · omega
  | succ m ih =>
    intro n k a b d X k0 k1 hm hn hX hk
    obtain ⟨n, rfl⟩ : ∃ n', n = n' + 1 + 1 + 1 := ⟨n - 3, by omega⟩
    obtain ⟨fin, kf⟩ : ∃ z, z = f_X8_laysWays_ (n + 1 + 1 + 1) 2 k a b d X := ⟨_, rfl⟩
    rewrite [← kf]
    rewrite [f_X8_laysWays_] at kf
    obtain ⟨i, hi⟩ : ∃ i, i = gI t 93 (40 * S + k) := ⟨_, rfl⟩
    have j1 := if_t kf rfl
    have j2 := bd_e j1 (show X.1 70 6 = S by rw [hX 70 (by omega)]; exact hS)
    have j3 := bd_e j2 (show X.1 75 S.toNat = gI t 75 S by rw [hX 75 (by omega)]; rfl)
    have j4 := if_f j3 (show ¬ gI t 75 S ≤ k by omega)
    have j5 := bd_e j4 (show X.1 93 (40 * S + k).toNat = i by rw [hX 93 (by omega), hi]; rfl)
    have j6 := bd_e j5 (to_c hX i)
    obtain ⟨tr, htr⟩ : ∃ tr, tr = f_X8_tryOf_ 805 7 (gI t 88 i) t := ⟨_, rfl⟩
    rewrite [← htr] at j6
    have j7 := bd_e j6 (bh_c hX i)
    have j8 := bd_e j7 rfl
    have a0 : 0 ≤ 40 * S + k := by omega
    obtain ⟨X1, hX1⟩ : ∃ X1, X1 = sI X 95 (40 * S + k).toNat (f_X8_behind t i) := ⟨_, rfl⟩
    rewrite [← hX1] at j8
    have i1 : IQW t X1 := by rw [hX1]; exact hX.I (by omega)
    have j9 := bd_e j8 (show X1.1 85 i.toNat = gI t 85 i by rw [i1 85 (by omega)]; rfl)
    obtain ⟨v6, hv6⟩ : ∃ v6, v6 = if gI t 85 i = -1 then -2 else f_X8_firstOf t (gI t 85 i) := ⟨_, rfl⟩
    obtain ⟨X2, hX2⟩ : ∃ X2, X2 = sI X1 96 (40 * S + k).toNat v6 := ⟨_, rfl⟩
    have i2 : IQW t X2 := by rw [hX2]; exact i1.I (by omega)
    have f1 : fin = f_X8_laysWays_ (n + 1 + 1) 81 k (40 * S + k) i tr X2 := by
      by_cases z : gI t 85 i = -1
      · have q := if_f j9 (fun y => y z)
        rw [if_pos z] at hv6
        rewrite [← hv6] at q
        exact bd_e q hX2.symm
      · have q := if_t j9 z
        rw [if_neg z] at hv6
        have q1 := bd_e q (show X1.1 85 i.toNat = gI t 85 i by rw [i1 85 (by omega)]; rfl)
        have q2 := bd_e q1 (fo_c i1 _)
        rewrite [← hv6] at q2
        exact bd_e q2 hX2.symm
    rewrite [f_X8_laysWays_] at f1
    have g1 := if_f f1 (by decide)
    have g2 := if_t g1 rfl
    have g3 := bd_e g2 (show X2.1 86 i.toNat = gI t 86 i by rw [i2 86 (by omega)]; rfl)
    obtain ⟨X3, hX3⟩ : ∃ X3, X3 = sI X2 97 (40 * S + k).toNat (OT t (f_X8_firstOf t) (f_X8_behind t) i) := ⟨_, rfl⟩
    have i3 : IQW t X3 := by rw [hX3]; exact i2.I (by omega)
    have x95 : X2.1 95 (40 * S + k).toNat = f_X8_behind t i := by rw [hX2, sI_nc (p := 95) (show 95 ≠ 96 by decide), hX1, sI_eq]
    have f2 : fin = f_X8_laysWays_ (n + 1) 116 k (40 * S + k) 0 tr X3 := by
      by_cases z : gI t 86 i = -1
      · have q := if_f g3 (fun y => y z)
        have q1 := bd_e q x95
        exact bd_e q1 (show sI X2 97 (40 * S + k).toNat (f_X8_behind t i) = X3 by rw [hX3]; unfold OT; rw [if_pos z])
      · have q := if_t g3 z
        have q1 := bd_e q (show X2.1 86 i.toNat = gI t 86 i by rw [i2 86 (by omega)]; rfl)
        have q2 := bd_e q1 (fo_c i2 _)
        exact bd_e q2 (show sI X2 97 (40 * S + k).toNat (f_X8_firstOf t (gI t 86 i)) = X3 by rw [hX3]; unfold OT; rw [if_neg z])
    rewrite [f_X8_laysWays_] at f2
    have e1 := if_f f2 (by decide)
    have e2 := if_f e1 (by decide)
    have e3 := if_t e2 rfl
    obtain ⟨X4, hX4⟩ : ∃ X4, X4 = sI X3 98 (40 * S + k).toNat (TH t (f_X8_firstOf t) (fun b => f_X8_tryOf_ 805 7 b t) i) := ⟨_, rfl⟩
    have i4 : IQW t X4 := by rw [hX4]; exact i3.I (by omega)
    obtain ⟨X5, hX5⟩ : ∃ X5, X5 = sI X4 99 (40 * S + k).toNat (vV t (fun b => f_X8_tryOf_ 805 7 b t) i) := ⟨_, rfl⟩
    have i5 : IQW t X5 := by rw [hX5]; exact i4.I (by omega)
    have f3 : fin = f_X8_laysWays_ n 2 (k + 1) 0 0 0 X5 := by
      by_cases z : tr = -1
      · have z' : f_X8_tryOf_ 805 7 (gI t 88 i) t = -1 := by rw [← htr]; exact z
        have q := if_f e3 (fun y => y z)
        have q1 := bd_e q (show sI X3 98 (40 * S + k).toNat (-1) = X4 by rw [hX4]; unfold TH; rw [if_pos z'])
        exact bd_e q1 (show sI X4 99 (40 * S + k).toNat (-1) = X5 by rw [hX5]; unfold vV; rw [if_pos z'])
      · have z' : ¬ f_X8_tryOf_ 805 7 (gI t 88 i) t = -1 := by rw [← htr]; exact z
        have q := if_t e3 z
        have q1 := bd_e q (show X3.1 86 tr.toNat = gI t 86 tr by rw [i3 86 (by omega)]; rfl)
        have q2 := bd_e q1 (fo_c i3 _)
        have q3 := bd_e q2 (show sI X3 98 (40 * S + k).toNat (f_X8_firstOf t (gI t 86 tr)) = X4 by rw [hX4]; unfold TH; rw [if_neg z', htr])
        have q4 := bd_e q3 (show X4.1 82 tr.toNat = gI t 82 tr by rw [i4 82 (by omega)]; rfl)
        exact bd_e q4 (show sI X4 99 (40 * S + k).toNat (gI t 82 tr) = X5 by rw [hX5]; unfold vV; rw [if_neg z', htr])
    rw [f3]
    refine ih n (k + 1) 0 0 0 X5 (by omega) (by omega) (by omega) (by omega) i5 (fun j j0 j1 => ?_)
    by_cases y : j = k
    · rw [y]
      unfold LWK
      rw [← hi, ← hv6, hX5, hX4, hX3, hX2, hX1]
      refine ⟨?_, ?_, ?_, ?_, ?_⟩
      · rw [gI_nc (show 95 ≠ 99 by decide), gI_nc (show 95 ≠ 98 by decide), gI_nc (show 95 ≠ 97 by decide), gI_nc (show 95 ≠ 96 by decide), gI_eq]
      · rw [gI_nc (show 96 ≠ 99 by decide), gI_nc (show 96 ≠ 98 by decide), gI_nc (show 96 ≠ 97 by decide), gI_eq]
      · rw [gI_nc (show 97 ≠ 99 by decide), gI_nc (show 97 ≠ 98 by decide), gI_eq]
      · rw [gI_nc (show 98 ≠ 99 by decide), gI_eq]
      · rw [gI_eq]
    · have q := hk j j0 (by omega)
      rw [hX5, hX4, hX3, hX2, hX1]
      exact ((((q.ne a0 (by omega) y).ne a0 (by omega) y).ne a0 (by omega) y).ne a0 (by omega) y).ne a0 (by omega) y
theorem lays_ok {t : ST} {S P : Int} (S0 : 0 ≤ S) (hS : t.1 70 6 = S) (hP : gI t 76 S = P) (P0 : 0 ≤ P) (P5 : P ≤ 5) (h75 : 0 ≤ gI t 75 S) (h40 : gI t 75 S ≤ 40) : IQW t (f_X8_laysWays t) ∧ (∀ k, 0 ≤ k → k < gI t 75 S → LWK t S (f_X8_laysWays t) k) ∧ (∀ p, 0 ≤ p → p < P → gI (f_X8_laysWays t) 100 (5 * S + p) = f_X8_firstOf t (gI t 94 (5 * S + p))) := by
  unfold f_X8_laysWays
  exact lw_k S0 hS hP P0 h75 (gI t 75 S).toNat 244 0 0 0 0 t (by omega) h75 (by omega) (by omega) (fun _ _ => rfl) (fun j j0 j1 => by omega)

