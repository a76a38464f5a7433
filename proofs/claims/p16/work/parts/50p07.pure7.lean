/-! what else is written in both trees -/
theorem RR.congr {c : Nat} {S d pc : Int} {B : Int → Int} {s t s' t' : ST} (hc : c = 2 ∨ c = 18) (h : RR c S d pc B s t) (es : ∀ p j, ¬ (p = 34 ∧ j = 2) → p ≠ c + 8 → p ≠ c + 9 → p ≠ c + 10 → s'.1 p j = s.1 p j) (et : ∀ p j, ¬ (p = 70 ∧ j = 4) → p ≠ 83 → p ≠ 89 → t'.1 p j = t.1 p j) : RR c S d pc B s' t' := by
  have a : ∀ p, p ≠ 34 → p ≠ c + 8 → p ≠ c + 9 → p ≠ c + 10 → gI s' p = gI s p := fun p h1 h2 h3 h4 => funext fun i => es p _ (fun z => h1 z.1) h2 h3 h4
  have b : ∀ p, p ≠ 70 → p ≠ 83 → p ≠ 89 → gI t' p = gI t p := fun p h1 h2 h3 => funext fun i => et p _ (fun z => h1 z.1) h2 h3
  have o : s'.1 34 7 = s.1 34 7 := es 34 7 (by omega) (by omega) (by omega) (by omega)
  unfold RR K1 K2 K3 K3a K3b OB K4 K5 K6 K7 K8 K9 lc CB CJ at *
  rw [o, a c (by omega) (by omega) (by omega) (by omega), a (c + 2) (by omega) (by omega) (by omega) (by omega), a (c + 3) (by omega) (by omega) (by omega) (by omega), a (c + 4) (by omega) (by omega) (by omega) (by omega), a (c + 5) (by omega) (by omega) (by omega) (by omega), a (c + 6) (by omega) (by omega) (by omega) (by omega), a (c + 7) (by omega) (by omega) (by omega) (by omega), a 36 (by omega) (by omega) (by omega) (by omega), a 37 (by omega) (by omega) (by omega) (by omega), a 38 (by omega) (by omega) (by omega) (by omega), a 39 (by omega) (by omega) (by omega) (by omega), a 40 (by omega) (by omega) (by omega) (by omega), a 41 (by omega) (by omega) (by omega) (by omega), a 44 (by omega) (by omega) (by omega) (by omega), a 45 (by omega) (by omega) (by omega) (by omega), a 46 (by omega) (by omega) (by omega) (by omega), a 47 (by omega) (by omega) (by omega) (by omega)]
  rw [b 73 (by omega) (by omega) (by omega), b 74 (by omega) (by omega) (by omega), b 75 (by omega) (by omega) (by omega), b 76 (by omega) (by omega) (by omega), b 77 (by omega) (by omega) (by omega), b 78 (by omega) (by omega) (by omega), b 79 (by omega) (by omega) (by omega), b 80 (by omega) (by omega) (by omega), b 81 (by omega) (by omega) (by omega), b 82 (by omega) (by omega) (by omega), b 84 (by omega) (by omega) (by omega), b 85 (by omega) (by omega) (by omega), b 86 (by omega) (by omega) (by omega), b 87 (by omega) (by omega) (by omega), b 88 (by omega) (by omega) (by omega), b 90 (by omega) (by omega) (by omega), b 91 (by omega) (by omega) (by omega), b 92 (by omega) (by omega) (by omega), b 93 (by omega) (by omega) (by omega), b 94 (by omega) (by omega) (by omega)]
  exact h
/-- a set becomes a call -/
theorem RR.call {c : Nat} {S d pc n i k : Int} {B : Int → Int} {s t s' t' : ST} (hc : c = 2 ∨ c = 18) (S0 : 0 ≤ S) (h : RR c S d pc B s t) (n0 : 0 ≤ n) (n1 : n < gI t 75 S) (hi : i = gI t 93 (40 * S + n))
    (es : ∀ q, q ≠ c + 2 → q ≠ c + 7 → q ≠ 34 → gI s' q = gI s q) (so : s'.1 34 7 = s.1 34 7) (s2 : UP (gI s (c + 2)) (gI s' (c + 2)) n) (v2 : gI s' (c + 2) n = 1) (s7 : UP (gI s (c + 7)) (gI s' (c + 7)) n) (v7 : gI s' (c + 7) n = k)
    (et : ∀ q, q ≠ 77 → q ≠ 84 → q ≠ 70 → gI t' q = gI t q) (t77 : UP (gI t 77) (gI t' 77) i) (v77 : gI t' 77 i = 1) (t84 : UP (gI t 84) (gI t' 84) i) (v84 : gI t' 84 i = k) (z77 : gI t 77 i = 0) : RR c S d pc B s' t' := by
  obtain ⟨k1, k2, k3, k4, k5, k6, ⟨k7, k9⟩, k8⟩ := h
  have hn := k2 n n0 n1
  rw [← hi] at hn
  have i0 : 0 ≤ i := by have := hn.1.1; omega
  unfold RR
  refine ⟨?_, ?_, ?_, ?_, ?_, ?_, ⟨?_, ?_⟩, so.trans k8⟩
  · unfold K1
    rw [es c (by omega) (by omega) (by omega), es 36 (by omega) (by omega) (by omega), et 75 (by omega) (by omega) (by omega), et 76 (by omega) (by omega) (by omega), et 73 (by omega) (by omega) (by omega), et 74 (by omega) (by omega) (by omega)]
    exact k1
  · intro x h0 h1
    rw [et 75 (by omega) (by omega) (by omega)] at h1
    have q := k2 x h0 h1
    unfold CJ
    rw [et 93 (by omega) (by omega) (by omega), et 73 (by omega) (by omega) (by omega), et 78 (by omega) (by omega) (by omega), et 79 (by omega) (by omega) (by omega), et 80 (by omega) (by omega) (by omega), et 81 (by omega) (by omega) (by omega), et 82 (by omega) (by omega) (by omega), es (c + 3) (by omega) (by omega) (by omega), es (c + 4) (by omega) (by omega) (by omega), es (c + 5) (by omega) (by omega) (by omega), es (c + 6) (by omega) (by omega) (by omega)]
    by_cases y : x = n
    · subst y
      rw [← hi] at q ⊢
      rw [v2, v7, v77, v84]
      exact ⟨q.1, q.2.1, rfl, q.2.2.2.1, q.2.2.2.2.1, q.2.2.2.2.2.1, q.2.2.2.2.2.2.1, rfl⟩
    · have w : gI t 93 (40 * S + x) ≠ i := fun z => by have q2 := q.2.1; rw [z, hn.2.1] at q2; exact y q2.symm
      have w0 : 0 ≤ gI t 93 (40 * S + x) := by have := q.1.1; omega
      rw [s2 x h0 y, s7 x h0 y, t77 _ w0 w, t84 _ w0 w]
      exact q
  · intro x h0 h1
    rw [et 73 (by omega) (by omega) (by omega)] at h1
    obtain ⟨q1, q2, q3, q4, q5, q6, q7, q8, q9⟩ := k3 x h0 h1
    unfold K3a K3b OB CB lc at *
    rw [es 37 (by omega) (by omega) (by omega), es 38 (by omega) (by omega) (by omega), es 39 (by omega) (by omega) (by omega), es 40 (by omega) (by omega) (by omega), es 41 (by omega) (by omega) (by omega), et 74 (by omega) (by omega) (by omega), et 75 (by omega) (by omega) (by omega), et 78 (by omega) (by omega) (by omega), et 82 (by omega) (by omega) (by omega), et 85 (by omega) (by omega) (by omega), et 86 (by omega) (by omega) (by omega), et 87 (by omega) (by omega) (by omega), et 88 (by omega) (by omega) (by omega), et 90 (by omega) (by omega) (by omega), et 91 (by omega) (by omega) (by omega), et 92 (by omega) (by omega) (by omega), et 93 (by omega) (by omega) (by omega)]
    by_cases y : 130 * S + x = i
    · rw [y, v77]
      rw [y] at q1 q2 q3 q4 q5 q6 q7 q8 q9
      refine ⟨q1, ?_, q3, q4, q5, q6, fun z => by omega, q8, q9⟩
      rcases q2 with z | z
      · rw [hn.2.1] at z; omega
      · exact Or.inr ⟨z.1, z.2.1, by omega, z.2.2.2⟩
    · rw [t77 _ (by omega) y]
      exact ⟨q1, q2, q3, q4, q5, q6, q7, q8, q9⟩
  · unfold K4 CB CJ at *
    rw [et 73 (by omega) (by omega) (by omega), et 74 (by omega) (by omega) (by omega), et 87 (by omega) (by omega) (by omega), et 88 (by omega) (by omega) (by omega), et 90 (by omega) (by omega) (by omega), et 91 (by omega) (by omega) (by omega)]
    exact k4
  · unfold K5 lc CB at *
    rw [es 44 (by omega) (by omega) (by omega), et 74 (by omega) (by omega) (by omega), et 91 (by omega) (by omega) (by omega), et 92 (by omega) (by omega) (by omega), et 94 (by omega) (by omega) (by omega)]
    exact k5
  · unfold K6 lc CB CJ at *
    rw [es 45 (by omega) (by omega) (by omega), es 46 (by omega) (by omega) (by omega), es 47 (by omega) (by omega) (by omega), et 73 (by omega) (by omega) (by omega), et 74 (by omega) (by omega) (by omega), et 85 (by omega) (by omega) (by omega), et 91 (by omega) (by omega) (by omega), et 92 (by omega) (by omega) (by omega)]
    exact k6
  · unfold K7 at *
    rw [et 73 (by omega) (by omega) (by omega), et 85 (by omega) (by omega) (by omega), et 86 (by omega) (by omega) (by omega), et 92 (by omega) (by omega) (by omega), et 94 (by omega) (by omega) (by omega)]
    exact k7
  · have cjx : ∀ x, CJ t' S x → CJ t S x := fun x z => by unfold CJ at *; rw [et 73 (by omega) (by omega) (by omega)] at z; exact z
    refine ⟨?_, fun e h0 h1 => ?_, ?_, ?_, ?_, fun x hx => ?_, by rw [et 94 (by omega) (by omega) (by omega)]; exact k9.2.2.2.2.2.2.1, ?_⟩
    · have q := k9.1
      unfold CJ at q ⊢
      rw [et 73 (by omega) (by omega) (by omega), et 79 (by omega) (by omega) (by omega), et 85 (by omega) (by omega) (by omega), et 86 (by omega) (by omega) (by omega), et 88 (by omega) (by omega) (by omega), et 92 (by omega) (by omega) (by omega), et 94 (by omega) (by omega) (by omega)]
      exact q
    · rw [et 92 (by omega) (by omega) (by omega), et 79 (by omega) (by omega) (by omega), et 86 (by omega) (by omega) (by omega), et 85 (by omega) (by omega) (by omega)]
      rcases k9.2.1 e h0 h1 with z | z
      · exact Or.inl z
      · rcases (k6 e h0 h1).2.1 with w | w
        · exact Or.inl w
        · rw [t77 _ (by have := w.1; omega) (fun y => by have z3 := z.2.2; rw [y] at z3; omega)]
          exact Or.inr z
    · rw [et 76 (by omega) (by omega) (by omega)]
      exact k9.2.2.1
    · have q := k9.2.2.2.1
      unfold CJ at q ⊢
      rw [et 73 (by omega) (by omega) (by omega), et 88 (by omega) (by omega) (by omega), et 90 (by omega) (by omega) (by omega), et 91 (by omega) (by omega) (by omega)]
      exact q
    · have q := k9.2.2.2.2.1
      unfold CJ at q ⊢
      rw [et 73 (by omega) (by omega) (by omega), et 87 (by omega) (by omega) (by omega), et 88 (by omega) (by omega) (by omega)]
      exact q
    · have q := k9.2.2.2.2.2.1 x (cjx x hx)
      rw [et 85 (by omega) (by omega) (by omega), et 86 (by omega) (by omega) (by omega)]
      by_cases y : x = i
      · rw [y] at q ⊢
        exact ⟨Or.inl (by omega), Or.inl (by omega)⟩
      · rw [t77 _ (by have := (cjx x hx).1; omega) y]
        exact q
    · have k10 := k9.2.2.2.2.2.2.2
      have n6 : ∀ x, CJ t S x → ¬ gI t' 77 x = 6 → ¬ gI t 77 x = 6 := fun x hx z => by
        by_cases y : x = i
        · rw [y, z77]
          omega
        · rw [t77 _ (by have := hx.1; omega) y] at z
          exact z
      refine ⟨fun x y hx hy x6 y6 lt => ?_, fun o x y ho hx hy e1 e2 => ?_, fun e h0 h1 ho x y hx hy e1 e2 => ?_⟩
      · rw [et 78 (by omega) (by omega) (by omega)]
        exact k10.1 x y (cjx x hx) (cjx y hy) (n6 x (cjx x hx) x6) (n6 y (cjx y hy) y6) lt
      · rw [et 85 (by omega) (by omega) (by omega), et 88 (by omega) (by omega) (by omega)] at e1
        rw [et 86 (by omega) (by omega) (by omega), et 88 (by omega) (by omega) (by omega)] at e2
        exact k10.2.1 o x y (cjx o ho) (cjx x hx) (cjx y hy) e1 e2
      · rw [et 92 (by omega) (by omega) (by omega)] at ho
        rw [et 92 (by omega) (by omega) (by omega), et 85 (by omega) (by omega) (by omega), et 88 (by omega) (by omega) (by omega)] at e1
        rw [et 88 (by omega) (by omega) (by omega)] at e2
        exact k10.2.2 e h0 h1 (cjx _ ho) x y (cjx x hx) (cjx y hy) e1 e2
/-- a block is opened -/
theorem RR.opn {c : Nat} {S d pc b i it sec : Int} {B B' : Int → Int} {s t s' t' : ST} (hc : c = 2 ∨ c = 18) (S0 : 0 ≤ S) (d0 : 0 ≤ d) (h : RR c S d pc B s t) (hb : b = 280 * S + gI t 74 S) (hi : (i = -1 ∧ gI t 76 S = pc + 1 ∧ 0 ≤ pc) ∨ (CJ t S i ∧ (gI t 79 i = pc ∧ gI t 86 i = -1 ∧ (gI t 77 i = 2 ∨ gI t 77 i = 6 ∨ (gI t 77 i = 3 ∧ gI t 85 i = -1))) ∧ 1 ≤ d)) (ho : ∀ e, 0 ≤ e → e < d → gI t 92 (B e) < i) (hit : it = if i = -1 then -1 else i - 130 * S) (hsec : sec = if i = -1 then 0 else if gI t 85 i = -1 then 0 else 1)
    (et : ∀ q, q ≠ 74 → q ≠ 90 → q ≠ 91 → q ≠ 92 → q ≠ 70 → gI t' q = gI t q) (t74 : gI t' 74 S = gI t 74 S + 1) (t90 : UP (gI t 90) (gI t' 90) b) (v90 : gI t' 90 b = -1) (t91 : UP (gI t 91) (gI t' 91) b) (v91 : gI t' 91 b = -1) (t92 : UP (gI t 92) (gI t' 92) b) (v92 : gI t' 92 b = i)
    (es : ∀ q, q ≠ 45 → q ≠ 46 → q ≠ 47 → q ≠ 34 → gI s' q = gI s q) (s45 : UP (gI s 45) (gI s' 45) d) (v45 : gI s' 45 d = it) (s46 : UP (gI s 46) (gI s' 46) d) (v46 : gI s' 46 d = -1) (s47 : UP (gI s 47) (gI s' 47) d) (v47 : gI s' 47 d = sec) (so : s'.1 34 7 = d + 1) (hB1 : B' d = b) (hB2 : ∀ e, e ≠ d → B' e = B e) : RR c S (d + 1) pc B' s' t' := by
  obtain ⟨k1, k2, k3, k4, k5, k6, ⟨k7, k9⟩, k8⟩ := h
  have cb : ∀ x, CB t S x → CB t' S x := fun x z => by unfold CB at *; rw [t74]; omega
  have cbn : ∀ x, CB t S x → 0 ≤ x ∧ x ≠ b := fun x z => by unfold CB at z; omega
  have lck : ∀ x, (x = -1 ∨ CB t S x) → lc t' S x = lc t S x := fun x y => lc_c (fun q => by rcases y with y | y; (exact absurd y q); (exact t91 x (cbn x y).1 (cbn x y).2))
  have qz : 0 ≤ gI t 74 S := k1.2.2.2.2.2.2.1
  have b0 : 0 ≤ b := by omega
  refine ⟨?_, ?_, ?_, ?_, ?_, ?_, ⟨?_, ?_⟩, so⟩
  · unfold K1 at *
    rw [es c (by omega) (by omega) (by omega) (by omega), es 36 (by omega) (by omega) (by omega) (by omega), et 75 (by omega) (by omega) (by omega) (by omega) (by omega), et 76 (by omega) (by omega) (by omega) (by omega) (by omega), et 73 (by omega) (by omega) (by omega) (by omega) (by omega), t74]
    obtain ⟨a1, a2, a3, a4, a5, a6, a7, a8, a9⟩ := k1
    exact ⟨a1, a2, a3, a4, a5, a6, by omega, a8, a9⟩
  · unfold K2 CJ at *
    rw [et 93 (by omega) (by omega) (by omega) (by omega) (by omega), et 73 (by omega) (by omega) (by omega) (by omega) (by omega), et 75 (by omega) (by omega) (by omega) (by omega) (by omega), et 77 (by omega) (by omega) (by omega) (by omega) (by omega), et 78 (by omega) (by omega) (by omega) (by omega) (by omega), et 79 (by omega) (by omega) (by omega) (by omega) (by omega), et 80 (by omega) (by omega) (by omega) (by omega) (by omega), et 81 (by omega) (by omega) (by omega) (by omega) (by omega), et 82 (by omega) (by omega) (by omega) (by omega) (by omega), et 84 (by omega) (by omega) (by omega) (by omega) (by omega), es (c + 2) (by omega) (by omega) (by omega) (by omega), es (c + 3) (by omega) (by omega) (by omega) (by omega), es (c + 4) (by omega) (by omega) (by omega) (by omega), es (c + 5) (by omega) (by omega) (by omega) (by omega), es (c + 6) (by omega) (by omega) (by omega) (by omega), es (c + 7) (by omega) (by omega) (by omega) (by omega)]
    exact k2
  · intro x h0 h1
    rw [et 73 (by omega) (by omega) (by omega) (by omega) (by omega)] at h1
    obtain ⟨q1, q2, q3, q4, q5, q6, q7, q8, q9⟩ := k3 x h0 h1
    have ob : ∀ y, OB S t y (130 * S + x) → OB S t' y (130 * S + x) := fun y z => by
      unfold OB at *
      rcases z with z | z
      · exact Or.inl z
      · exact Or.inr ⟨cb _ z.1, by rw [t92 _ (cbn _ z.1).1 (cbn _ z.1).2]; exact z.2⟩
    unfold K3a K3b at *
    rw [es 37 (by omega) (by omega) (by omega) (by omega), es 38 (by omega) (by omega) (by omega) (by omega), es 39 (by omega) (by omega) (by omega) (by omega), es 40 (by omega) (by omega) (by omega) (by omega), es 41 (by omega) (by omega) (by omega) (by omega), et 75 (by omega) (by omega) (by omega) (by omega) (by omega), et 77 (by omega) (by omega) (by omega) (by omega) (by omega), et 78 (by omega) (by omega) (by omega) (by omega) (by omega), et 82 (by omega) (by omega) (by omega) (by omega) (by omega), et 85 (by omega) (by omega) (by omega) (by omega) (by omega), et 86 (by omega) (by omega) (by omega) (by omega) (by omega), et 87 (by omega) (by omega) (by omega) (by omega) (by omega), et 88 (by omega) (by omega) (by omega) (by omega) (by omega), et 93 (by omega) (by omega) (by omega) (by omega) (by omega)]
    rw [t90 _ (cbn _ q3).1 (cbn _ q3).2, lck _ (by unfold OB at q8; rcases q8 with z | z; (exact Or.inl z); (exact Or.inr z.1)), lck _ (by unfold OB at q9; rcases q9 with z | z; (exact Or.inl z); (exact Or.inr z.1))]
    exact ⟨q1, q2, cb _ q3, q4, q5, q6, q7, ob _ q8, ob _ q9⟩
  · intro x hx
    by_cases y : x = b
    · subst y
      exact Or.inl ⟨v91, v90⟩
    · have hx' : CB t S x := by unfold CB at *; rw [t74] at hx; omega
      have q := k4 x hx'
      unfold CJ at *
      rw [t91 _ (cbn _ hx').1 y, t90 _ (cbn _ hx').1 y, et 73 (by omega) (by omega) (by omega) (by omega) (by omega), et 87 (by omega) (by omega) (by omega) (by omega) (by omega), et 88 (by omega) (by omega) (by omega) (by omega) (by omega)]
      exact q
  · intro p h0 h1
    have q := k5 p h0 h1
    rw [es 44 (by omega) (by omega) (by omega) (by omega), et 94 (by omega) (by omega) (by omega) (by omega) (by omega), lck _ (Or.inr q.2.1), t92 _ (cbn _ q.2.1).1 (cbn _ q.2.1).2]
    exact ⟨q.1, cb _ q.2.1, q.2.2⟩
  · intro e h0 h1
    have cj : ∀ x, CJ t S x → CJ t' S x := fun x z => by unfold CJ at *; rw [et 73 (by omega) (by omega) (by omega) (by omega) (by omega)]; exact z
    by_cases y : e = d
    · subst y
      rw [hB1, v92, v45, v46, v47, et 85 (by omega) (by omega) (by omega) (by omega) (by omega)]
      refine ⟨by unfold CB; rw [t74]; omega, ?_, hit, ?_, hsec⟩
      · rcases hi with z | z
        · exact Or.inl z.1
        · exact Or.inr (cj _ z.1)
      · unfold lc
        rw [if_neg (by omega), if_pos v91]
    · rw [hB2 e y]
      obtain ⟨q1, q2, q3, q4, q5⟩ := k6 e h0 (by omega)
      rw [s45 e h0 y, s46 e h0 y, s47 e h0 y, t92 _ (cbn _ q1).1 (cbn _ q1).2, lck _ (Or.inr q1), et 85 (by omega) (by omega) (by omega) (by omega) (by omega)]
      refine ⟨cb _ q1, ?_, q3, q4, q5⟩
      rcases q2 with z | z
      · exact Or.inl z
      · exact Or.inr (cj _ z)
  · intro e h0 h1
    rw [et 73 (by omega) (by omega) (by omega) (by omega) (by omega), et 85 (by omega) (by omega) (by omega) (by omega) (by omega), et 86 (by omega) (by omega) (by omega) (by omega) (by omega), et 94 (by omega) (by omega) (by omega) (by omega) (by omega)]
    by_cases y : e = d
    · subst y
      rw [hB1]
      refine ⟨fun k g0 g1 => ?_, fun p g0 g1 => (cbn _ (k5 p g0 g1).2.1).2, fun e' g0 g1 => by omega⟩
      have q := k3 k g0 g1
      constructor
      · rcases q.2.2.2.2.2.2.2.1 with z | z
        · rw [z]; omega
        · exact (cbn _ z.1).2
      · rcases q.2.2.2.2.2.2.2.2 with z | z
        · rw [z]; omega
        · exact (cbn _ z.1).2
    · rw [hB2 e y]
      obtain ⟨q1, q2, q3⟩ := k7 e h0 (by omega)
      have ce := (k6 e h0 (by omega)).1
      refine ⟨q1, q2, fun e' g0 g1 => ?_⟩
      by_cases w : e' = d
      · subst w
        rw [hB1, v92, t92 _ (cbn _ ce).1 (cbn _ ce).2]
        exact ⟨(cbn _ ce).2, ho e h0 g0⟩
      · rw [hB2 e' w]
        have ce' := (k6 e' (by omega) (by omega)).1
        rw [t92 _ (cbn _ ce).1 (cbn _ ce).2, t92 _ (cbn _ ce').1 (cbn _ ce').2]
        exact q3 e' g0 (by omega)
  · have cjx : ∀ x, CJ t' S x → CJ t S x := fun x z => by unfold CJ at *; rw [et 73 (by omega) (by omega) (by omega) (by omega) (by omega)] at z; exact z
    refine ⟨fun k h0 h1 => ?_, fun e h0 h1 => ?_, fun _ => ?_, fun x hx => ?_, fun x y hx hy hxy lt => ?_, fun x hx => ?_, by rw [et 94 (by omega) (by omega) (by omega) (by omega) (by omega)]; exact k9.2.2.2.2.2.2.1, ?_⟩
    · rw [et 73 (by omega) (by omega) (by omega) (by omega) (by omega)] at h1
      have q3 := (k3 k h0 h1).2.2.1
      rw [et 88 (by omega) (by omega) (by omega) (by omega) (by omega), et 79 (by omega) (by omega) (by omega) (by omega) (by omega), et 85 (by omega) (by omega) (by omega) (by omega) (by omega), et 86 (by omega) (by omega) (by omega) (by omega) (by omega), et 94 (by omega) (by omega) (by omega) (by omega) (by omega), t92 _ (cbn _ q3).1 (cbn _ q3).2]
      rcases k9.1 k h0 h1 with z | z
      · refine Or.inl ⟨z.1, z.2.1, ?_⟩
        rcases z.2.2 with y | y
        · exact Or.inl y
        · refine Or.inr ⟨y.1, by omega, ?_⟩
          rw [hB2 0 (by omega)]
          exact y.2.2
      · refine Or.inr ⟨?_, z.2.1, ?_⟩
        · have z1 := z.1
          unfold CJ at z1 ⊢
          rw [et 73 (by omega) (by omega) (by omega) (by omega) (by omega)]
          exact z1
        · rcases z.2.2 with y | y | ⟨e, y1, y2, y3⟩
          · exact Or.inl y
          · exact Or.inr (Or.inl y)
          · exact Or.inr (Or.inr ⟨e, y1, by omega, by rw [hB2 e (by omega)]; exact y3⟩)
    · by_cases y : e = d
      · rw [y, hB1, v92, et 79 (by omega) (by omega) (by omega) (by omega) (by omega), et 86 (by omega) (by omega) (by omega) (by omega) (by omega), et 77 (by omega) (by omega) (by omega) (by omega) (by omega), et 85 (by omega) (by omega) (by omega) (by omega) (by omega)]
        rcases hi with z | z
        · exact Or.inl z.1
        · exact Or.inr z.2.1
      · have ce := (k6 e h0 (by omega)).1
        rw [hB2 e y, t92 _ (cbn _ ce).1 (cbn _ ce).2, et 79 (by omega) (by omega) (by omega) (by omega) (by omega), et 86 (by omega) (by omega) (by omega) (by omega) (by omega), et 77 (by omega) (by omega) (by omega) (by omega) (by omega), et 85 (by omega) (by omega) (by omega) (by omega) (by omega)]
        exact k9.2.1 e h0 (by omega)
    · rw [et 76 (by omega) (by omega) (by omega) (by omega) (by omega)]
      rcases hi with z | z
      · exact z.2
      · exact k9.2.2.1 z.2.2
    · have hx' := cjx x hx
      have q3 := (k3 (x - 130 * S) (by have := hx'.1; omega) (by have := hx'.2; omega)).2.2.1
      rw [show 130 * S + (x - 130 * S) = x by omega] at q3
      rw [et 88 (by omega) (by omega) (by omega) (by omega) (by omega), t90 _ (cbn _ q3).1 (cbn _ q3).2, t91 _ (cbn _ q3).1 (cbn _ q3).2]
      exact k9.2.2.2.1 x hx'
    · rw [et 88 (by omega) (by omega) (by omega) (by omega) (by omega)] at hxy
      rw [et 87 (by omega) (by omega) (by omega) (by omega) (by omega)]
      exact k9.2.2.2.2.1 x y (cjx x hx) (cjx y hy) hxy lt
    · rw [et 77 (by omega) (by omega) (by omega) (by omega) (by omega), et 85 (by omega) (by omega) (by omega) (by omega) (by omega), et 86 (by omega) (by omega) (by omega) (by omega) (by omega)]
      exact k9.2.2.2.2.2.1 x (cjx x hx)
    · have k10 := k9.2.2.2.2.2.2.2
      refine ⟨fun x y hx hy x6 y6 lt => ?_, fun o x y ho hx hy e1 e2 => ?_, fun e h0 h1 ho x y hx hy e1 e2 => ?_⟩
      · rw [et 77 (by omega) (by omega) (by omega) (by omega) (by omega)] at x6 y6
        rw [et 78 (by omega) (by omega) (by omega) (by omega) (by omega)]
        exact k10.1 x y (cjx x hx) (cjx y hy) x6 y6 lt
      · rw [et 85 (by omega) (by omega) (by omega) (by omega) (by omega), et 88 (by omega) (by omega) (by omega) (by omega) (by omega)] at e1
        rw [et 86 (by omega) (by omega) (by omega) (by omega) (by omega), et 88 (by omega) (by omega) (by omega) (by omega) (by omega)] at e2
        exact k10.2.1 o x y (cjx o ho) (cjx x hx) (cjx y hy) e1 e2
      · rw [et 88 (by omega) (by omega) (by omega) (by omega) (by omega)] at e2
        by_cases ed : e = d
        · exfalso
          have hy' := cjx y hy
          have q3 := (k3 (y - 130 * S) (by have := hy'.1; omega) (by have := hy'.2; omega)).2.2.1
          rw [show 130 * S + (y - 130 * S) = y by omega] at q3
          rw [ed, hB1] at e2
          exact (cbn _ q3).2 e2
        · have ce := (k6 e h0 (by omega)).1
          rw [hB2 e ed] at ho e1 e2
          rw [t92 _ (cbn _ ce).1 (cbn _ ce).2] at ho e1
          rw [et 85 (by omega) (by omega) (by omega) (by omega) (by omega), et 88 (by omega) (by omega) (by omega) (by omega) (by omega)] at e1
          exact k10.2.2 e h0 (by omega) (cjx _ ho) x y (cjx x hx) (cjx y hy) e1 e2

