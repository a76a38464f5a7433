/-- the first block of an item is closed -/
theorem RR.cls {c : Nat} {S d pc b i : Int} {B : Int → Int} {s t s' t' : ST} (hc : c = 2 ∨ c = 18) (S0 : 0 ≤ S) (d0 : 1 ≤ d) (h : RR c S d pc B s t) (hb : b = B (d - 1)) (hi : i = gI t 92 b) (hi0 : CJ t S i) (h85 : gI t 85 i = -1)
    (et : ∀ q, q ≠ 85 → q ≠ 70 → gI t' q = gI t q) (t85 : UP (gI t 85) (gI t' 85) i) (v85 : gI t' 85 i = b)
    (es : ∀ q, q ≠ 39 → q ≠ 34 → gI s' q = gI s q) (s39 : UP (gI s 39) (gI s' 39) (i - 130 * S)) (v39 : gI s' 39 (i - 130 * S) = gI s 46 (d - 1)) (so : s'.1 34 7 = d - 1) : RR c S (d - 1) pc B s' t' := by
  obtain ⟨k1, k2, k3, k4, k5, k6, ⟨k7, k9⟩, k8⟩ := h
  have hB := k6 (d - 1) (by omega) (by omega)
  rw [← hb] at hB
  have i0 : 0 ≤ i := by have := hi0.1; omega
  refine ⟨?_, ?_, ?_, ?_, ?_, ?_, ⟨?_, ?_⟩, so⟩
  · unfold K1 at *
    rw [es c (by omega) (by omega), es 36 (by omega) (by omega), et 75 (by omega) (by omega), et 76 (by omega) (by omega), et 73 (by omega) (by omega), et 74 (by omega) (by omega)]
    exact k1
  · unfold K2 CJ at *
    rw [et 93 (by omega) (by omega), et 73 (by omega) (by omega), et 75 (by omega) (by omega), et 77 (by omega) (by omega), et 78 (by omega) (by omega), et 79 (by omega) (by omega), et 80 (by omega) (by omega), et 81 (by omega) (by omega), et 82 (by omega) (by omega), et 84 (by omega) (by omega), es (c + 2) (by omega) (by omega), es (c + 3) (by omega) (by omega), es (c + 4) (by omega) (by omega), es (c + 5) (by omega) (by omega), es (c + 6) (by omega) (by omega), es (c + 7) (by omega) (by omega)]
    exact k2
  · intro x h0 h1
    rw [et 73 (by omega) (by omega)] at h1
    obtain ⟨q1, q2, q3, q4, q5, q6, q7, q8, q9⟩ := k3 x h0 h1
    have hl : ∀ y, lc t' S y = lc t S y := fun y => lc_c (fun _ => by rw [et 91 (by omega) (by omega)])
    rw [hl, hl]
    unfold K3a K3b OB CB at *
    rw [es 37 (by omega) (by omega), es 38 (by omega) (by omega), es 40 (by omega) (by omega), es 41 (by omega) (by omega), et 74 (by omega) (by omega), et 75 (by omega) (by omega), et 77 (by omega) (by omega), et 78 (by omega) (by omega), et 82 (by omega) (by omega), et 86 (by omega) (by omega), et 87 (by omega) (by omega), et 88 (by omega) (by omega), et 90 (by omega) (by omega), et 92 (by omega) (by omega), et 93 (by omega) (by omega)]
    by_cases y : 130 * S + x = i
    · rw [show gI s' 39 x = gI s 46 (d - 1) by rw [show x = i - 130 * S by omega]; exact v39, show gI t' 85 (130 * S + x) = b by rw [y]; exact v85]
      exact ⟨q1, q2, q3, q4, hB.2.2.2.1, q6, q7, Or.inr ⟨hB.1, hi.symm.trans y.symm⟩, q9⟩
    · rw [t85 _ (by omega) y, s39 x h0 (by omega)]
      exact ⟨q1, q2, q3, q4, q5, q6, q7, q8, q9⟩
  · unfold K4 CB CJ at *
    rw [et 73 (by omega) (by omega), et 74 (by omega) (by omega), et 87 (by omega) (by omega), et 88 (by omega) (by omega), et 90 (by omega) (by omega), et 91 (by omega) (by omega)]
    exact k4
  · unfold K5 lc CB at *
    rw [es 44 (by omega) (by omega), et 74 (by omega) (by omega), et 91 (by omega) (by omega), et 92 (by omega) (by omega), et 94 (by omega) (by omega)]
    exact k5
  · intro e h0 h1
    obtain ⟨q1, q2, q3, q4, q5⟩ := k6 e h0 (by omega)
    have lt := ((k7 e h0 (by omega)).2.2 (d - 1) (by omega) (by omega)).2
    rw [← hb, ← hi] at lt
    unfold lc CB CJ at *
    rw [es 45 (by omega) (by omega), es 46 (by omega) (by omega), es 47 (by omega) (by omega), et 73 (by omega) (by omega), et 74 (by omega) (by omega), et 91 (by omega) (by omega), et 92 (by omega) (by omega)]
    refine ⟨q1, q2, q3, q4, ?_⟩
    rw [q5]
    by_cases y : gI t 92 (B e) = -1
    · rw [if_pos y, if_pos y]
    · rw [if_neg y, if_neg y, t85 _ (by omega) (by omega)]
  · intro e h0 h1
    obtain ⟨q1, q2, q3⟩ := k7 e h0 (by omega)
    have ne := (q3 (d - 1) (by omega) (by omega)).1
    rw [← hb] at ne
    rw [et 73 (by omega) (by omega), et 86 (by omega) (by omega), et 92 (by omega) (by omega), et 94 (by omega) (by omega)]
    refine ⟨fun k g0 g1 => ⟨?_, (q1 k g0 g1).2⟩, q2, fun e' g0 g1 => q3 e' g0 (by omega)⟩
    by_cases y : 130 * S + k = i
    · rw [y, v85]; exact fun z => ne z.symm
    · rw [t85 _ (by omega) y]; exact (q1 k g0 g1).1
  · have cjx : ∀ x, CJ t' S x → CJ t S x := fun x z => by unfold CJ at *; rw [et 73 (by omega) (by omega)] at z; exact z
    have cjy : ∀ x, CJ t S x → CJ t' S x := fun x z => by unfold CJ at *; rw [et 73 (by omega) (by omega)]; exact z
    refine ⟨fun k h0 h1 => ?_, fun e h0 h1 => ?_, fun z => ?_, fun x hx => ?_, fun x y hx hy hxy lt => ?_, fun x hx => ?_, by rw [et 94 (by omega) (by omega)]; exact k9.2.2.2.2.2.2.1, ?_⟩
    · rw [et 73 (by omega) (by omega)] at h1
      have q := k9.1 k h0 h1
      have q3 := (k3 k h0 h1).2.2.1
      rw [et 79 (by omega) (by omega), et 86 (by omega) (by omega), et 88 (by omega) (by omega), et 92 (by omega) (by omega), et 94 (by omega) (by omega)]
      rcases q with z | z
      · refine Or.inl ⟨z.1, z.2.1, ?_⟩
        rcases z.2.2 with y | y
        · exact Or.inl y
        · refine Or.inr ⟨y.1, ?_, y.2.2⟩
          by_cases w : d = 1
          · exfalso
            have x := z.1
            rw [y.2.2, show B 0 = b by rw [hb, w]; rfl, ← hi] at x
            have := hi0.1
            omega
          · omega
      · refine Or.inr ⟨cjy _ z.1, z.2.1, ?_⟩
        have z0 : 0 ≤ gI t 92 (gI t 88 (130 * S + k)) := by have := z.1.1; omega
        rcases z.2.2 with y | y | ⟨e, y1, y2, y3⟩
        · by_cases w : gI t 92 (gI t 88 (130 * S + k)) = i
          · exfalso
            rw [w, h85] at y
            have := q3.1
            omega
          · exact Or.inl (by rw [t85 _ z0 w]; exact y)
        · exact Or.inr (Or.inl y)
        · by_cases w : e = d - 1
          · rw [w, ← hb] at y3
            rw [y3, ← hi]
            exact Or.inl v85
          · exact Or.inr (Or.inr ⟨e, y1, by omega, y3⟩)
    · rw [et 92 (by omega) (by omega), et 79 (by omega) (by omega), et 86 (by omega) (by omega), et 77 (by omega) (by omega)]
      have q := k9.2.1 e h0 (by omega)
      have lt := ((k7 e h0 (by omega)).2.2 (d - 1) (by omega) (by omega)).2
      rw [← hb, ← hi] at lt
      rcases (k6 e h0 (by omega)).2.1 with z | z
      · exact Or.inl z
      · rw [t85 _ (by have := z.1; omega) (by omega)]
        exact q
    · rw [et 76 (by omega) (by omega)]
      exact k9.2.2.1 (by omega)
    · rw [et 88 (by omega) (by omega), et 90 (by omega) (by omega), et 91 (by omega) (by omega)]
      exact k9.2.2.2.1 x (cjx x hx)
    · rw [et 88 (by omega) (by omega)] at hxy
      rw [et 87 (by omega) (by omega)]
      exact k9.2.2.2.2.1 x y (cjx x hx) (cjx y hy) hxy lt
    · have hx' := cjx x hx
      have q := k9.2.2.2.2.2.1 x hx'
      rw [et 77 (by omega) (by omega), et 86 (by omega) (by omega)]
      by_cases y : x = i
      · rw [y] at q ⊢
        rw [v85]
        have c2 := k9.2.1 (d - 1) (by omega) (by omega)
        rw [← hb, ← hi] at c2
        have c7 := ((k7 (d - 1) (by omega) (by omega)).1 (i - 130 * S) (by have := hi0.1; omega) (by have := hi0.2; omega)).2
        rw [show 130 * S + (i - 130 * S) = i by omega, ← hb] at c7
        refine ⟨Or.inr ⟨fun z => c7 z.symm, ?_⟩, q.2⟩
        rcases c2 with z | z
        · omega
        · have := z.2.2
          omega
      · rw [t85 _ (by have := hx'.1; omega) y]
        exact q
    · have k10 := k9.2.2.2.2.2.2.2
      have c80 : ∀ x, CJ t S x → 0 ≤ gI t 88 x := fun x z => by
        have q3 := (k3 (x - 130 * S) (by have := z.1; omega) (by have := z.2; omega)).2.2.1
        rw [show 130 * S + (x - 130 * S) = x by omega] at q3
        have := q3.1
        omega
      refine ⟨fun x y hx hy x6 y6 lt => ?_, fun o x y ho hx hy e1 e2 => ?_, fun e h0 h1 ho x y hx hy e1 e2 => ?_⟩
      · rw [et 77 (by omega) (by omega)] at x6 y6
        rw [et 78 (by omega) (by omega)]
        exact k10.1 x y (cjx x hx) (cjx y hy) x6 y6 lt
      · rw [et 86 (by omega) (by omega), et 88 (by omega) (by omega)] at e2
        by_cases eo : o = i
        · exfalso
          have c2 := k9.2.1 (d - 1) (by omega) (by omega)
          rw [← hb, ← hi] at c2
          have := c80 y (cjx y hy)
          have := hi0.1
          rw [eo] at e2
          rcases c2 with z | z
          · omega
          · have := z.2.1
            omega
        · rw [t85 _ (by have := (cjx o ho).1; omega) eo, et 88 (by omega) (by omega)] at e1
          exact k10.2.1 o x y (cjx o ho) (cjx x hx) (cjx y hy) e1 e2
      · rw [et 88 (by omega) (by omega)] at e2
        rw [et 92 (by omega) (by omega)] at ho e1
        have lt := ((k7 e h0 (by omega)).2.2 (d - 1) (by omega) (by omega)).2
        rw [← hb, ← hi] at lt
        rw [t85 _ (by have := (cjx _ ho).1; omega) (by omega), et 88 (by omega) (by omega)] at e1
        exact k10.2.2 e h0 (by omega) (cjx _ ho) x y (cjx x hx) (cjx y hy) e1 e2
/-- the second block of an item is closed -/
theorem RR.cls2 {c : Nat} {S d pc b i : Int} {B : Int → Int} {s t s' t' : ST} (hc : c = 2 ∨ c = 18) (S0 : 0 ≤ S) (d0 : 1 ≤ d) (h : RR c S d pc B s t) (hb : b = B (d - 1)) (hi : i = gI t 92 b) (hi0 : CJ t S i) (h86 : gI t 86 i = -1) (h85 : ¬ gI t 85 i = -1)
    (et : ∀ q, q ≠ 86 → q ≠ 70 → gI t' q = gI t q) (t86 : UP (gI t 86) (gI t' 86) i) (v86 : gI t' 86 i = b)
    (es : ∀ q, q ≠ 40 → q ≠ 34 → gI s' q = gI s q) (s40 : UP (gI s 40) (gI s' 40) (i - 130 * S)) (v40 : gI s' 40 (i - 130 * S) = gI s 46 (d - 1)) (so : s'.1 34 7 = d - 1) : RR c S (d - 1) pc B s' t' := by
  obtain ⟨k1, k2, k3, k4, k5, k6, ⟨k7, k9⟩, k8⟩ := h
  have hB := k6 (d - 1) (by omega) (by omega)
  rw [← hb] at hB
  have i0 : 0 ≤ i := by have := hi0.1; omega
  refine ⟨?_, ?_, ?_, ?_, ?_, ?_, ⟨?_, ?_⟩, so⟩
  · unfold K1 at *
    rw [es c (by omega) (by omega), es 36 (by omega) (by omega), et 75 (by omega) (by omega), et 76 (by omega) (by omega), et 73 (by omega) (by omega), et 74 (by omega) (by omega)]
    exact k1
  · unfold K2 CJ at *
    rw [et 93 (by omega) (by omega), et 73 (by omega) (by omega), et 75 (by omega) (by omega), et 77 (by omega) (by omega), et 78 (by omega) (by omega), et 79 (by omega) (by omega), et 80 (by omega) (by omega), et 81 (by omega) (by omega), et 82 (by omega) (by omega), et 84 (by omega) (by omega), es (c + 2) (by omega) (by omega), es (c + 3) (by omega) (by omega), es (c + 4) (by omega) (by omega), es (c + 5) (by omega) (by omega), es (c + 6) (by omega) (by omega), es (c + 7) (by omega) (by omega)]
    exact k2
  · intro x h0 h1
    rw [et 73 (by omega) (by omega)] at h1
    obtain ⟨q1, q2, q3, q4, q5, q6, q7, q8, q9⟩ := k3 x h0 h1
    have hl : ∀ y, lc t' S y = lc t S y := fun y => lc_c (fun _ => by rw [et 91 (by omega) (by omega)])
    rw [hl, hl]
    unfold K3a K3b OB CB at *
    rw [es 37 (by omega) (by omega), es 38 (by omega) (by omega), es 39 (by omega) (by omega), es 41 (by omega) (by omega), et 74 (by omega) (by omega), et 75 (by omega) (by omega), et 77 (by omega) (by omega), et 78 (by omega) (by omega), et 82 (by omega) (by omega), et 85 (by omega) (by omega), et 87 (by omega) (by omega), et 88 (by omega) (by omega), et 90 (by omega) (by omega), et 92 (by omega) (by omega), et 93 (by omega) (by omega)]
    by_cases y : 130 * S + x = i
    · rw [show gI s' 40 x = gI s 46 (d - 1) by rw [show x = i - 130 * S by omega]; exact v40, show gI t' 86 (130 * S + x) = b by rw [y]; exact v86]
      exact ⟨q1, q2, q3, q4, q5, hB.2.2.2.1, q7, q8, Or.inr ⟨hB.1, hi.symm.trans y.symm⟩⟩
    · rw [t86 _ (by omega) y, s40 x h0 (by omega)]
      exact ⟨q1, q2, q3, q4, q5, q6, q7, q8, q9⟩
  · unfold K4 CB CJ at *
    rw [et 73 (by omega) (by omega), et 74 (by omega) (by omega), et 87 (by omega) (by omega), et 88 (by omega) (by omega), et 90 (by omega) (by omega), et 91 (by omega) (by omega)]
    exact k4
  · unfold K5 lc CB at *
    rw [es 44 (by omega) (by omega), et 74 (by omega) (by omega), et 91 (by omega) (by omega), et 92 (by omega) (by omega), et 94 (by omega) (by omega)]
    exact k5
  · intro e h0 h1
    have q := k6 e h0 (by omega)
    unfold lc CB CJ at *
    rw [es 45 (by omega) (by omega), es 46 (by omega) (by omega), es 47 (by omega) (by omega), et 73 (by omega) (by omega), et 74 (by omega) (by omega), et 85 (by omega) (by omega), et 91 (by omega) (by omega), et 92 (by omega) (by omega)]
    exact q
  · intro e h0 h1
    obtain ⟨q1, q2, q3⟩ := k7 e h0 (by omega)
    have ne := (q3 (d - 1) (by omega) (by omega)).1
    rw [← hb] at ne
    rw [et 73 (by omega) (by omega), et 85 (by omega) (by omega), et 92 (by omega) (by omega), et 94 (by omega) (by omega)]
    refine ⟨fun k g0 g1 => ⟨(q1 k g0 g1).1, ?_⟩, q2, fun e' g0 g1 => q3 e' g0 (by omega)⟩
    by_cases y : 130 * S + k = i
    · rw [y, v86]; exact fun z => ne z.symm
    · rw [t86 _ (by omega) y]; exact (q1 k g0 g1).2
  · have cjx : ∀ x, CJ t' S x → CJ t S x := fun x z => by unfold CJ at *; rw [et 73 (by omega) (by omega)] at z; exact z
    have cjy : ∀ x, CJ t S x → CJ t' S x := fun x z => by unfold CJ at *; rw [et 73 (by omega) (by omega)]; exact z
    refine ⟨fun k h0 h1 => ?_, fun e h0 h1 => ?_, fun z => ?_, fun x hx => ?_, fun x y hx hy hxy lt => ?_, fun x hx => ?_, by rw [et 94 (by omega) (by omega)]; exact k9.2.2.2.2.2.2.1, ?_⟩
    · rw [et 73 (by omega) (by omega)] at h1
      have q := k9.1 k h0 h1
      have q3 := (k3 k h0 h1).2.2.1
      rw [et 79 (by omega) (by omega), et 85 (by omega) (by omega), et 88 (by omega) (by omega), et 92 (by omega) (by omega), et 94 (by omega) (by omega)]
      rcases q with z | z
      · refine Or.inl ⟨z.1, z.2.1, ?_⟩
        rcases z.2.2 with y | y
        · exact Or.inl y
        · refine Or.inr ⟨y.1, ?_, y.2.2⟩
          by_cases w : d = 1
          · exfalso
            have x := z.1
            rw [y.2.2, show B 0 = b by rw [hb, w]; rfl, ← hi] at x
            have := hi0.1
            omega
          · omega
      · refine Or.inr ⟨cjy _ z.1, z.2.1, ?_⟩
        have z0 : 0 ≤ gI t 92 (gI t 88 (130 * S + k)) := by have := z.1.1; omega
        rcases z.2.2 with y | y | ⟨e, y1, y2, y3⟩
        · exact Or.inl y
        · by_cases w : gI t 92 (gI t 88 (130 * S + k)) = i
          · exfalso
            rw [w, h86] at y
            have := q3.1
            omega
          · exact Or.inr (Or.inl (by rw [t86 _ z0 w]; exact y))
        · by_cases w : e = d - 1
          · rw [w, ← hb] at y3
            rw [y3, ← hi]
            exact Or.inr (Or.inl v86)
          · exact Or.inr (Or.inr ⟨e, y1, by omega, y3⟩)
    · rw [et 92 (by omega) (by omega), et 79 (by omega) (by omega), et 77 (by omega) (by omega), et 85 (by omega) (by omega)]
      have q := k9.2.1 e h0 (by omega)
      have lt := ((k7 e h0 (by omega)).2.2 (d - 1) (by omega) (by omega)).2
      rw [← hb, ← hi] at lt
      rcases (k6 e h0 (by omega)).2.1 with z | z
      · exact Or.inl z
      · rw [t86 _ (by have := z.1; omega) (by omega)]
        exact q
    · rw [et 76 (by omega) (by omega)]
      exact k9.2.2.1 (by omega)
    · rw [et 88 (by omega) (by omega), et 90 (by omega) (by omega), et 91 (by omega) (by omega)]
      exact k9.2.2.2.1 x (cjx x hx)
    · rw [et 88 (by omega) (by omega)] at hxy
      rw [et 87 (by omega) (by omega)]
      exact k9.2.2.2.2.1 x y (cjx x hx) (cjx y hy) hxy lt
    · have hx' := cjx x hx
      have q := k9.2.2.2.2.2.1 x hx'
      rw [et 77 (by omega) (by omega), et 85 (by omega) (by omega)]
      by_cases y : x = i
      · rw [y] at q ⊢
        rw [v86]
        have c2 := k9.2.1 (d - 1) (by omega) (by omega)
        rw [← hb, ← hi] at c2
        have c7 := ((k7 (d - 1) (by omega) (by omega)).1 (i - 130 * S) (by have := hi0.1; omega) (by have := hi0.2; omega)).1
        rw [show 130 * S + (i - 130 * S) = i by omega, ← hb] at c7
        have kd : gI t 77 i = 2 ∨ gI t 77 i = 6 := by
          rcases c2 with z | z
          · omega
          · have := z.2.2
            omega
        exact ⟨Or.inr ⟨c7, by omega⟩, Or.inr kd⟩
      · rw [t86 _ (by have := hx'.1; omega) y]
        exact q
    · have k10 := k9.2.2.2.2.2.2.2
      refine ⟨fun x y hx hy x6 y6 lt => ?_, fun o x y ho hx hy e1 e2 => ?_, fun e h0 h1 ho x y hx hy e1 e2 => ?_⟩
      · rw [et 77 (by omega) (by omega)] at x6 y6
        rw [et 78 (by omega) (by omega)]
        exact k10.1 x y (cjx x hx) (cjx y hy) x6 y6 lt
      · rw [et 85 (by omega) (by omega), et 88 (by omega) (by omega)] at e1
        by_cases eo : o = i
        · rw [eo] at e1 e2
          rw [v86, et 88 (by omega) (by omega)] at e2
          refine k10.2.2 (d - 1) (by omega) (by omega) (by rw [← hb, ← hi]; exact hi0) x y (cjx x hx) (cjx y hy) (by rw [← hb, ← hi]; exact e1) (by rw [← hb]; exact e2.symm)
        · rw [t86 _ (by have := (cjx o ho).1; omega) eo, et 88 (by omega) (by omega)] at e2
          exact k10.2.1 o x y (cjx o ho) (cjx x hx) (cjx y hy) e1 e2
      · rw [et 88 (by omega) (by omega)] at e2
        rw [et 92 (by omega) (by omega)] at ho
        rw [et 92 (by omega) (by omega), et 85 (by omega) (by omega), et 88 (by omega) (by omega)] at e1
        exact k10.2.2 e h0 (by omega) (cjx _ ho) x y (cjx x hx) (cjx y hy) e1 e2
/-- a procedure is closed -/
theorem RR.clsp {c : Nat} {S pc b : Int} {B : Int → Int} {s t s' t' : ST} (hc : c = 2 ∨ c = 18) (S0 : 0 ≤ S) (p0 : 0 ≤ pc) (h : RR c S 1 pc B s t) (hb : b = B 0) (hi : gI t 92 b = -1)
    (et : ∀ q, q ≠ 94 → q ≠ 70 → gI t' q = gI t q) (t94 : UP (gI t 94) (gI t' 94) (5 * S + pc)) (v94 : gI t' 94 (5 * S + pc) = b)
    (es : ∀ q, q ≠ 44 → q ≠ 34 → gI s' q = gI s q) (s44 : UP (gI s 44) (gI s' 44) pc) (v44 : gI s' 44 pc = gI s 46 0) (so : s'.1 34 7 = 0) : RR c S 0 (pc + 1) B s' t' := by
  obtain ⟨k1, k2, k3, k4, k5, k6, ⟨k7, k9⟩, k8⟩ := h
  have hB := k6 0 (by omega) (by omega)
  rw [← hb] at hB
  refine ⟨?_, ?_, ?_, ?_, ?_, fun e h0 h1 => by omega, ⟨fun e h0 h1 => by omega, ?_⟩, so⟩
  · unfold K1 at *
    rw [es c (by omega) (by omega), es 36 (by omega) (by omega), et 75 (by omega) (by omega), et 76 (by omega) (by omega), et 73 (by omega) (by omega), et 74 (by omega) (by omega)]
    exact k1
  · unfold K2 CJ at *
    rw [et 93 (by omega) (by omega), et 73 (by omega) (by omega), et 75 (by omega) (by omega), et 77 (by omega) (by omega), et 78 (by omega) (by omega), et 79 (by omega) (by omega), et 80 (by omega) (by omega), et 81 (by omega) (by omega), et 82 (by omega) (by omega), et 84 (by omega) (by omega), es (c + 2) (by omega) (by omega), es (c + 3) (by omega) (by omega), es (c + 4) (by omega) (by omega), es (c + 5) (by omega) (by omega), es (c + 6) (by omega) (by omega), es (c + 7) (by omega) (by omega)]
    exact k2
  · unfold K3 K3a K3b OB CB lc at *
    rw [es 37 (by omega) (by omega), es 38 (by omega) (by omega), es 39 (by omega) (by omega), es 40 (by omega) (by omega), es 41 (by omega) (by omega), et 73 (by omega) (by omega), et 74 (by omega) (by omega), et 75 (by omega) (by omega), et 77 (by omega) (by omega), et 78 (by omega) (by omega), et 82 (by omega) (by omega), et 85 (by omega) (by omega), et 86 (by omega) (by omega), et 87 (by omega) (by omega), et 88 (by omega) (by omega), et 90 (by omega) (by omega), et 91 (by omega) (by omega), et 92 (by omega) (by omega), et 93 (by omega) (by omega)]
    exact k3
  · unfold K4 CB CJ at *
    rw [et 73 (by omega) (by omega), et 74 (by omega) (by omega), et 87 (by omega) (by omega), et 88 (by omega) (by omega), et 90 (by omega) (by omega), et 91 (by omega) (by omega)]
    exact k4
  · intro p h0 h1
    unfold lc CB at *
    rw [et 74 (by omega) (by omega), et 91 (by omega) (by omega), et 92 (by omega) (by omega)]
    by_cases y : p = pc
    · subst y
      rw [v94, v44]
      exact ⟨hB.2.2.2.1, hB.1, hi⟩
    · have q := k5 p h0 (by omega)
      unfold lc CB at q
      rw [t94 _ (by omega) (by omega), s44 p h0 y]
      exact q
  · have cjx : ∀ x, CJ t' S x → CJ t S x := fun x z => by unfold CJ at *; rw [et 73 (by omega) (by omega)] at z; exact z
    have cjy : ∀ x, CJ t S x → CJ t' S x := fun x z => by unfold CJ at *; rw [et 73 (by omega) (by omega)]; exact z
    refine ⟨fun k h0 h1 => ?_, fun e h0 h1 => by omega, fun z => by omega, fun x hx => ?_, fun x y hx hy hxy lt => ?_, fun x hx => ?_, fun p p' h0 h1 h2 => ?_, ?_⟩
    · rw [et 73 (by omega) (by omega)] at h1
      have q := k9.1 k h0 h1
      rw [et 79 (by omega) (by omega), et 85 (by omega) (by omega), et 86 (by omega) (by omega), et 88 (by omega) (by omega), et 92 (by omega) (by omega)]
      rcases q with z | z
      · have z1 := z.2.1
        refine Or.inl ⟨z.1, z.2.1, Or.inl ?_⟩
        rcases z.2.2 with y | y
        · have y1 := y.1
          exact ⟨by omega, by rw [t94 _ (by omega) (by omega)]; exact y.2⟩
        · have y1 := y.1
          refine ⟨by omega, ?_⟩
          rw [y.1, v94, y.2.2]
          exact hb
      · refine Or.inr ⟨cjy _ z.1, z.2.1, ?_⟩
        rcases z.2.2 with y | y | ⟨e, y1, y2, y3⟩
        · exact Or.inl y
        · exact Or.inr (Or.inl y)
        · exfalso
          have z1 := z.1.1
          rw [y3, show e = 0 by omega, ← hb, hi] at z1
          omega
    · rw [et 88 (by omega) (by omega), et 90 (by omega) (by omega), et 91 (by omega) (by omega)]
      exact k9.2.2.2.1 x (cjx x hx)
    · rw [et 88 (by omega) (by omega)] at hxy
      rw [et 87 (by omega) (by omega)]
      exact k9.2.2.2.2.1 x y (cjx x hx) (cjx y hy) hxy lt
    · rw [et 77 (by omega) (by omega), et 85 (by omega) (by omega), et 86 (by omega) (by omega)]
      exact k9.2.2.2.2.2.1 x (cjx x hx)
    · rw [t94 (5 * S + p) (by omega) (by omega)]
      by_cases y : p' = pc
      · rw [y, v94, hb]
        exact (k7 0 (by omega) (by omega)).2.1 p h0 (by omega)
      · rw [t94 _ (by omega) (by omega)]
        exact k9.2.2.2.2.2.2.1 p p' h0 h1 (by omega)
    · have k10 := k9.2.2.2.2.2.2.2
      refine ⟨fun x y hx hy x6 y6 lt => ?_, fun o x y ho hx hy e1 e2 => ?_, fun e h0 h1 => by omega⟩
      · rw [et 77 (by omega) (by omega)] at x6 y6
        rw [et 78 (by omega) (by omega)]
        exact k10.1 x y (cjx x hx) (cjx y hy) x6 y6 lt
      · rw [et 85 (by omega) (by omega), et 88 (by omega) (by omega)] at e1
        rw [et 86 (by omega) (by omega), et 88 (by omega) (by omega)] at e2
        exact k10.2.1 o x y (cjx o ho) (cjx x hx) (cjx y hy) e1 e2
/-- the name that a try catches into -/
theorem RR.nam {c : Nat} {S d pc i v : Int} {B : Int → Int} {s t s' t' : ST} (hc : c = 2 ∨ c = 18) (S0 : 0 ≤ S) (h : RR c S d pc B s t) (hi0 : CJ t S i) (h77 : gI t 77 i = 6)
    (et : ∀ q, q ≠ 82 → q ≠ 70 → gI t' q = gI t q) (t82 : UP (gI t 82) (gI t' 82) i) (v82 : gI t' 82 i = v)
    (es : ∀ q, q ≠ 41 → q ≠ 34 → gI s' q = gI s q) (s41 : UP (gI s 41) (gI s' 41) (i - 130 * S)) (v41 : gI s' 41 (i - 130 * S) = v) (so : s'.1 34 7 = s.1 34 7) : RR c S d pc B s' t' := by
  obtain ⟨k1, k2, k3, k4, k5, k6, ⟨k7, k9⟩, k8⟩ := h
  have i0 : 0 ≤ i := by have := hi0.1; omega
  refine ⟨?_, ?_, ?_, ?_, ?_, ?_, ⟨?_, ?_⟩, so.trans k8⟩
  · unfold K1 at *
    rw [es c (by omega) (by omega), es 36 (by omega) (by omega), et 75 (by omega) (by omega), et 76 (by omega) (by omega), et 73 (by omega) (by omega), et 74 (by omega) (by omega)]
    exact k1
  · intro x h0 h1
    rw [et 75 (by omega) (by omega)] at h1
    have q := k2 x h0 h1
    have ne : gI t 93 (40 * S + x) ≠ i := fun z => by
      have q1 := q.1
      have q2 := q.2.1
      have r := (k3 (gI t 93 (40 * S + x) - 130 * S) (by have := q1.1; omega) (by have := q1.2; omega)).2.1
      unfold K3a at r
      rw [show 130 * S + (gI t 93 (40 * S + x) - 130 * S) = gI t 93 (40 * S + x) by omega, q2, z] at r
      rcases r with r | r
      · omega
      · exact r.2.2.1 h77
    unfold CJ at *
    rw [et 93 (by omega) (by omega), et 73 (by omega) (by omega), et 77 (by omega) (by omega), et 78 (by omega) (by omega), et 79 (by omega) (by omega), et 80 (by omega) (by omega), et 81 (by omega) (by omega), et 84 (by omega) (by omega), es (c + 2) (by omega) (by omega), es (c + 3) (by omega) (by omega), es (c + 4) (by omega) (by omega), es (c + 5) (by omega) (by omega), es (c + 6) (by omega) (by omega), es (c + 7) (by omega) (by omega), t82 _ (by have := q.1.1; omega) ne]
    exact q
  · intro x h0 h1
    rw [et 73 (by omega) (by omega)] at h1
    obtain ⟨q1, q2, q3, q4, q5, q6, q7, q8, q9⟩ := k3 x h0 h1
    unfold K3a K3b OB CB lc at *
    rw [es 37 (by omega) (by omega), es 38 (by omega) (by omega), es 39 (by omega) (by omega), es 40 (by omega) (by omega), et 74 (by omega) (by omega), et 75 (by omega) (by omega), et 77 (by omega) (by omega), et 78 (by omega) (by omega), et 85 (by omega) (by omega), et 86 (by omega) (by omega), et 87 (by omega) (by omega), et 88 (by omega) (by omega), et 90 (by omega) (by omega), et 91 (by omega) (by omega), et 92 (by omega) (by omega), et 93 (by omega) (by omega)]
    refine ⟨q1, q2, q3, q4, q5, q6, fun z => ?_, q8, q9⟩
    by_cases y : 130 * S + x = i
    · rw [y, v82, show x = i - 130 * S by omega, v41]
    · rw [t82 _ (by omega) y, s41 x h0 (by omega)]
      exact q7 z
  · unfold K4 CB CJ at *
    rw [et 73 (by omega) (by omega), et 74 (by omega) (by omega), et 87 (by omega) (by omega), et 88 (by omega) (by omega), et 90 (by omega) (by omega), et 91 (by omega) (by omega)]
    exact k4
  · unfold K5 lc CB at *
    rw [es 44 (by omega) (by omega), et 74 (by omega) (by omega), et 91 (by omega) (by omega), et 92 (by omega) (by omega), et 94 (by omega) (by omega)]
    exact k5
  · unfold K6 lc CB CJ at *
    rw [es 45 (by omega) (by omega), es 46 (by omega) (by omega), es 47 (by omega) (by omega), et 73 (by omega) (by omega), et 74 (by omega) (by omega), et 85 (by omega) (by omega), et 91 (by omega) (by omega), et 92 (by omega) (by omega)]
    exact k6
  · unfold K7 at *
    rw [et 73 (by omega) (by omega), et 85 (by omega) (by omega), et 86 (by omega) (by omega), et 92 (by omega) (by omega), et 94 (by omega) (by omega)]
    exact k7
  · unfold K8 K9 CJ at *
    rw [et 73 (by omega) (by omega), et 76 (by omega) (by omega), et 77 (by omega) (by omega), et 78 (by omega) (by omega), et 79 (by omega) (by omega), et 85 (by omega) (by omega), et 86 (by omega) (by omega), et 87 (by omega) (by omega), et 88 (by omega) (by omega), et 90 (by omega) (by omega), et 91 (by omega) (by omega), et 92 (by omega) (by omega), et 94 (by omega) (by omega)]
    exact k9

