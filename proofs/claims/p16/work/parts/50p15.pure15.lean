/-! a block is closed on both sides -/
theorem RR.B {c : Nat} {S d pc : Int} {B B' : Int → Int} {s t : ST} (h : RR c S d pc B' s t) (hB : ∀ e, e < d → B' e = B e) : RR c S d pc B s t := by
  obtain ⟨k1, k2, k3, k4, k5, k6, ⟨k7, k9⟩, k8⟩ := h
  refine ⟨k1, k2, k3, k4, k5, fun e h0 h1 => ?_, ⟨fun e h0 h1 => ?_, ⟨fun k h0 h1 => ?_, fun e h0 h1 => ?_, k9.2.2.1, k9.2.2.2.1, k9.2.2.2.2.1, k9.2.2.2.2.2.1, k9.2.2.2.2.2.2.1, k9.2.2.2.2.2.2.2.1, k9.2.2.2.2.2.2.2.2.1, fun e h0 h1 => ?_⟩⟩, k8⟩
  · have q := k6 e h0 h1
    rw [hB e h1] at q
    exact q
  · obtain ⟨q1, q2, q3⟩ := k7 e h0 h1
    rw [hB e h1] at q1 q2 q3
    refine ⟨q1, q2, fun e' g0 g1 => ?_⟩
    have q := q3 e' g0 g1
    rw [hB e' g1] at q
    exact q
  · rcases k9.1 k h0 h1 with z | z
    · refine Or.inl ⟨z.1, z.2.1, ?_⟩
      rcases z.2.2 with y | y
      · exact Or.inl y
      · have y1 := y.2.1
        exact Or.inr ⟨y.1, y.2.1, by rw [← hB 0 (by omega)]; exact y.2.2⟩
    · refine Or.inr ⟨z.1, z.2.1, ?_⟩
      rcases z.2.2 with y | y | ⟨e, y1, y2, y3⟩
      · exact Or.inl y
      · exact Or.inr (Or.inl y)
      · exact Or.inr (Or.inr ⟨e, y1, y2, by rw [← hB e y2]; exact y3⟩)
  · have q := k9.2.1 e h0 h1
    rw [hB e h1] at q
    exact q
  · have q := k9.2.2.2.2.2.2.2.2.2 e h0 h1
    rw [hB e h1] at q
    exact q
theorem PS.w7 {s t : ST} {a : Int} (h : PS s t) : PS (sI s 34 7 a) t := by
  unfold PS at *
  rw [sI_ne (p := 34) (q := 1) (by omega), sI_ne (p := 34) (q := 2) (by omega), sI_ne (p := 34) (q := 3) (by omega), sI_nc (p := 1) (show 1 ≠ 34 by decide)]
  exact h
theorem SM.cls {c : Nat} {S d pc b i x : Int} {B B' : Int → Int} {s t : ST} (hc : c = 2 ∨ c = 18) (S0 : 0 ≤ S) (d0 : 0 ≤ d) (h : SM c S (d + 1) pc B' s t) (hB : ∀ e, e < d → B' e = B e) (hb : b = B' d) (hi : i = gI t 92 b) (hi0 : CJ t S i) (h85 : gI t 85 i = -1) (hx : x = gI s 46 d) : SM c S d pc B (sI (sI s 34 7 d) 39 (i - 130 * S).toNat x) (sI t 85 i.toNat b) := by
  obtain ⟨hp, hr, hcc, hS, hO⟩ := h
  have i0 : 0 ≤ i := by have := hi0.1; omega
  have i1 : 0 ≤ i - 130 * S := by have := hi0.1; omega
  refine ⟨(hp.w7.wI (by omega) (by omega)).wJ (by omega) (by omega), ?_, hcc, ?_, (hO.kC hc (by omega)).kI hc (by omega) (by omega)⟩
  · have q := RR.cls (s' := sI (sI s 34 7 d) 39 (i - 130 * S).toNat x) (t' := sI t 85 i.toNat b) (b := b) (i := i) hc S0 (by omega) hr (by rw [show d + 1 - 1 = d by omega]; exact hb) hi hi0 h85 (fun a h1 _ => funext fun j => gI_nc h1) (fun j h0 h1 => gI_ni h0 i0 h1) gI_eq (fun a h1 h2 => funext fun j => (gI_nc h1).trans (gI_nc h2)) (fun j h0 h1 => (gI_ni h0 i1 h1).trans (gI_nc (show 39 ≠ 34 by decide))) (by rw [gI_eq, show d + 1 - 1 = d by omega]; exact hx) (by rw [sI_nc (p := 34) (show 34 ≠ 39 by decide), sI_eq]; omega)
    rw [show d + 1 - 1 = d by omega] at q
    exact RR.B q hB
  · rw [sI_nc (p := 70) (show 70 ≠ 85 by decide)]; exact hS
theorem SM.cls2 {c : Nat} {S d pc b i x : Int} {B B' : Int → Int} {s t : ST} (hc : c = 2 ∨ c = 18) (S0 : 0 ≤ S) (d0 : 0 ≤ d) (h : SM c S (d + 1) pc B' s t) (hB : ∀ e, e < d → B' e = B e) (hb : b = B' d) (hi : i = gI t 92 b) (hi0 : CJ t S i) (h86 : gI t 86 i = -1) (h85 : ¬ gI t 85 i = -1) (hx : x = gI s 46 d) : SM c S d pc B (sI (sI s 34 7 d) 40 (i - 130 * S).toNat x) (sI t 86 i.toNat b) := by
  obtain ⟨hp, hr, hcc, hS, hO⟩ := h
  have i0 : 0 ≤ i := by have := hi0.1; omega
  have i1 : 0 ≤ i - 130 * S := by have := hi0.1; omega
  refine ⟨(hp.w7.wI (by omega) (by omega)).wJ (by omega) (by omega), ?_, hcc, ?_, (hO.kC hc (by omega)).kI hc (by omega) (by omega)⟩
  · have q := RR.cls2 (s' := sI (sI s 34 7 d) 40 (i - 130 * S).toNat x) (t' := sI t 86 i.toNat b) (b := b) (i := i) hc S0 (by omega) hr (by rw [show d + 1 - 1 = d by omega]; exact hb) hi hi0 h86 h85 (fun a h1 _ => funext fun j => gI_nc h1) (fun j h0 h1 => gI_ni h0 i0 h1) gI_eq (fun a h1 h2 => funext fun j => (gI_nc h1).trans (gI_nc h2)) (fun j h0 h1 => (gI_ni h0 i1 h1).trans (gI_nc (show 40 ≠ 34 by decide))) (by rw [gI_eq, show d + 1 - 1 = d by omega]; exact hx) (by rw [sI_nc (p := 34) (show 34 ≠ 40 by decide), sI_eq]; omega)
    rw [show d + 1 - 1 = d by omega] at q
    exact RR.B q hB
  · rw [sI_nc (p := 70) (show 70 ≠ 86 by decide)]; exact hS
theorem clo_1 {s : ST} {p d it : Int} (hp : s.1 34 2 = p) (hd : s.1 34 7 = d + 1) (hit : gI s 45 d = it) (h0 : 0 ≤ it) (hs : gI s 47 d = 0) : f_X3_closeBlock s = f_X3_readSecond (sI (sI (sI s 34 2 (p + 1)) 34 7 d) 39 it.toNat (gI s 46 d)) it := by
  obtain ⟨fin, kf⟩ : ∃ z, z = f_X3_closeBlock s := ⟨_, rfl⟩
  rewrite [← kf]
  unfold f_X3_closeBlock at kf
  have g : ∀ a j, a ≠ 34 → (sI (sI s 34 2 (p + 1)) 34 7 (d + 1 - 1)).1 a j = s.1 a j := fun a j ha => by rw [sI_nc ha, sI_nc ha]
  have ed : d + 1 - 1 = d := by omega
  have j1 := bd_e kf hp
  have j2 := bd_e j1 rfl
  have j3 := bd_e j2 (show (sI s 34 2 (p + 1)).1 34 7 = d + 1 from (sI_ne (by omega)).trans hd)
  have j4 := bd_e j3 rfl
  have j5 := bd_e j4 (show (sI (sI s 34 2 (p + 1)) 34 7 (d + 1 - 1)).1 45 (d + 1 - 1).toNat = it by rw [g 45 _ (by decide), ed]; exact hit)
  have j6 := if_t j5 h0
  have j7 := bd_e j6 (show (sI (sI s 34 2 (p + 1)) 34 7 (d + 1 - 1)).1 47 (d + 1 - 1).toNat = 0 by rw [g 47 _ (by decide), ed]; exact hs)
  have j8 := if_t j7 rfl
  have j9 := bd_e j8 (show (sI (sI s 34 2 (p + 1)) 34 7 (d + 1 - 1)).1 46 (d + 1 - 1).toNat = gI s 46 d by rw [g 46 _ (by decide), ed]; rfl)
  rewrite [bd_r, bd_r, ed] at j9
  exact j9
theorem clo_2 {s : ST} {p d it : Int} (hp : s.1 34 2 = p) (hd : s.1 34 7 = d + 1) (hit : gI s 45 d = it) (h0 : 0 ≤ it) (hs : gI s 47 d = 1) : f_X3_closeBlock s = sI (sI (sI s 34 2 (p + 1)) 34 7 d) 40 it.toNat (gI s 46 d) := by
  obtain ⟨fin, kf⟩ : ∃ z, z = f_X3_closeBlock s := ⟨_, rfl⟩
  rewrite [← kf]
  unfold f_X3_closeBlock at kf
  have g : ∀ a j, a ≠ 34 → (sI (sI s 34 2 (p + 1)) 34 7 (d + 1 - 1)).1 a j = s.1 a j := fun a j ha => by rw [sI_nc ha, sI_nc ha]
  have ed : d + 1 - 1 = d := by omega
  have j1 := bd_e kf hp
  have j2 := bd_e j1 rfl
  have j3 := bd_e j2 (show (sI s 34 2 (p + 1)).1 34 7 = d + 1 from (sI_ne (by omega)).trans hd)
  have j4 := bd_e j3 rfl
  have j5 := bd_e j4 (show (sI (sI s 34 2 (p + 1)) 34 7 (d + 1 - 1)).1 45 (d + 1 - 1).toNat = it by rw [g 45 _ (by decide), ed]; exact hit)
  have j6 := if_t j5 h0
  have j7 := bd_e j6 (show (sI (sI s 34 2 (p + 1)) 34 7 (d + 1 - 1)).1 47 (d + 1 - 1).toNat = 1 by rw [g 47 _ (by decide), ed]; exact hs)
  have j8 := if_f j7 (show ¬ (1 : Int) = 0 by omega)
  have j9 := bd_e j8 (show (sI (sI s 34 2 (p + 1)) 34 7 (d + 1 - 1)).1 46 (d + 1 - 1).toNat = gI s 46 d by rw [g 46 _ (by decide), ed]; rfl)
  rewrite [bd_r, ed] at j9
  exact j9
theorem clo_p {s : ST} {c : Nat} {p d it P : Int} (hc : c = 2 ∨ c = 18) (hcc : s.2.2 34 4 = c) (hP : s.1 c 1 = P) (hp : s.1 34 2 = p) (hd : s.1 34 7 = d + 1) (hit : gI s 45 d = it) (h0 : it < 0) : f_X3_closeBlock s = sI (sI (sI s 34 2 (p + 1)) 34 7 d) 44 (P - 1).toNat (gI s 46 d) := by
  obtain ⟨fin, kf⟩ : ∃ z, z = f_X3_closeBlock s := ⟨_, rfl⟩
  rewrite [← kf]
  unfold f_X3_closeBlock at kf
  have g : ∀ a j, a ≠ 34 → (sI (sI s 34 2 (p + 1)) 34 7 (d + 1 - 1)).1 a j = s.1 a j := fun a j ha => by rw [sI_nc ha, sI_nc ha]
  have ed : d + 1 - 1 = d := by omega
  have j1 := bd_e kf hp
  have j2 := bd_e j1 rfl
  have j3 := bd_e j2 (show (sI s 34 2 (p + 1)).1 34 7 = d + 1 from (sI_ne (by omega)).trans hd)
  have j4 := bd_e j3 rfl
  have j5 := bd_e j4 (show (sI (sI s 34 2 (p + 1)) 34 7 (d + 1 - 1)).1 45 (d + 1 - 1).toNat = it by rw [g 45 _ (by decide), ed]; exact hit)
  have j6 := if_f j5 (show ¬ 0 ≤ it by omega)
  have j7 := bd_e j6 (show (sI (sI s 34 2 (p + 1)) 34 7 (d + 1 - 1)).2.2 34 4 = c from hcc)
  have j8 := bd_e j7 (show (sI (sI s 34 2 (p + 1)) 34 7 (d + 1 - 1)).1 c 1 = P by rw [g c _ (by omega)]; exact hP)
  have j9 := bd_e j8 (show (sI (sI s 34 2 (p + 1)) 34 7 (d + 1 - 1)).1 46 (d + 1 - 1).toNat = gI s 46 d by rw [g 46 _ (by decide), ed]; rfl)
  rewrite [bd_r, ed] at j9
  exact j9
theorem rs_s {s : ST} {c : Nat} {p v it n k : Int} (hc : c = 2 ∨ c = 18) (hcc : s.2.2 34 4 = c) (e : f_X3_look s = (sI s 34 2 p, v)) (hn : gI s 37 it = n) (n0 : 0 ≤ n) (hk : gI s (c + 2) n = k) : f_X3_readSecond s it = if ¬ k = 2 then sI s 34 2 p else if ¬ v = 58 then sI s 34 2 p else f_X3_openBlock (sI s 34 2 (p + 1)) it 1 := by
  obtain ⟨fin, kf⟩ : ∃ z, z = f_X3_readSecond s it := ⟨_, rfl⟩
  rewrite [← kf]
  unfold f_X3_readSecond at kf
  have j1 := bd2_e kf e.symm
  have j2 := bd_e j1 (show (sI s 34 2 p).1 34 2 = p from sI_eq _ _ _ _)
  have j3 := bd_e j2 (show (sI s 34 2 p).1 37 it.toNat = n by rw [sI_nc (p := 37) (show 37 ≠ 34 by decide)]; exact hn)
  have j4 := if_t j3 (show ¬ n = -1 by omega)
  have j5 := bd_e j4 (show (sI s 34 2 p).2.2 34 4 = c from hcc)
  have j6 := bd_e j5 (show (sI s 34 2 p).1 (c + 2) n.toNat = k by rw [sI_nc (p := c + 2) (show c + 2 ≠ 34 by omega)]; exact hk)
  rewrite [bd_r, bd_r, sI_sI] at j6
  exact j6
theorem rs_t {s : ST} {p v it nm : Int} (e : f_X3_look s = (sI s 34 2 p, v)) (hn : gI s 37 it = -1) (hnm : nm = if 97 ≤ v ∧ v ≤ 102 then v - 97 else if 119 ≤ v ∧ v ≤ 122 then 6 + v - 119 else -1) : f_X3_readSecond s it = if 0 ≤ nm ∧ nm < 6 then f_X3_openBlock (sI (sI s 34 2 (p + 1)) 41 it.toNat nm) it 1 else f_X3_blame (sI s 34 2 p) 1 p := by
  obtain ⟨fin, kf⟩ : ∃ z, z = f_X3_readSecond s it := ⟨_, rfl⟩
  rewrite [← kf]
  unfold f_X3_readSecond at kf
  have j1 := bd2_e kf e.symm
  have j2 := bd_e j1 (show (sI s 34 2 p).1 34 2 = p from sI_eq _ _ _ _)
  have j3 := bd_e j2 (show (sI s 34 2 p).1 37 it.toNat = -1 by rw [sI_nc (p := 37) (show 37 ≠ 34 by decide)]; exact hn)
  have j4 := if_f j3 (fun z => z rfl)
  have j5 := bd_e j4 (show f_X3_nameOf (sI s 34 2 p) v = nm by rw [nameOf_r]; exact hnm.symm)
  have nr : nm = -1 ∨ (0 ≤ nm ∧ nm ≤ 9) := by
    rw [hnm]
    by_cases h1 : 97 ≤ v ∧ v ≤ 102
    · rw [if_pos h1]; omega
    · rw [if_neg h1]
      by_cases h2 : 119 ≤ v ∧ v ≤ 122
      · rw [if_pos h2]; omega
      · rw [if_neg h2]; omega
  by_cases h1 : nm = -1
  · have j6 := if_t j5 h1
    rewrite [bd_r] at j6
    rw [if_neg (show ¬ (0 ≤ nm ∧ nm < 6) by omega)]
    exact j6
  · have j6 := if_f j5 h1
    by_cases h2 : nm < 6
    · have j7 := bd_e j6 (show f_X7_isField (sI s 34 2 p) nm = 0 by unfold f_X7_isField; rw [if_pos h2])
      have j8 := if_t j7 rfl
      rewrite [bd_r, bd_r, bd_r, sI_sI] at j8
      rw [if_pos (show 0 ≤ nm ∧ nm < 6 by omega)]
      exact j8
    · have j7 := bd_e j6 (show f_X7_isField (sI s 34 2 p) nm = 1 by unfold f_X7_isField; rw [if_neg h2])
      have j8 := if_f j7 (show ¬ (1 : Int) = 0 by omega)
      rewrite [bd_r] at j8
      rw [if_neg (show ¬ (0 ≤ nm ∧ nm < 6) by omega)]
      exact j8

