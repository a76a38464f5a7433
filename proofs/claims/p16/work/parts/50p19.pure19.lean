/-! any item; a block; all levels -/
theorem rdi_f {gT gY : ST → Int → Int → Int → ST} {b p d nm its : Int} {t : ST} (h : t.1 70 5 ≠ 0) : f_X8_readItem_b_ gT gY 14 70 b p d nm its t = t := by
  obtain ⟨fin, kf⟩ : ∃ z, z = f_X8_readItem_b_ gT gY 14 70 b p d nm its t := ⟨_, rfl⟩
  rewrite [← kf]
  rewrite [f_X8_readItem_b_] at kf
  have j1 := bd_e kf rfl
  have j2 := bd_e j1 (good_0 h)
  exact if_f j2 (fun z => z rfl)
theorem rdst_k {s : ST} {v : Int} (h : f_X3_kindBegunBy s v = -1) : f_X3_readStatement s v = f_X3_blame s 1 (s.1 34 2) := by
  obtain ⟨fin, kf⟩ : ∃ z, z = f_X3_readStatement s v := ⟨_, rfl⟩
  rewrite [← kf]
  unfold f_X3_readStatement at kf
  have j1 := bd_e kf rfl
  have j2 := bd_e j1 rfl
  have j3 := bd_e j2 h
  have j4 := if_f j3 (fun z => z rfl)
  rewrite [bd_r] at j4
  exact j4
theorem rdst_40 {s : ST} {c : Nat} {v k : Int} (h : f_X3_kindBegunBy s v = k) (hk : ¬ k = -1) (hc : s.2.2 34 4 = c) (hn : s.1 c 0 = 40) : f_X3_readStatement s v = f_X3_blame s 4 (s.1 34 2) := by
  obtain ⟨fin, kf⟩ : ∃ z, z = f_X3_readStatement s v := ⟨_, rfl⟩
  rewrite [← kf]
  unfold f_X3_readStatement at kf
  have j1 := bd_e kf rfl
  have j2 := bd_e j1 rfl
  have j3 := bd_e j2 h
  have j4 := if_t j3 hk
  have j5 := bd_e j4 hc
  have j6 := bd_e j5 hn
  have j7 := if_f j6 (show ¬ (40 : Int) < 40 by omega)
  rewrite [bd_r] at j7
  exact j7
theorem kind_r (s : ST) (v : Int) : f_X3_kindBegunBy s v = if v = 33 then 4 else if v = 63 then 2 else if v = 64 then 3 else if v = 94 then 5 else if f_X3_nameOf s v = -1 then -1 else 0 := by
  unfold f_X3_kindBegunBy
  rw [bd_r]
  by_cases h : f_X3_nameOf s v = -1
  · rw [if_neg (show ¬ ¬ f_X3_nameOf s v = -1 from fun z => z h), if_pos h]
  · rw [if_pos h, if_neg h]
theorem kof_r (s : ST) (v : Int) : f_X8_kindOf s v = if v = 63 then 2 else if v = 64 then 3 else if v = 33 then 4 else if v = 94 then 5 else if v = 37 then 6 else -1 := by
  unfold f_X8_kindOf
  by_cases h1 : v = 63
  · rw [if_neg (show ¬ ¬ v = 63 from fun z => z h1), if_pos h1]
  · rw [if_pos h1, if_neg h1]
    by_cases h2 : v = 64
    · rw [if_neg (show ¬ ¬ v = 64 from fun z => z h2), if_pos h2]
    · rw [if_pos h2, if_neg h2]
      by_cases h3 : v = 33
      · rw [if_neg (show ¬ ¬ v = 33 from fun z => z h3), if_pos h3]
      · rw [if_pos h3, if_neg h3]
        by_cases h4 : v = 94
        · rw [if_neg (show ¬ ¬ v = 94 from fun z => z h4), if_pos h4]
        · rw [if_pos h4, if_neg h4]
          by_cases h5 : v = 37
          · rw [if_neg (show ¬ ¬ v = 37 from fun z => z h5), if_pos h5]
          · rw [if_pos h5, if_neg h5]
set_option maxHeartbeats 4000000 in
theorem it_all {c : Nat} {S d pc p v : Int} {B : Int → Int} {s sm t : ST} {g : ST → Int → Int → Int → ST × Int} (hc : c = 2 ∨ c = 18) (S0 : 0 ≤ S) (d0 : 0 ≤ d) (d6 : d ≤ 6) (hB : HB c S g (d + 1)) (h : SM c S (d + 1) pc B sm t) (hl : f_X3_look s = (sm, v)) (hh : f_X8_here t = (t, v)) (h03 : s.1 34 3 = 0) (hsp : s.1 34 2 ≤ sm.1 34 2) (hv : v = -1 ∨ sm.1 34 2 < sm.1 34 1) (hv1 : ¬ v = 125) (hp : gI t 76 S - 1 = p) (hph : ph S sm t ≤ 5 * d) : IQ c S (d + 1) pc B s sm t (f_X8_readItem_b (f_X8_readTest_b g) (f_X8_readTry_b g) t (B d) p d) := by
  obtain ⟨n, hn⟩ : ∃ n, n = gI t 75 S := ⟨_, rfl⟩
  obtain ⟨m, hm⟩ : ∃ m, m = gI t 73 S := ⟨_, rfl⟩
  have K := h.2.1.1
  have n40 : n ≤ 40 := by have := K.2.2.2.2.1; omega
  have op : sm.1 34 7 = d + 1 := h.2.1.2.2.2.2.2.2.2
  have m1 : m < 128 := by
    have a := h.1.2.2.2.1
    have b := h.1.2.2.2.2.1
    unfold ph at hph
    omega
  have hx : ¬ (f_X3_look s).1.1 34 7 = 0 ∨ ¬ (f_X3_look s).2 = -1 := Or.inl (by rw [hl]; dsimp only; rw [op]; omega)
  have h5 := h.1.2.2.2.2.2.2.2
  have hat : sm.1 34 2 = t.1 70 4 := h.1.2.1
  have bq : ∀ k, 1 ≤ k → BQ c (f_X3_blame sm k (sm.1 34 2)) (f_X8_fails t k) := fun k hk => by
    refine BD.bq (BD.mk2 h.1 hk hat) ?_
    exact (BN.bl (b := 0) (s := sm) ⟨fun z => absurd rfl z, h.2.2.1⟩).2
  have bad : ∀ k, 1 ≤ k → cT s = f_X3_blame sm k (sm.1 34 2) → IQ c S (d + 1) pc B s sm t (f_X8_fails t k) := fun k hk z => by
    have q := bq k hk
    exact Or.inl ⟨1, _, RUN.one ⟨h03, z.symm, hx, fun y => absurd ((q.2.1 q.1).symm.trans y) q.1⟩, q⟩
  have ff : ∀ k, 1 ≤ k → (f_X8_fails t k).1 70 5 ≠ 0 := fun k hk => (bq k hk).1
  obtain ⟨fin, kf⟩ : ∃ z, z = f_X8_readItem_b (f_X8_readTest_b g) (f_X8_readTry_b g) t (B d) p d := ⟨_, rfl⟩
  rewrite [← kf]
  unfold f_X8_readItem_b at kf
  have nh : f_X8_nameHere t 1 = (t, if 97 ≤ v ∧ v ≤ 102 then v - 97 else if ¬ (1 : Int) = 0 ∧ 119 ≤ v ∧ v ≤ 122 then 6 + v - 119 else -1) := by
    have q := nameHere_r (t := t) (p := t.1 70 4) (v := v) (a := 1) (by rw [sI_same]; exact hh)
    rw [sI_same] at q
    exact q
  have nmo : f_X3_nameOf sm v = if 97 ≤ v ∧ v ≤ 102 then v - 97 else if 119 ≤ v ∧ v ≤ 122 then 6 + v - 119 else -1 := nameOf_r sm v
  obtain ⟨nm, hnm⟩ : ∃ nm, nm = f_X3_nameOf sm v := ⟨_, rfl⟩
  have nh2 : f_X8_nameHere t 1 = (t, nm) := by
    rw [nh, hnm, nmo]
    by_cases z1 : 97 ≤ v ∧ v ≤ 102
    · rw [if_pos z1, if_pos z1]
    · rw [if_neg z1, if_neg z1]
      by_cases z2 : 119 ≤ v ∧ v ≤ 122
      · rw [if_pos z2, if_pos (show ¬ (1 : Int) = 0 ∧ 119 ≤ v ∧ v ≤ 122 from ⟨by omega, z2⟩)]
      · rw [if_neg z2, if_neg (show ¬ (¬ (1 : Int) = 0 ∧ 119 ≤ v ∧ v ≤ 122) from fun y => z2 y.2)]
  have nr : (nm = -1 ∧ ¬ (97 ≤ v ∧ v ≤ 102) ∧ ¬ (119 ≤ v ∧ v ≤ 122)) ∨ (0 ≤ nm ∧ (97 ≤ v ∧ v ≤ 102 ∨ 119 ≤ v ∧ v ≤ 122)) := by
    rw [hnm, nmo]
    by_cases z1 : 97 ≤ v ∧ v ≤ 102
    · rw [if_pos z1]; omega
    · rw [if_neg z1]
      by_cases z2 : 119 ≤ v ∧ v ≤ 122
      · rw [if_pos z2]; omega
      · rw [if_neg z2]; omega
  have j1 := bd2_e kf nh2.symm
  have kd := kind_r sm v
  rw [← hnm] at kd
  have t75 : t.1 75 S.toNat = n := hn.symm
  have c0 : sm.1 c 0 = n := K.1.trans hn.symm
  rcases nr with ⟨z, za, zb⟩ | ⟨z, za⟩
  · have j2 := if_t j1 z
    have j3 := bd2_e j2 hh.symm
    have j4 := bd_e j3 (kof_r t v)
    rw [if_pos z] at kd
    rw [z] at j4
    by_cases v37 : v = 37
    · rw [if_neg (show ¬ v = 63 by omega), if_neg (show ¬ v = 64 by omega), if_neg (show ¬ v = 33 by omega), if_neg (show ¬ v = 94 by omega), if_pos v37] at j4
      have j5 := if_t j4 (show ¬ (6 : Int) = -1 by omega)
      have j6 := bd_e j5 (good_1 h5)
      have j7 := if_f j6 (show ¬ (1 : Int) = 0 by omega)
      have j8 := if_t j7 rfl
      rw [j8]
      rw [v37] at hl
      exact it_try _ hc S0 d0 hB h hl h03 hsp (by omega) hm m1 hp hph
    · have stm : ∀ its : Int, its = 2 ∨ its = 3 ∨ its = 4 ∨ its = 5 → f_X3_kindBegunBy sm v = its → fin = (if ¬ its = -1 then (bd (f_X8_isGood t) fun v666 => if v666 = 0 then (f_X8_readItem_b_ (f_X8_readTest_b g) (f_X8_readTry_b g) 14 70 (B d) p d (-1) its t) else (if its = 6 then (f_X8_readItem_b_ (f_X8_readTest_b g) (f_X8_readTry_b g) 14 70 (B d) p d (-1) its t) else (bd (t.1 70 6) fun v686 => bd (t.1 75 (v686).toNat) fun v688 => if ¬ v688 = 40 then (f_X8_readItem_b_ (f_X8_readTest_b g) (f_X8_readTry_b g) 14 70 (B d) p d (-1) its t) else (bd (f_X8_fails t 4) fun s705 => f_X8_readItem_b_ (f_X8_readTest_b g) (f_X8_readTry_b g) 14 70 (B d) p d (-1) its s705)))) else fin) → (v = -1 → False) → IQ c S (d + 1) pc B s sm t fin := fun its hi hk y hne => by
        have j5 := if_t y (show ¬ its = -1 by omega)
        have j6 := bd_e j5 (good_1 h5)
        have j7 := if_f j6 (show ¬ (1 : Int) = 0 by omega)
        have j8 := if_f j7 (show ¬ its = 6 by omega)
        have j9 := bd_e j8 h.2.2.2.1
        have j10 := bd_e j9 t75
        by_cases n4 : n = 40
        · have j11 := if_f j10 (fun q => q n4)
          rewrite [bd_r] at j11
          rw [j11, rdi_f (ff 4 (by omega))]
          exact bad 4 (by omega) ((cT_st hl (by rw [op]; omega) hv1 v37).trans (rdst_40 hk (by omega) h.2.2.1 (c0.trans n4)))
        · have j11 := if_t j10 n4
          rw [j11]
          have lt : sm.1 34 2 < sm.1 34 1 := by
            rcases hv with q | q
            · exact absurd q hne
            · exact q
          by_cases t2 : its = 2 ∨ its = 3
          · exact it_test _ hc S0 d0 hB h hl h03 hsp lt hn (by omega) hm m1 hp hk t2 hv1 v37 hph
          · exact IQ.tq hc h03 (cT_st hl (by rw [op]; omega) hv1 v37).symm hx hsp (turn_end _ _ hc S0 d0 h lt hn (by omega) hm m1 hp hk (by omega))
      by_cases v63 : v = 63
      · rw [if_neg (show ¬ v = 33 by omega), if_pos v63] at kd
        rw [if_pos v63] at j4
        exact stm 2 (by omega) kd (j4.trans (by rw [if_pos (show ¬ (2 : Int) = -1 by omega), if_pos (show ¬ (2 : Int) = -1 by omega)])) (by omega)
      · by_cases v64 : v = 64
        · rw [if_neg (show ¬ v = 33 by omega), if_neg v63, if_pos v64] at kd
          rw [if_neg v63, if_pos v64] at j4
          exact stm 3 (by omega) kd (j4.trans (by rw [if_pos (show ¬ (3 : Int) = -1 by omega), if_pos (show ¬ (3 : Int) = -1 by omega)])) (by omega)
        · by_cases v33 : v = 33
          · rw [if_pos v33] at kd
            rw [if_neg v63, if_neg v64, if_pos v33] at j4
            exact stm 4 (by omega) kd (j4.trans (by rw [if_pos (show ¬ (4 : Int) = -1 by omega), if_pos (show ¬ (4 : Int) = -1 by omega)])) (by omega)
          · by_cases v94 : v = 94
            · rw [if_neg v33, if_neg v63, if_neg v64, if_pos v94] at kd
              rw [if_neg v63, if_neg v64, if_neg v33, if_pos v94] at j4
              exact stm 5 (by omega) kd (j4.trans (by rw [if_pos (show ¬ (5 : Int) = -1 by omega), if_pos (show ¬ (5 : Int) = -1 by omega)])) (by omega)
            · rw [if_neg v33, if_neg v63, if_neg v64, if_neg v94] at kd
              rw [if_neg v63, if_neg v64, if_neg v33, if_neg v94, if_neg v37] at j4
              have j5 := if_f j4 (fun q => q rfl)
              have j6 := bd_e j5 rfl
              have j7 := bd_e j6 (good_0 (ff 1 (by omega)))
              have j8 := if_t j7 rfl
              rw [j8, rdi_f (ff 1 (by omega))]
              exact bad 1 (by omega) ((cT_st hl (by rw [op]; omega) hv1 v37).trans (rdst_k kd))
  · have j2 := if_f j1 (show ¬ nm = -1 by omega)
    have j3 := bd_e j2 (good_1 h5)
    have j4 := if_f j3 (show ¬ (1 : Int) = 0 by omega)
    have j5 := bd_e j4 h.2.2.2.1
    have j6 := bd_e j5 t75
    rw [if_neg (show ¬ v = 33 by omega), if_neg (show ¬ v = 63 by omega), if_neg (show ¬ v = 64 by omega), if_neg (show ¬ v = 94 by omega), if_neg (show ¬ nm = -1 by omega)] at kd
    have ct := cT_st hl (by rw [op]; omega) hv1 (show ¬ v = 37 by omega)
    by_cases n4 : n = 40
    · have j7 := if_f j6 (fun q => q n4)
      rewrite [bd_r] at j7
      rw [j7, rdi_f (ff 4 (by omega))]
      exact bad 4 (by omega) (ct.trans (rdst_40 kd (by omega) h.2.2.1 (c0.trans n4)))
    · have j7 := if_t j6 n4
      rw [j7]
      exact IQ.tq hc h03 ct.symm hx hsp (turn_set _ _ hc S0 d0 h (by omega) hn (by omega) hm m1 hp kd hnm.symm)

