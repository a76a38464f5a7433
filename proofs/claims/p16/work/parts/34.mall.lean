theorem TR.w76 {F : FN} {s i : Int} {x : Int32} (t : TR F s) : TR (w1 F 76 i x) s := by
  have hBB : ∀ j, BB (w1 F 76 i x) s j ↔ BB F s j := fun j => by unfold BB; rw [V_ne (by omega)]
  refine TR.cong (F := F) (fun c' j h => V_ne (by omega)) t (fun j hj => ?_) (fun j hj => ?_)
  · have := t.2.2.2.1 j hj
    unfold T3 at *
    rw [V_ne (by omega), V_ne (by omega), V_ne (by omega), V_ne (by omega), V_ne (by omega), V_ne (by omega), V_ne (by omega)]
    exact this
  · have := t.2.2.2.2.1 j hj
    unfold T4 at *
    rw [hBB, hBB, V_ne (by omega), V_ne (by omega), V_ne (by omega), V_ne (by omega)]
    exact this
theorem CN.irr {F : FN} {s n d i : Int} {c : Nat} {x : Int32} (hc : c ≠ 73 ∧ c ≠ 77 ∧ c ≠ 80 ∧ c ≠ 82 ∧ c ≠ 85 ∧ c ≠ 86) (h : CN F s n d) : CN (w1 F c i x) s n d := by
  intro j h1 h2
  rw [V_ne (by omega)] at h2
  have := h j h1 h2
  unfold CC at *
  rw [V_ne (by omega), V_ne (by omega), V_ne (by omega), V_ne (by omega), V_ne (by omega)]
  exact this
/-- what reading leaves: the tree, whole items, the blocks of procedures -/
def RD (F : FN) (s : Int) : Prop := TR F s ∧ CN F s (130 * s) 0 ∧ ∀ p, 0 ≤ p → p < V F 76 s → BB F s (V F 94 (5 * s + p)) ∧ V F 92 (V F 94 (5 * s + p)) = -1
/-- all callees are told -/
def TD (F : FN) (s : Int) : Prop := ∀ k, 0 ≤ k → k < V F 75 s → V F 84 (V F 93 (40 * s + k)) < V F 76 s
theorem RD.ve {F G : FN} (e : VE F G) {s : Int} (r : RD F s) : RD G s := by
  obtain ⟨a, b, c⟩ := r
  refine ⟨a.ve e, b.ve e, fun p h1 h2 => ?_⟩
  rw [e.v (by omega) (by omega)] at h2
  rw [BB.ve e, e.v (c := 94) (by omega) (by omega), e.v (c := 92) (by omega) (by omega)]
  exact c p h1 h2
theorem RD.init {F : FN} {s : Int} (hs : 0 ≤ s) (h3 : V F 73 s = 0) (h4 : V F 74 s = 0) (h5 : V F 75 s = 0) (h6 : V F 76 s = 0) : RD F s := by
  refine ⟨⟨⟨by omega, by omega, by omega⟩, fun i h => ?_, fun i h => ?_, fun i h => ?_, fun i h => ?_, fun i h => ?_, fun k h1 h2 => ?_⟩, fun j h1 h2 => ?_, fun p h1 h2 => ?_⟩
  all_goals (first | (exfalso; unfold II at h; omega) | (exfalso; unfold BB at h; omega) | (exfalso; omega))
theorem RD.w76 {F : FN} {s : Int} {x : Int32} (r : RD F s) : TR (w1 F 76 s x) s := r.1.w76
theorem RD.proc {F F1 G : FN} {s v p : Int} {x y : Int32} (hs : 0 ≤ s) (r : RD F s) (hx : x.toInt = V F 76 s + 1) (e : VE (w1 F 76 s x) F1) (rb : RB F1 G s (-1) 0 v) (kp : KP F1 G) (hp : p = 5 * s + V F 76 s) (hy : y.toInt = v) : RD (w1 G 94 p y) s := by
  obtain ⟨t, cn, wh⟩ := r
  have t1 : TR F1 s := (TR.w76 t).ve e
  have c1 : CN F1 s (130 * s) 0 := (CN.irr (by omega) cn).ve e
  obtain ⟨g1, g2, g3, g4, g5, g6⟩ := rb t1 (Or.inl ⟨rfl, rfl⟩)
  have c2 : CN G s (130 * s) 0 := c1.join g2 g3 (Int.le_refl _)
  have e6 : V G 76 s = V F 76 s + 1 := by rw [kp.v (by omega), e.v (by omega) (by omega), V_eq, hx]
  have e1 : ∀ (c : Nat) (j : Int), 73 ≤ c → c ≤ 102 → c ≠ 76 → V F1 c j = V F c j := fun c j h1 h2 h3 => by rw [e.v h1 h2, V_ne h3]
  refine ⟨g1.irr (by omega), CN.irr (by omega) c2, fun q h1 h2 => ?_⟩
  rw [V_ne (by omega), e6] at h2
  have hBB : ∀ j, BB (w1 G 94 p y) s j ↔ BB G s j := fun j => by unfold BB; rw [V_ne (by omega)]
  rw [hBB, V_ne (c := 94) (c' := 92) (by omega)]
  by_cases hq : q = V F 76 s
  · rw [hq, ← hp, V_eq, hy]
    have p4 := t1.1.2.1
    exact ⟨⟨by omega, g5⟩, g6⟩
  · have w := wh q h1 (by omega)
    have p6 : 0 ≤ V F 76 s := by omega
    rw [V_nj (by omega) (by omega) (by omega), kp.v (by omega), e1 94 _ (by omega) (by omega) (by omega)]
    have w1 := w.1
    unfold BB at w1
    have m1 := e1 74 s (by omega) (by omega) (by omega)
    have k := g2.2.1 (V F 94 (5 * s + q)) w1.1 (by omega)
    have m2 := g2.2.2.2.1
    refine ⟨⟨w1.1, by omega⟩, ?_⟩
    rw [k.1, e1 92 _ (by omega) (by omega) (by omega)]
    exact w.2
theorem dX8_isTold_0 : decode cX8_isTold 0 = .ok (.iconst 0, 1) := by decide +kernel
theorem dX8_isTold_1 : decode cX8_isTold 1 = .ok (.istore_n 1, 1) := by decide +kernel
theorem dX8_isTold_2 : decode cX8_isTold 2 = .ok (.iload_n 1, 1) := by decide +kernel
theorem dX8_isTold_3 : decode cX8_isTold 3 = .ok (.aload_n 0, 1) := by decide +kernel
theorem dX8_isTold_4 : decode cX8_isTold 4 = .ok (.getfield 23, 3) := by decide +kernel
theorem dX8_isTold_7 : decode cX8_isTold 7 = .ok (.aload_n 0, 1) := by decide +kernel
theorem dX8_isTold_8 : decode cX8_isTold 8 = .ok (.getfield 187, 3) := by decide +kernel
theorem dX8_isTold_11 : decode cX8_isTold 11 = .ok (.iaload, 1) := by decide +kernel
theorem dX8_isTold_12 : decode cX8_isTold 12 = .ok (.if_icmp .ge 42, 3) := by decide +kernel
theorem dX8_isTold_15 : decode cX8_isTold 15 = .ok (.aload_n 0, 1) := by decide +kernel
theorem dX8_isTold_16 : decode cX8_isTold 16 = .ok (.getfield 50, 3) := by decide +kernel
theorem dX8_isTold_19 : decode cX8_isTold 19 = .ok (.aload_n 0, 1) := by decide +kernel
theorem dX8_isTold_20 : decode cX8_isTold 20 = .ok (.getfield 77, 3) := by decide +kernel
theorem dX8_isTold_23 : decode cX8_isTold 23 = .ok (.bipush 40, 2) := by decide +kernel
theorem dX8_isTold_25 : decode cX8_isTold 25 = .ok (.aload_n 0, 1) := by decide +kernel
theorem dX8_isTold_26 : decode cX8_isTold 26 = .ok (.getfield 187, 3) := by decide +kernel
theorem dX8_isTold_29 : decode cX8_isTold 29 = .ok (.imul, 1) := by decide +kernel
theorem dX8_isTold_30 : decode cX8_isTold 30 = .ok (.iload_n 1, 1) := by decide +kernel
theorem dX8_isTold_31 : decode cX8_isTold 31 = .ok (.iadd, 1) := by decide +kernel
theorem dX8_isTold_32 : decode cX8_isTold 32 = .ok (.iaload, 1) := by decide +kernel
theorem dX8_isTold_33 : decode cX8_isTold 33 = .ok (.iaload, 1) := by decide +kernel
theorem dX8_isTold_34 : decode cX8_isTold 34 = .ok (.aload_n 0, 1) := by decide +kernel
theorem dX8_isTold_35 : decode cX8_isTold 35 = .ok (.getfield 26, 3) := by decide +kernel
theorem dX8_isTold_38 : decode cX8_isTold 38 = .ok (.aload_n 0, 1) := by decide +kernel
theorem dX8_isTold_39 : decode cX8_isTold 39 = .ok (.getfield 187, 3) := by decide +kernel
theorem dX8_isTold_42 : decode cX8_isTold 42 = .ok (.iaload, 1) := by decide +kernel
theorem dX8_isTold_43 : decode cX8_isTold 43 = .ok (.if_icmp .lt 5, 3) := by decide +kernel
theorem dX8_isTold_46 : decode cX8_isTold 46 = .ok (.iconst 0, 1) := by decide +kernel
theorem dX8_isTold_47 : decode cX8_isTold 47 = .ok (.ireturn, 1) := by decide +kernel
theorem dX8_isTold_48 : decode cX8_isTold 48 = .ok (.iinc 1 1, 3) := by decide +kernel
theorem dX8_isTold_51 : decode cX8_isTold 51 = .ok (.goto (-49), 3) := by decide +kernel
theorem dX8_isTold_54 : decode cX8_isTold 54 = .ok (.iconst 1, 1) := by decide +kernel
theorem dX8_isTold_55 : decode cX8_isTold 55 = .ok (.ireturn, 1) := by decide +kernel
theorem dX8_readAll_0 : decode cX8_readAll 0 = .ok (.aload_n 0, 1) := by decide +kernel
theorem dX8_readAll_1 : decode cX8_readAll 1 = .ok (.invokevirtual 176, 3) := by decide +kernel
theorem dX8_readAll_4 : decode cX8_readAll 4 = .ok (.istore_n 1, 1) := by decide +kernel
theorem dX8_readAll_5 : decode cX8_readAll 5 = .ok (.iload_n 1, 1) := by decide +kernel
theorem dX8_readAll_6 : decode cX8_readAll 6 = .ok (.bipush 65, 2) := by decide +kernel
theorem dX8_readAll_8 : decode cX8_readAll 8 = .ok (.bipush 90, 2) := by decide +kernel
theorem dX8_readAll_10 : decode cX8_readAll 10 = .ok (.invokestatic 159, 3) := by decide +kernel
theorem dX8_readAll_13 : decode cX8_readAll 13 = .ok (.ifCond .ne 11, 3) := by decide +kernel
theorem dX8_readAll_16 : decode cX8_readAll 16 = .ok (.aload_n 0, 1) := by decide +kernel
theorem dX8_readAll_17 : decode cX8_readAll 17 = .ok (.iconst 1, 1) := by decide +kernel
theorem dX8_readAll_18 : decode cX8_readAll 18 = .ok (.invokevirtual 180, 3) := by decide +kernel
theorem dX8_readAll_21 : decode cX8_readAll 21 = .ok (.goto 37, 3) := by decide +kernel
theorem dX8_readAll_24 : decode cX8_readAll 24 = .ok (.aload_n 0, 1) := by decide +kernel
theorem dX8_readAll_25 : decode cX8_readAll 25 = .ok (.getfield 26, 3) := by decide +kernel
theorem dX8_readAll_28 : decode cX8_readAll 28 = .ok (.aload_n 0, 1) := by decide +kernel
theorem dX8_readAll_29 : decode cX8_readAll 29 = .ok (.getfield 187, 3) := by decide +kernel
theorem dX8_readAll_32 : decode cX8_readAll 32 = .ok (.iaload, 1) := by decide +kernel
theorem dX8_readAll_33 : decode cX8_readAll 33 = .ok (.iconst 5, 1) := by decide +kernel
theorem dX8_readAll_34 : decode cX8_readAll 34 = .ok (.if_icmp .eq 19, 3) := by decide +kernel
theorem dX8_readAll_37 : decode cX8_readAll 37 = .ok (.iload_n 1, 1) := by decide +kernel
theorem dX8_readAll_38 : decode cX8_readAll 38 = .ok (.bipush 65, 2) := by decide +kernel
theorem dX8_readAll_40 : decode cX8_readAll 40 = .ok (.aload_n 0, 1) := by decide +kernel
theorem dX8_readAll_41 : decode cX8_readAll 41 = .ok (.getfield 26, 3) := by decide +kernel
theorem dX8_readAll_44 : decode cX8_readAll 44 = .ok (.aload_n 0, 1) := by decide +kernel
theorem dX8_readAll_45 : decode cX8_readAll 45 = .ok (.getfield 187, 3) := by decide +kernel
theorem dX8_readAll_48 : decode cX8_readAll 48 = .ok (.iaload, 1) := by decide +kernel
theorem dX8_readAll_49 : decode cX8_readAll 49 = .ok (.iadd, 1) := by decide +kernel
theorem dX8_readAll_50 : decode cX8_readAll 50 = .ok (.if_icmp .eq 8, 3) := by decide +kernel
theorem dX8_readAll_53 : decode cX8_readAll 53 = .ok (.aload_n 0, 1) := by decide +kernel
theorem dX8_readAll_54 : decode cX8_readAll 54 = .ok (.iconst 3, 1) := by decide +kernel
theorem dX8_readAll_55 : decode cX8_readAll 55 = .ok (.invokevirtual 180, 3) := by decide +kernel
theorem dX8_readAll_58 : decode cX8_readAll 58 = .ok (.aload_n 0, 1) := by decide +kernel
theorem dX8_readAll_59 : decode cX8_readAll 59 = .ok (.invokevirtual 172, 3) := by decide +kernel
theorem dX8_readAll_62 : decode cX8_readAll 62 = .ok (.ifCond .ne 4, 3) := by decide +kernel
theorem dX8_readAll_65 : decode cX8_readAll 65 = .ok (.return_, 1) := by decide +kernel
theorem dX8_readAll_66 : decode cX8_readAll 66 = .ok (.aload_n 0, 1) := by decide +kernel
theorem dX8_readAll_67 : decode cX8_readAll 67 = .ok (.getfield 26, 3) := by decide +kernel
theorem dX8_readAll_70 : decode cX8_readAll 70 = .ok (.aload_n 0, 1) := by decide +kernel
theorem dX8_readAll_71 : decode cX8_readAll 71 = .ok (.getfield 187, 3) := by decide +kernel
theorem dX8_readAll_74 : decode cX8_readAll 74 = .ok (.iaload, 1) := by decide +kernel
theorem dX8_readAll_75 : decode cX8_readAll 75 = .ok (.istore_n 2, 1) := by decide +kernel
theorem dX8_readAll_76 : decode cX8_readAll 76 = .ok (.aload_n 0, 1) := by decide +kernel
theorem dX8_readAll_77 : decode cX8_readAll 77 = .ok (.getfield 26, 3) := by decide +kernel
theorem dX8_readAll_80 : decode cX8_readAll 80 = .ok (.aload_n 0, 1) := by decide +kernel
theorem dX8_readAll_81 : decode cX8_readAll 81 = .ok (.getfield 187, 3) := by decide +kernel
theorem dX8_readAll_84 : decode cX8_readAll 84 = .ok (.dup2, 1) := by decide +kernel
theorem dX8_readAll_85 : decode cX8_readAll 85 = .ok (.iaload, 1) := by decide +kernel
theorem dX8_readAll_86 : decode cX8_readAll 86 = .ok (.iconst 1, 1) := by decide +kernel
theorem dX8_readAll_87 : decode cX8_readAll 87 = .ok (.iadd, 1) := by decide +kernel
theorem dX8_readAll_88 : decode cX8_readAll 88 = .ok (.iastore, 1) := by decide +kernel
theorem dX8_readAll_89 : decode cX8_readAll 89 = .ok (.aload_n 0, 1) := by decide +kernel
theorem dX8_readAll_90 : decode cX8_readAll 90 = .ok (.dup, 1) := by decide +kernel
theorem dX8_readAll_91 : decode cX8_readAll 91 = .ok (.getfield 163, 3) := by decide +kernel
theorem dX8_readAll_94 : decode cX8_readAll 94 = .ok (.iconst 1, 1) := by decide +kernel
theorem dX8_readAll_95 : decode cX8_readAll 95 = .ok (.iadd, 1) := by decide +kernel
theorem dX8_readAll_96 : decode cX8_readAll 96 = .ok (.putfield 163, 3) := by decide +kernel
theorem dX8_readAll_99 : decode cX8_readAll 99 = .ok (.aload_n 0, 1) := by decide +kernel
theorem dX8_readAll_100 : decode cX8_readAll 100 = .ok (.getfield 80, 3) := by decide +kernel
theorem dX8_readAll_103 : decode cX8_readAll 103 = .ok (.iconst 5, 1) := by decide +kernel
theorem dX8_readAll_104 : decode cX8_readAll 104 = .ok (.aload_n 0, 1) := by decide +kernel
theorem dX8_readAll_105 : decode cX8_readAll 105 = .ok (.getfield 187, 3) := by decide +kernel
theorem dX8_readAll_108 : decode cX8_readAll 108 = .ok (.imul, 1) := by decide +kernel
theorem dX8_readAll_109 : decode cX8_readAll 109 = .ok (.iload_n 2, 1) := by decide +kernel
theorem dX8_readAll_110 : decode cX8_readAll 110 = .ok (.iadd, 1) := by decide +kernel
theorem dX8_readAll_111 : decode cX8_readAll 111 = .ok (.aload_n 0, 1) := by decide +kernel
theorem dX8_readAll_112 : decode cX8_readAll 112 = .ok (.iconst (-1), 1) := by decide +kernel
theorem dX8_readAll_113 : decode cX8_readAll 113 = .ok (.iload_n 2, 1) := by decide +kernel
theorem dX8_readAll_114 : decode cX8_readAll 114 = .ok (.iconst 0, 1) := by decide +kernel
theorem dX8_readAll_115 : decode cX8_readAll 115 = .ok (.invokevirtual 224, 3) := by decide +kernel
theorem dX8_readAll_118 : decode cX8_readAll 118 = .ok (.iastore, 1) := by decide +kernel
theorem dX8_readAll_119 : decode cX8_readAll 119 = .ok (.aload_n 0, 1) := by decide +kernel
theorem dX8_readAll_120 : decode cX8_readAll 120 = .ok (.invokevirtual 172, 3) := by decide +kernel
theorem dX8_readAll_123 : decode cX8_readAll 123 = .ok (.ifCond .eq 11, 3) := by decide +kernel
theorem dX8_readAll_126 : decode cX8_readAll 126 = .ok (.aload_n 0, 1) := by decide +kernel
theorem dX8_readAll_127 : decode cX8_readAll 127 = .ok (.invokevirtual 176, 3) := by decide +kernel
theorem dX8_readAll_130 : decode cX8_readAll 130 = .ok (.iconst (-1), 1) := by decide +kernel
theorem dX8_readAll_131 : decode cX8_readAll 131 = .ok (.if_icmp .ne (-131), 3) := by decide +kernel
theorem dX8_readAll_134 : decode cX8_readAll 134 = .ok (.return_, 1) := by decide +kernel
