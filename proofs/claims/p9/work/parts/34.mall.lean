theorem b_readBlock (l : Launch) : ∀ (t d : Nat), 3 * t ≤ d → (∀ {P : PP} {h : HP} (_ : Iv P h) (a2 : Int32) (a2l : -1 ≤ a2.toInt) (a2u : a2.toInt ≤ 259) (a3 : Int32) (a3l : 0 ≤ a3.toInt) (a3u : a3.toInt ≤ 4) (a4 : Int32) (a4l : 0 ≤ a4.toInt) (a4u : a4.toInt ≤ 7) (hp : (h.2.1 70 5).toInt = 0 → 6 * (V h.2.1 73 (h.2.1 70 6).toInt - V h.2.1 75 (h.2.1 70 6).toInt) ≤ (h.2.1 70 4).toInt + 5 * a4.toInt ∧ 2 * V h.2.1 74 (h.2.1 70 6).toInt ≤ (h.2.1 70 4).toInt + a4.toInt) (ht : (h.2.1 70 5).toInt = 0 → TR h.2.1 (h.2.1 70 6).toInt ∧ OO h.2.1 (h.2.1 70 6).toInt a2.toInt a4.toInt) (hd : 7 ≤ a4.toInt + (t : Int)), Mt l yX8_readBlock cX8_readBlock 5 (some .int) (d + 3) [.ref 70, .int a2, .int a3, .int a4] h 0 0 (fun r h' => ∃ v : Int32, r = some (.int v) ∧ 0 ≤ v.toInt ∧ v.toInt ≤ 559 ∧ (∃ Q : PP, Iv Q h' ∧ MW P Q) ∧ ((h'.2.1 70 5).toInt = 0 → (h.2.1 70 5).toInt = 0) ∧ ((h.2.1 70 4).toInt ≤ (h'.2.1 70 4).toInt) ∧ ((h'.2.1 70 5).toInt = 0 → (h.2.1 70 4).toInt + 2 ≤ (h'.2.1 70 4).toInt ∧ 6 * (V h'.2.1 73 (h.2.1 70 6).toInt - V h'.2.1 75 (h.2.1 70 6).toInt) - (h'.2.1 70 4).toInt ≤ 6 * (V h.2.1 73 (h.2.1 70 6).toInt - V h.2.1 75 (h.2.1 70 6).toInt) - (h.2.1 70 4).toInt - 2 ∧ 2 * V h'.2.1 74 (h.2.1 70 6).toInt - (h'.2.1 70 4).toInt ≤ 2 * V h.2.1 74 (h.2.1 70 6).toInt - (h.2.1 70 4).toInt) ∧ ((h'.2.1 70 5).toInt = 0 → RB h.2.1 h'.2.1 (h.2.1 70 6).toInt a2.toInt a4.toInt v.toInt) ∧ (KP h.2.1 h'.2.1) ∧ (OH h.2.1 h'.2.1 (h.2.1 70 6).toInt) ∧ (CKF h.2.1 → CKF h'.2.1))) := by
  intro t
  induction t with
  | zero =>
    intro d _
    exact @s_X8_readBlock_b l (d + 0) 0 (by intros; exfalso; omega)
  | succ t ih =>
    intro d hd
    obtain ⟨m, rfl⟩ : ∃ m, d = m + 3 := ⟨d - 3, by omega⟩
    have hb := @ih m (by omega)
    have hT := @s_X8_readTest_b l (m + 0) t hb
    have hY := @s_X8_readTry_b l (m + 1) t hb
    have hI := @s_X8_readItem_b l (m + 0) (t + 1) hT hY
    exact @s_X8_readBlock_b l (m + 3) (t + 1) hI
theorem s_X8_readBlock (l : Launch) (d : Nat) {P : PP} {h : HP} (hv : Iv P h) (a2 : Int32) (a2l : -1 ≤ a2.toInt) (a2u : a2.toInt ≤ 259) (a3 : Int32) (a3l : 0 ≤ a3.toInt) (a3u : a3.toInt ≤ 4) (a4 : Int32) (a4l : 0 ≤ a4.toInt) (a4u : a4.toInt ≤ 7) (hp : (h.2.1 70 5).toInt = 0 → 6 * (V h.2.1 73 (h.2.1 70 6).toInt - V h.2.1 75 (h.2.1 70 6).toInt) ≤ (h.2.1 70 4).toInt + 5 * a4.toInt ∧ 2 * V h.2.1 74 (h.2.1 70 6).toInt ≤ (h.2.1 70 4).toInt + a4.toInt) (ht : (h.2.1 70 5).toInt = 0 → TR h.2.1 (h.2.1 70 6).toInt ∧ OO h.2.1 (h.2.1 70 6).toInt a2.toInt a4.toInt) : Mt l yX8_readBlock cX8_readBlock 5 (some .int) (d + 24) [.ref 70, .int a2, .int a3, .int a4] h 0 0 (fun r h' => ∃ v : Int32, r = some (.int v) ∧ 0 ≤ v.toInt ∧ v.toInt ≤ 559 ∧ (∃ Q : PP, Iv Q h' ∧ MW P Q) ∧ ((h'.2.1 70 5).toInt = 0 → (h.2.1 70 5).toInt = 0) ∧ ((h.2.1 70 4).toInt ≤ (h'.2.1 70 4).toInt) ∧ ((h'.2.1 70 5).toInt = 0 → (h.2.1 70 4).toInt + 2 ≤ (h'.2.1 70 4).toInt ∧ 6 * (V h'.2.1 73 (h.2.1 70 6).toInt - V h'.2.1 75 (h.2.1 70 6).toInt) - (h'.2.1 70 4).toInt ≤ 6 * (V h.2.1 73 (h.2.1 70 6).toInt - V h.2.1 75 (h.2.1 70 6).toInt) - (h.2.1 70 4).toInt - 2 ∧ 2 * V h'.2.1 74 (h.2.1 70 6).toInt - (h'.2.1 70 4).toInt ≤ 2 * V h.2.1 74 (h.2.1 70 6).toInt - (h.2.1 70 4).toInt) ∧ ((h'.2.1 70 5).toInt = 0 → RB h.2.1 h'.2.1 (h.2.1 70 6).toInt a2.toInt a4.toInt v.toInt) ∧ (KP h.2.1 h'.2.1) ∧ (OH h.2.1 h'.2.1 (h.2.1 70 6).toInt) ∧ (CKF h.2.1 → CKF h'.2.1)) := b_readBlock l 7 (d + 21) (by omega) hv a2 a2l a2u a3 a3l a3u a4 a4l a4u hp ht (by omega)
theorem TR.w76 {F : FN} {s i : Int} {x : Int32} (t : TR F s) : TR (w1 F 76 i x) s := by
  have hBB : ∀ j, BB (w1 F 76 i x) s j ↔ BB F s j := fun j => by unfold BB; rw [V_ne (by omega)]
  refine TR.cong (F := F) (fun c' j h => V_ne (by omega)) t (fun j hj => ?_) (fun j hj => ?_)
  · have := t.2.2.2.1 j hj
    unfold T3 at *
    rw [V_ne (by omega), V_ne (by omega), V_ne (by omega), V_ne (by omega), V_ne (by omega), V_ne (by omega), V_ne (by omega)]
    exact this
  · have := t.2.2.2.2.1 j hj
    unfold T4 at *
    rw [hBB, hBB, V_ne (by omega), V_ne (by omega), V_ne (by omega), V_ne (by omega)]
    exact this
theorem CN.irr {F : FN} {s n d i : Int} {c : Nat} {x : Int32} (hc : c ≠ 73 ∧ c ≠ 77 ∧ c ≠ 80 ∧ c ≠ 82 ∧ c ≠ 85 ∧ c ≠ 86) (h : CN F s n d) : CN (w1 F c i x) s n d := by
  intro j h1 h2
  rw [V_ne (by omega)] at h2
  have := h j h1 h2
  unfold CC at *
  rw [V_ne (by omega), V_ne (by omega), V_ne (by omega), V_ne (by omega), V_ne (by omega)]
  exact this
/-- what reading leaves: the tree, whole items, the blocks of procedures -/
def RD (F : FN) (s : Int) : Prop := TR F s ∧ CN F s (130 * s) 0 ∧ ∀ p, 0 ≤ p → p < V F 76 s → BB F s (V F 94 (5 * s + p)) ∧ V F 92 (V F 94 (5 * s + p)) = -1
/-- all callees are told -/
def TD (F : FN) (s : Int) : Prop := ∀ k, 0 ≤ k → k < V F 75 s → V F 84 (V F 93 (40 * s + k)) < V F 76 s
theorem RD.ve {F G : FN} (e : VE F G) {s : Int} (r : RD F s) : RD G s := by
  obtain ⟨a, b, c⟩ := r
  refine ⟨a.ve e, b.ve e, fun p h1 h2 => ?_⟩
  rw [e.v (by omega) (by omega)] at h2
  rw [BB.ve e, e.v (c := 94) (by omega) (by omega), e.v (c := 92) (by omega) (by omega)]
  exact c p h1 h2
theorem RD.init {F : FN} {s : Int} (hs : 0 ≤ s) (h3 : V F 73 s = 0) (h4 : V F 74 s = 0) (h5 : V F 75 s = 0) (h6 : V F 76 s = 0) : RD F s := by
  refine ⟨⟨⟨by omega, by omega, by omega⟩, fun i h => ?_, fun i h => ?_, fun i h => ?_, fun i h => ?_, fun i h => ?_, fun k h1 h2 => ?_⟩, fun j h1 h2 => ?_, fun p h1 h2 => ?_⟩
  all_goals (first | (exfalso; unfold II at h; omega) | (exfalso; unfold BB at h; omega) | (exfalso; omega))
theorem RD.w76 {F : FN} {s : Int} {x : Int32} (r : RD F s) : TR (w1 F 76 s x) s := r.1.w76
theorem RD.proc {F F1 G : FN} {s v p : Int} {x y : Int32} (hs : 0 ≤ s) (r : RD F s) (hx : x.toInt = V F 76 s + 1) (e : VE (w1 F 76 s x) F1) (rb : RB F1 G s (-1) 0 v) (kp : KP F1 G) (hp : p = 5 * s + V F 76 s) (hy : y.toInt = v) : RD (w1 G 94 p y) s := by
  obtain ⟨t, cn, wh⟩ := r
  have t1 : TR F1 s := (TR.w76 t).ve e
  have c1 : CN F1 s (130 * s) 0 := (CN.irr (by omega) cn).ve e
  obtain ⟨g1, g2, g3, g4, g5, g6⟩ := rb t1 (Or.inl ⟨rfl, rfl⟩)
  have c2 : CN G s (130 * s) 0 := c1.join g2 g3 (Int.le_refl _)
  have e6 : V G 76 s = V F 76 s + 1 := by rw [kp.v (by omega), e.v (by omega) (by omega), V_eq, hx]
  have e1 : ∀ (c : Nat) (j : Int), 73 ≤ c → c ≤ 102 → c ≠ 76 → V F1 c j = V F c j := fun c j h1 h2 h3 => by rw [e.v h1 h2, V_ne h3]
  refine ⟨g1.irr (by omega), CN.irr (by omega) c2, fun q h1 h2 => ?_⟩
  rw [V_ne (by omega), e6] at h2
  have hBB : ∀ j, BB (w1 G 94 p y) s j ↔ BB G s j := fun j => by unfold BB; rw [V_ne (by omega)]
  rw [hBB, V_ne (c := 94) (c' := 92) (by omega)]
  by_cases hq : q = V F 76 s
  · rw [hq, ← hp, V_eq, hy]
    have p4 := t1.1.2.1
    exact ⟨⟨by omega, g5⟩, g6⟩
  · have w := wh q h1 (by omega)
    have p6 : 0 ≤ V F 76 s := by omega
    rw [V_nj (by omega) (by omega) (by omega), kp.v (by omega), e1 94 _ (by omega) (by omega) (by omega)]
    have w1 := w.1
    unfold BB at w1
    have m1 := e1 74 s (by omega) (by omega) (by omega)
    have k := g2.2.1 (V F 94 (5 * s + q)) w1.1 (by omega)
    have m2 := g2.2.2.2.1
    refine ⟨⟨w1.1, by omega⟩, ?_⟩
    rw [k.1, e1 92 _ (by omega) (by omega) (by omega)]
    exact w.2
theorem dX8_isTold_0 : decode cX8_isTold 0 = .ok (.iconst 0, 1) := by decide +kernel
theorem dX8_isTold_1 : decode cX8_isTold 1 = .ok (.istore_n 1, 1) := by decide +kernel
theorem dX8_isTold_2 : decode cX8_isTold 2 = .ok (.iload_n 1, 1) := by decide +kernel
theorem dX8_isTold_3 : decode cX8_isTold 3 = .ok (.aload_n 0, 1) := by decide +kernel
theorem dX8_isTold_4 : decode cX8_isTold 4 = .ok (.getfield 23, 3) := by decide +kernel
theorem dX8_isTold_7 : decode cX8_isTold 7 = .ok (.aload_n 0, 1) := by decide +kernel
theorem dX8_isTold_8 : decode cX8_isTold 8 = .ok (.getfield 187, 3) := by decide +kernel
theorem dX8_isTold_11 : decode cX8_isTold 11 = .ok (.iaload, 1) := by decide +kernel
theorem dX8_isTold_12 : decode cX8_isTold 12 = .ok (.if_icmp .ge 42, 3) := by decide +kernel
theorem dX8_isTold_15 : decode cX8_isTold 15 = .ok (.aload_n 0, 1) := by decide +kernel
theorem dX8_isTold_16 : decode cX8_isTold 16 = .ok (.getfield 50, 3) := by decide +kernel
theorem dX8_isTold_19 : decode cX8_isTold 19 = .ok (.aload_n 0, 1) := by decide +kernel
theorem dX8_isTold_20 : decode cX8_isTold 20 = .ok (.getfield 77, 3) := by decide +kernel
theorem dX8_isTold_23 : decode cX8_isTold 23 = .ok (.bipush 40, 2) := by decide +kernel
theorem dX8_isTold_25 : decode cX8_isTold 25 = .ok (.aload_n 0, 1) := by decide +kernel
theorem dX8_isTold_26 : decode cX8_isTold 26 = .ok (.getfield 187, 3) := by decide +kernel
theorem dX8_isTold_29 : decode cX8_isTold 29 = .ok (.imul, 1) := by decide +kernel
theorem dX8_isTold_30 : decode cX8_isTold 30 = .ok (.iload_n 1, 1) := by decide +kernel
theorem dX8_isTold_31 : decode cX8_isTold 31 = .ok (.iadd, 1) := by decide +kernel
theorem dX8_isTold_32 : decode cX8_isTold 32 = .ok (.iaload, 1) := by decide +kernel
theorem dX8_isTold_33 : decode cX8_isTold 33 = .ok (.iaload, 1) := by decide +kernel
theorem dX8_isTold_34 : decode cX8_isTold 34 = .ok (.aload_n 0, 1) := by decide +kernel
theorem dX8_isTold_35 : decode cX8_isTold 35 = .ok (.getfield 26, 3) := by decide +kernel
theorem dX8_isTold_38 : decode cX8_isTold 38 = .ok (.aload_n 0, 1) := by decide +kernel
theorem dX8_isTold_39 : decode cX8_isTold 39 = .ok (.getfield 187, 3) := by decide +kernel
theorem dX8_isTold_42 : decode cX8_isTold 42 = .ok (.iaload, 1) := by decide +kernel
theorem dX8_isTold_43 : decode cX8_isTold 43 = .ok (.if_icmp .lt 5, 3) := by decide +kernel
theorem dX8_isTold_46 : decode cX8_isTold 46 = .ok (.iconst 0, 1) := by decide +kernel
theorem dX8_isTold_47 : decode cX8_isTold 47 = .ok (.ireturn, 1) := by decide +kernel
theorem dX8_isTold_48 : decode cX8_isTold 48 = .ok (.iinc 1 1, 3) := by decide +kernel
theorem dX8_isTold_51 : decode cX8_isTold 51 = .ok (.goto (-49), 3) := by decide +kernel
theorem dX8_isTold_54 : decode cX8_isTold 54 = .ok (.iconst 1, 1) := by decide +kernel
theorem dX8_isTold_55 : decode cX8_isTold 55 = .ok (.ireturn, 1) := by decide +kernel
theorem dX8_readAll_0 : decode cX8_readAll 0 = .ok (.aload_n 0, 1) := by decide +kernel
theorem dX8_readAll_1 : decode cX8_readAll 1 = .ok (.invokevirtual 176, 3) := by decide +kernel
theorem dX8_readAll_4 : decode cX8_readAll 4 = .ok (.istore_n 1, 1) := by decide +kernel
theorem dX8_readAll_5 : decode cX8_readAll 5 = .ok (.iload_n 1, 1) := by decide +kernel
theorem dX8_readAll_6 : decode cX8_readAll 6 = .ok (.bipush 65, 2) := by decide +kernel
theorem dX8_readAll_8 : decode cX8_readAll 8 = .ok (.bipush 90, 2) := by decide +kernel
theorem dX8_readAll_10 : decode cX8_readAll 10 = .ok (.invokestatic 159, 3) := by decide +kernel
theorem dX8_readAll_13 : decode cX8_readAll 13 = .ok (.ifCond .ne 11, 3) := by decide +kernel
theorem dX8_readAll_16 : decode cX8_readAll 16 = .ok (.aload_n 0, 1) := by decide +kernel
theorem dX8_readAll_17 : decode cX8_readAll 17 = .ok (.iconst 1, 1) := by decide +kernel
theorem dX8_readAll_18 : decode cX8_readAll 18 = .ok (.invokevirtual 180, 3) := by decide +kernel
theorem dX8_readAll_21 : decode cX8_readAll 21 = .ok (.goto 37, 3) := by decide +kernel
theorem dX8_readAll_24 : decode cX8_readAll 24 = .ok (.aload_n 0, 1) := by decide +kernel
theorem dX8_readAll_25 : decode cX8_readAll 25 = .ok (.getfield 26, 3) := by decide +kernel
theorem dX8_readAll_28 : decode cX8_readAll 28 = .ok (.aload_n 0, 1) := by decide +kernel
theorem dX8_readAll_29 : decode cX8_readAll 29 = .ok (.getfield 187, 3) := by decide +kernel
theorem dX8_readAll_32 : decode cX8_readAll 32 = .ok (.iaload, 1) := by decide +kernel
theorem dX8_readAll_33 : decode cX8_readAll 33 = .ok (.iconst 5, 1) := by decide +kernel
theorem dX8_readAll_34 : decode cX8_readAll 34 = .ok (.if_icmp .eq 19, 3) := by decide +kernel
theorem dX8_readAll_37 : decode cX8_readAll 37 = .ok (.iload_n 1, 1) := by decide +kernel
theorem dX8_readAll_38 : decode cX8_readAll 38 = .ok (.bipush 65, 2) := by decide +kernel
theorem dX8_readAll_40 : decode cX8_readAll 40 = .ok (.aload_n 0, 1) := by decide +kernel
theorem dX8_readAll_41 : decode cX8_readAll 41 = .ok (.getfield 26, 3) := by decide +kernel
theorem dX8_readAll_44 : decode cX8_readAll 44 = .ok (.aload_n 0, 1) := by decide +kernel
theorem dX8_readAll_45 : decode cX8_readAll 45 = .ok (.getfield 187, 3) := by decide +kernel
theorem dX8_readAll_48 : decode cX8_readAll 48 = .ok (.iaload, 1) := by decide +kernel
theorem dX8_readAll_49 : decode cX8_readAll 49 = .ok (.iadd, 1) := by decide +kernel
theorem dX8_readAll_50 : decode cX8_readAll 50 = .ok (.if_icmp .eq 8, 3) := by decide +kernel
theorem dX8_readAll_53 : decode cX8_readAll 53 = .ok (.aload_n 0, 1) := by decide +kernel
theorem dX8_readAll_54 : decode cX8_readAll 54 = .ok (.iconst 3, 1) := by decide +kernel
theorem dX8_readAll_55 : decode cX8_readAll 55 = .ok (.invokevirtual 180, 3) := by decide +kernel
theorem dX8_readAll_58 : decode cX8_readAll 58 = .ok (.aload_n 0, 1) := by decide +kernel
theorem dX8_readAll_59 : decode cX8_readAll 59 = .ok (.invokevirtual 172, 3) := by decide +kernel
theorem dX8_readAll_62 : decode cX8_readAll 62 = .ok (.ifCond .ne 4, 3) := by decide +kernel
theorem dX8_readAll_65 : decode cX8_readAll 65 = .ok (.return_, 1) := by decide +kernel
theorem dX8_readAll_66 : decode cX8_readAll 66 = .ok (.aload_n 0, 1) := by decide +kernel
theorem dX8_readAll_67 : decode cX8_readAll 67 = .ok (.getfield 26, 3) := by decide +kernel
theorem dX8_readAll_70 : decode cX8_readAll 70 = .ok (.aload_n 0, 1) := by decide +kernel
theorem dX8_readAll_71 : decode cX8_readAll 71 = .ok (.getfield 187, 3) := by decide +kernel
theorem dX8_readAll_74 : decode cX8_readAll 74 = .ok (.iaload, 1) := by decide +kernel
theorem dX8_readAll_75 : decode cX8_readAll 75 = .ok (.istore_n 2, 1) := by decide +kernel
theorem dX8_readAll_76 : decode cX8_readAll 76 = .ok (.aload_n 0, 1) := by decide +kernel
theorem dX8_readAll_77 : decode cX8_readAll 77 = .ok (.getfield 26, 3) := by decide +kernel
theorem dX8_readAll_80 : decode cX8_readAll 80 = .ok (.aload_n 0, 1) := by decide +kernel
theorem dX8_readAll_81 : decode cX8_readAll 81 = .ok (.getfield 187, 3) := by decide +kernel
theorem dX8_readAll_84 : decode cX8_readAll 84 = .ok (.dup2, 1) := by decide +kernel
theorem dX8_readAll_85 : decode cX8_readAll 85 = .ok (.iaload, 1) := by decide +kernel
theorem dX8_readAll_86 : decode cX8_readAll 86 = .ok (.iconst 1, 1) := by decide +kernel
theorem dX8_readAll_87 : decode cX8_readAll 87 = .ok (.iadd, 1) := by decide +kernel
theorem dX8_readAll_88 : decode cX8_readAll 88 = .ok (.iastore, 1) := by decide +kernel
theorem dX8_readAll_89 : decode cX8_readAll 89 = .ok (.aload_n 0, 1) := by decide +kernel
theorem dX8_readAll_90 : decode cX8_readAll 90 = .ok (.dup, 1) := by decide +kernel
theorem dX8_readAll_91 : decode cX8_readAll 91 = .ok (.getfield 163, 3) := by decide +kernel
theorem dX8_readAll_94 : decode cX8_readAll 94 = .ok (.iconst 1, 1) := by decide +kernel
theorem dX8_readAll_95 : decode cX8_readAll 95 = .ok (.iadd, 1) := by decide +kernel
theorem dX8_readAll_96 : decode cX8_readAll 96 = .ok (.putfield 163, 3) := by decide +kernel
theorem dX8_readAll_99 : decode cX8_readAll 99 = .ok (.aload_n 0, 1) := by decide +kernel
theorem dX8_readAll_100 : decode cX8_readAll 100 = .ok (.getfield 80, 3) := by decide +kernel
theorem dX8_readAll_103 : decode cX8_readAll 103 = .ok (.iconst 5, 1) := by decide +kernel
theorem dX8_readAll_104 : decode cX8_readAll 104 = .ok (.aload_n 0, 1) := by decide +kernel
theorem dX8_readAll_105 : decode cX8_readAll 105 = .ok (.getfield 187, 3) := by decide +kernel
theorem dX8_readAll_108 : decode cX8_readAll 108 = .ok (.imul, 1) := by decide +kernel
theorem dX8_readAll_109 : decode cX8_readAll 109 = .ok (.iload_n 2, 1) := by decide +kernel
theorem dX8_readAll_110 : decode cX8_readAll 110 = .ok (.iadd, 1) := by decide +kernel
theorem dX8_readAll_111 : decode cX8_readAll 111 = .ok (.aload_n 0, 1) := by decide +kernel
theorem dX8_readAll_112 : decode cX8_readAll 112 = .ok (.iconst (-1), 1) := by decide +kernel
theorem dX8_readAll_113 : decode cX8_readAll 113 = .ok (.iload_n 2, 1) := by decide +kernel
theorem dX8_readAll_114 : decode cX8_readAll 114 = .ok (.iconst 0, 1) := by decide +kernel
theorem dX8_readAll_115 : decode cX8_readAll 115 = .ok (.invokevirtual 224, 3) := by decide +kernel
theorem dX8_readAll_118 : decode cX8_readAll 118 = .ok (.iastore, 1) := by decide +kernel
theorem dX8_readAll_119 : decode cX8_readAll 119 = .ok (.aload_n 0, 1) := by decide +kernel
theorem dX8_readAll_120 : decode cX8_readAll 120 = .ok (.invokevirtual 172, 3) := by decide +kernel
theorem dX8_readAll_123 : decode cX8_readAll 123 = .ok (.ifCond .eq 11, 3) := by decide +kernel
theorem dX8_readAll_126 : decode cX8_readAll 126 = .ok (.aload_n 0, 1) := by decide +kernel
theorem dX8_readAll_127 : decode cX8_readAll 127 = .ok (.invokevirtual 176, 3) := by decide +kernel
theorem dX8_readAll_130 : decode cX8_readAll 130 = .ok (.iconst (-1), 1) := by decide +kernel
theorem dX8_readAll_131 : decode cX8_readAll 131 = .ok (.if_icmp .ne (-131), 3) := by decide +kernel
theorem dX8_readAll_134 : decode cX8_readAll 134 = .ok (.return_, 1) := by decide +kernel
set_option maxHeartbeats 4000000 in
set_option maxRecDepth 100000 in
theorem s_X8_readAll (l : Launch) (d : Nat) {P : PP} {h : HP} (hv : Iv P h) (hz : (h.2.1 70 5).toInt = 0 ∧ V h.2.1 73 (h.2.1 70 6).toInt = 0 ∧ V h.2.1 74 (h.2.1 70 6).toInt = 0 ∧ V h.2.1 75 (h.2.1 70 6).toInt = 0 ∧ V h.2.1 76 (h.2.1 70 6).toInt = 0) : Mt l yX8_readAll cX8_readAll 3 none (d + 25) [.ref 70] h 0 0 (fun r h' => r = none ∧ (∃ Q : PP, Iv Q h' ∧ MW P Q) ∧ ((h'.2.1 70 5).toInt = 0 → RD h'.2.1 (h.2.1 70 6).toInt ∧ 1 ≤ V h'.2.1 76 (h.2.1 70 6).toInt) ∧ (OH h.2.1 h'.2.1 (h.2.1 70 6).toInt) ∧ (CKF h.2.1 → CKF h'.2.1)) := by
  refine Mt_iv hv (by decide) (Nat.le_of_ble_eq_true rfl) ?_
  show Go l RX8 cX8_readAll 3 (g_rm (d + 25) 0 0) "readAll" none 117 0 0 (fun _ _ => True) (fun r h' => r = none ∧ (∃ Q : PP, Iv Q h' ∧ MW P Q) ∧ ((h'.2.1 70 5).toInt = 0 → RD h'.2.1 (h.2.1 70 6).toInt ∧ 1 ≤ V h'.2.1 76 (h.2.1 70 6).toInt) ∧ (OH h.2.1 h'.2.1 (h.2.1 70 6).toInt) ∧ (CKF h.2.1 → CKF h'.2.1)) 0 0 [(0, .ref 70)] [] h
  obtain ⟨S, hS⟩ : ∃ S : Int, S = (h.2.1 70 6).toInt := ⟨_, rfl⟩
  have S0 : 0 ≤ S := by rw [hS]; exact (hv.2.1 70 6).1
  have S1 : S ≤ 1 := by rw [hS]; exact (hv.2.1 70 6).2
  have oh : OH h.2.1 h.2.1 S := OH.rfl _ _
  have ck : CKF h.2.1 → CKF h.2.1 := id
  rw [← hS] at hz
  have key : ∀ n : Nat, (∀  (Qx : PP) (hx : HP), Iv Qx hx → MW P Qx → ((hx.2.1 70 5).toInt = 0) → (RD hx.2.1 S) → (6 * (V hx.2.1 73 S - V hx.2.1 75 S) ≤ (hx.2.1 70 4).toInt) → (2 * V hx.2.1 74 S ≤ (hx.2.1 70 4).toInt) → OH h.2.1 hx.2.1 S → (CKF h.2.1 → CKF hx.2.1) → (0 : Int) ≤ (hx.2.1 70 4).toInt → (hx.2.1 70 4).toInt ≤ 500 → (-2147483648 : Int) ≤ (hx.2.1 70 5).toInt → (hx.2.1 70 5).toInt ≤ 2147483647 → (3 * (500 - (hx.2.1 70 4).toInt) + 2 : Int) < n → Go l RX8 cX8_readAll 3 (g_rm (d + 25) 0 0) "readAll" none 117 0 0 (fun _ _ => True) (fun r h' => r = none ∧ (∃ Q : PP, Iv Q h' ∧ MW P Q) ∧ ((h'.2.1 70 5).toInt = 0 → RD h'.2.1 (h.2.1 70 6).toInt ∧ 1 ≤ V h'.2.1 76 (h.2.1 70 6).toInt) ∧ (OH h.2.1 h'.2.1 (h.2.1 70 6).toInt) ∧ (CKF h.2.1 → CKF h'.2.1)) 0 0 [(0, .ref 70)] [] hx) := by
    intro n
    induction n with
    | zero => exact (by intros; omega)
    | succ n ih =>
      refine ?_
      ·
        intro Qx hx hvx sqx x0 x1 x2 x3 ohx ckx y0l y0u y1l y1u hm
        have xrd := x1
        refine go_aload_n (pc := 0) rfl dX8_readAll_0 ?_
        have g1 : (0 : Int) ≤ (hx.2.1 70 4).toInt := (hvx.2.1 70 4).1
        have g2 : (hx.2.1 70 4).toInt ≤ 500 := (hvx.2.1 70 4).2
        have g3 : (-2147483648 : Int) ≤ (hx.2.1 70 5).toInt := (hvx.2.1 70 5).1
        have g4 : (hx.2.1 70 5).toInt ≤ 2147483647 := (hvx.2.1 70 5).2
        refine go_invV (pc := 1) (sl := 0) (s_X8_here l (d + 23) hvx ) mL_X8_176 iM_X8_here sM_X8_here (hvx.sh rfl) rfl rfl rfl (Nat.le_of_ble_eq_true rfl) (show d + 23 + 1 + 1 ≤ d + 25 by omega) (show 8 + (1 + 11) + 40 * (d + 23 + 1) ≤ 40 * (d + 25) by omega) (g_c0 hvx.ln) (Nat.le_of_ble_eq_true rfl) dX8_readAll_1 ?_
        intro r h5 hq _
        obtain ⟨v10, rfl, v10l, v10u, hv5, f6, f7, f8, f9⟩ := hq
        have ve5 : VE hx.2.1 h5.2.1 := VE.of hvx hv5
        have oh5 : OH h.2.1 h5.2.1 S := ohx.trans (OH.of hvx hv5 S)
        have ck5 : CKF h.2.1 → CKF h5.2.1 := fun z => CKF.ve ve5 (ckx z)
        have n73_5 : V h5.2.1 73 S = V hx.2.1 73 S := ve5.v (by omega) (by omega)
        have n74_5 : V h5.2.1 74 S = V hx.2.1 74 S := ve5.v (by omega) (by omega)
        have n75_5 : V h5.2.1 75 S = V hx.2.1 75 S := ve5.v (by omega) (by omega)
        obtain ⟨u11, u11w⟩ : ∃ v : Int32, v = h5.2.1 70 4 := ⟨_, rfl⟩
        have u11e : (h5.2.1 70 4).toInt = u11.toInt := by rw [u11w]
        have u11l : 0 ≤ u11.toInt := by rw [u11w]; exact (hv5.2.1 70 4).1
        have u11u : u11.toInt ≤ 500 := by rw [u11w]; exact (hv5.2.1 70 4).2
        obtain ⟨u12, u12w⟩ : ∃ v : Int32, v = h5.2.1 70 5 := ⟨_, rfl⟩
        have u12e : (h5.2.1 70 5).toInt = u12.toInt := by rw [u12w]
        have u12l : -2147483648 ≤ u12.toInt := by rw [u12w]; exact (hv5.2.1 70 5).1
        have u12u : u12.toInt ≤ 2147483647 := by rw [u12w]; exact (hv5.2.1 70 5).2
        refine go_istore_n (pc := 4) (Nat.le_of_ble_eq_true rfl) dX8_readAll_4 (go_lv (lv2 := [(0, .ref 70), (1, .int v10)]) rfl ?_)
        refine go_iload_n (pc := 5) rfl dX8_readAll_5 ?_
        refine go_bipush (pc := 6) (v := 65) (by decide) dX8_readAll_6 ?_
        refine go_bipush (pc := 8) (v := 90) (by decide) dX8_readAll_8 ?_
        refine go_invS (pc := 10) (sl := 0) (s_X8_isIn l (d + 23) hv5 v10 65 90) mL_X8_159 iM_X8_isIn rfl rfl (Nat.le_of_ble_eq_true rfl) (show d + 23 + 1 + 1 ≤ d + 25 by omega) (show 8 + (3 + 11) + 40 * (d + 23 + 1) ≤ 40 * (d + 25) by omega) (g_c0 hv5.ln) (Nat.le_of_ble_eq_true rfl) dX8_readAll_10 ?_
        intro r h13 hq _
        obtain ⟨v16, rfl, v16l, v16u, rfl, f14, f15⟩ := hq
        try rw [show (65 : Int32).toInt = 65 from (ti_c (v := 65) (a := 65) (by decide))] at f14
        try rw [show (90 : Int32).toInt = 90 from (ti_c (v := 90) (a := 90) (by decide))] at f14
        try rw [show (65 : Int32).toInt = 65 from (ti_c (v := 65) (a := 65) (by decide))] at f15
        try rw [show (90 : Int32).toInt = 90 from (ti_c (v := 90) (a := 90) (by decide))] at f15
        refine gf_if_ne (pc := 13) (tgt := 24) (ti_rfl v16) (by decide) dX8_readAll_13 (fun q17 => ?_) (fun q17 => ?_)
        ·
          refine go_aload_n (pc := 24) rfl dX8_readAll_24 ?_
          refine gi_getF (pc := 25) (q := 76) hv5 fL_X8_26 rfl (Nat.le_of_ble_eq_true rfl) rfl (hv5.rf (by decide)) dX8_readAll_25 ?_
          refine go_aload_n (pc := 28) rfl dX8_readAll_28 ?_
          refine gi_get (pc := 29) (lo := 0) (hi := 1) hv5 fL_X8_187 rfl (Nat.le_of_ble_eq_true rfl) rfl rfl dX8_readAll_29 (fun v18 v18l v18u v18w => ?_)
          have v18S : v18.toInt = S := by rw [v18w]; exact (congrArg Int32.toInt oh5.side).trans hS.symm
          refine gi_iald (pc := 32) (lo := 0) (hi := 5) (len := 2) hv5 (ti_rfl v18) rfl (by omega) (by omega) (fun _ => rfl) dX8_readAll_32 (fun v19 v19l v19u v19w => ?_)
          have v19V : v19.toInt = V h5.2.1 76 S := by rw [v19w, v18S]; rfl
          refine go_iconst (pc := 33) (v := 5) (by decide) dX8_readAll_33 ?_
          refine gf_icmp_eq (pc := 34) (tgt := 53) (ti_rfl v19) (ti_c (v := 5) (a := 5) (by decide)) (by decide) dX8_readAll_34 (fun q20 => ?_) (fun q20 => ?_)
          ·
            refine go_aload_n (pc := 53) rfl dX8_readAll_53 ?_
            refine go_iconst (pc := 54) (v := 3) (by decide) dX8_readAll_54 ?_
            have g21 : (0 : Int) ≤ (h5.2.1 70 4).toInt := (hv5.2.1 70 4).1
            have g22 : (h5.2.1 70 4).toInt ≤ 500 := (hv5.2.1 70 4).2
            have g23 : (-2147483648 : Int) ≤ (h5.2.1 70 5).toInt := (hv5.2.1 70 5).1
            have g24 : (h5.2.1 70 5).toInt ≤ 2147483647 := (hv5.2.1 70 5).2
            have g25 : (h5.2.1 70 4).toInt = u11.toInt := by rw [← (show u11 = h5.2.1 70 4 from u11w)] <;> exact (ti_rfl u11)
            have g26 : (h5.2.1 70 5).toInt = u12.toInt := by rw [← (show u12 = h5.2.1 70 5 from u12w)] <;> exact (ti_rfl u12)
            refine go_invV (pc := 55) (sl := 0) (s_X8_fails l (d + 23) hv5 3 (by rw [show (3 : Int32).toInt = 3 from (ti_c (v := 3) (a := 3) (by decide))]; omega) (by rw [show (3 : Int32).toInt = 3 from (ti_c (v := 3) (a := 3) (by decide))]; omega)) mL_X8_180 iM_X8_fails sM_X8_fails (hv5.sh rfl) rfl rfl rfl (Nat.le_of_ble_eq_true rfl) (show d + 23 + 1 + 1 ≤ d + 25 by omega) (show 8 + (2 + 11) + 40 * (d + 23 + 1) ≤ 40 * (d + 25) by omega) (g_c0 hv5.ln) (Nat.le_of_ble_eq_true rfl) dX8_readAll_55 ?_
            intro r h27 hq _
            obtain ⟨rfl, hv27, f28, f29⟩ := hq
            try rw [show (3 : Int32).toInt = 3 from (ti_c (v := 3) (a := 3) (by decide))] at f28
            try rw [show (3 : Int32).toInt = 3 from (ti_c (v := 3) (a := 3) (by decide))] at f29
            have ve27 : VE h5.2.1 h27.2.1 := VE.of hv5 hv27
            have oh27 : OH h.2.1 h27.2.1 S := oh5.trans (OH.of hv5 hv27 S)
            have ck27 : CKF h.2.1 → CKF h27.2.1 := fun z => CKF.ve ve27 (ck5 z)
            have n73_27 : V h27.2.1 73 S = V h5.2.1 73 S := ve27.v (by omega) (by omega)
            have n74_27 : V h27.2.1 74 S = V h5.2.1 74 S := ve27.v (by omega) (by omega)
            have n75_27 : V h27.2.1 75 S = V h5.2.1 75 S := ve27.v (by omega) (by omega)
            obtain ⟨u30, u30w⟩ : ∃ v : Int32, v = h27.2.1 70 4 := ⟨_, rfl⟩
            have u30e : (h27.2.1 70 4).toInt = u30.toInt := by rw [u30w]
            have u30l : 0 ≤ u30.toInt := by rw [u30w]; exact (hv27.2.1 70 4).1
            have u30u : u30.toInt ≤ 500 := by rw [u30w]; exact (hv27.2.1 70 4).2
            obtain ⟨u31, u31w⟩ : ∃ v : Int32, v = h27.2.1 70 5 := ⟨_, rfl⟩
            have u31e : (h27.2.1 70 5).toInt = u31.toInt := by rw [u31w]
            have u31l : -2147483648 ≤ u31.toInt := by rw [u31w]; exact (hv27.2.1 70 5).1
            have u31u : u31.toInt ≤ 2147483647 := by rw [u31w]; exact (hv27.2.1 70 5).2
            refine go_aload_n (pc := 58) rfl dX8_readAll_58 ?_
            refine go_invV (pc := 59) (sl := 0) (s_X8_isGood l (d + 23) hv27 ) mL_X8_172 iM_X8_isGood sM_X8_isGood (hv27.sh rfl) rfl rfl rfl (Nat.le_of_ble_eq_true rfl) (show d + 23 + 1 + 1 ≤ d + 25 by omega) (show 8 + (1 + 11) + 40 * (d + 23 + 1) ≤ 40 * (d + 25) by omega) (g_c0 hv27.ln) (Nat.le_of_ble_eq_true rfl) dX8_readAll_59 ?_
            intro r h32 hq _
            obtain ⟨v35, rfl, v35l, v35u, rfl, f33, f34⟩ := hq
            refine gf_if_ne (pc := 62) (tgt := 66) (ti_rfl v35) (by decide) dX8_readAll_62 (fun q36 => ?_) (fun q36 => ?_)
            ·
              refine go_aload_n (pc := 66) rfl dX8_readAll_66 ?_
              refine gi_getF (pc := 67) (q := 76) hv27 fL_X8_26 rfl (Nat.le_of_ble_eq_true rfl) rfl (hv27.rf (by decide)) dX8_readAll_67 ?_
              refine go_aload_n (pc := 70) rfl dX8_readAll_70 ?_
              refine gi_get (pc := 71) (lo := 0) (hi := 1) hv27 fL_X8_187 rfl (Nat.le_of_ble_eq_true rfl) rfl rfl dX8_readAll_71 (fun v37 v37l v37u v37w => ?_)
              have v37S : v37.toInt = S := by rw [v37w]; exact (congrArg Int32.toInt oh27.side).trans hS.symm
              refine gi_iald (pc := 74) (lo := 0) (hi := 5) (len := 2) hv27 (ti_rfl v37) rfl (by omega) (by omega) (fun _ => rfl) dX8_readAll_74 (fun v38 v38l v38u v38w => ?_)
              have v38V : v38.toInt = V h27.2.1 76 S := by rw [v38w, v37S]; rfl
              refine go_istore_n (pc := 75) (Nat.le_of_ble_eq_true rfl) dX8_readAll_75 (go_lv (lv2 := [(0, .ref 70), (1, .int v10), (2, .int v38)]) rfl ?_)
              refine go_aload_n (pc := 76) rfl dX8_readAll_76 ?_
              refine gi_getF (pc := 77) (q := 76) hv27 fL_X8_26 rfl (Nat.le_of_ble_eq_true rfl) rfl (hv27.rf (by decide)) dX8_readAll_77 ?_
              refine go_aload_n (pc := 80) rfl dX8_readAll_80 ?_
              refine gi_get (pc := 81) (lo := 0) (hi := 1) hv27 fL_X8_187 rfl (Nat.le_of_ble_eq_true rfl) rfl rfl dX8_readAll_81 (fun v39 v39l v39u v39w => ?_)
              have v39r : v37 = h27.2.1 70 6 := v37w
              have v39q : TI v39 v37.toInt := by rw [v39w.trans v39r.symm]; exact (ti_rfl v37)
              refine go_dup2 (pc := 84) rfl rfl dX8_readAll_84 ?_
              refine gi_iald (pc := 85) (lo := 0) (hi := 5) (len := 2) hv27 v39q rfl (by omega) (by omega) (fun _ => rfl) dX8_readAll_85 (fun v40 v40l v40u v40w => ?_)
              have v40V : v40.toInt = V h27.2.1 76 S := by rw [v40w, v37S]; rfl
              refine go_iconst (pc := 86) (v := 1) (by decide) dX8_readAll_86 ?_
              refine gf_iadd (pc := 87) (ti_rfl v40) (ti_c (v := 1) (a := 1) (by decide)) (by omega) (by omega) dX8_readAll_87 (fun v41 e42 => ?_)
              refine gi_fst (pc := 88) (lo := 0) (hi := 5) (len := 2) hv27 v39q e42 rfl (by omega) (by omega) (fun _ => rfl) (by omega) (by omega) (by omega) dX8_readAll_88 (fun h43 hv43 hv43e => ?_)
              refine go_aload_n (pc := 89) rfl dX8_readAll_89 ?_
              refine go_dup (pc := 90) rfl dX8_readAll_90 ?_
              refine gi_get (pc := 91) (lo := 0) (hi := 500) hv43 fL_X8_163 rfl (Nat.le_of_ble_eq_true rfl) rfl rfl dX8_readAll_91 (fun v44 v44l v44u v44w => ?_)
              have v44r : u30 = h43.2.1 70 4 := (show u30 = h43.2.1 70 4 from by rw [hv43e]; exact (g_iI rfl u30w.symm).symm)
              have v44q : TI v44 u30.toInt := by rw [v44w.trans v44r.symm]; exact (ti_rfl u30)
              refine go_iconst (pc := 94) (v := 1) (by decide) dX8_readAll_94 ?_
              refine gf_iadd (pc := 95) v44q (ti_c (v := 1) (a := 1) (by decide)) (by omega) (by omega) dX8_readAll_95 (fun v45 e46 => ?_)
              have E43 : h43.2.1 = (w1 h27.2.1 76 S (v41 : Int32)) := by
                rw [hv43e]
                rw [v37S]
                rfl
              have oh43 : OH h.2.1 h43.2.1 S := by rw [E43]; exact (oh27.trans (OH.w 1 rfl (by omega) (by omega) (by omega) (by omega)))
              have n73_43 : V h43.2.1 73 S = V h27.2.1 73 S := by rw [E43, V_ne (by omega)]
              have n74_43 : V h43.2.1 74 S = V h27.2.1 74 S := by rw [E43, V_ne (by omega)]
              have n75_43 : V h43.2.1 75 S = V h27.2.1 75 S := by rw [E43, V_ne (by omega)]
              have ck43 : CKF h.2.1 → CKF h43.2.1 := fun z => by rw [E43]; exact (CKF.w (by omega) (ck27 z))
              refine gi_put (pc := 96) (lo := 0) (hi := 500) hv43 e46 (fP_X8_163 _) rfl (Nat.le_of_ble_eq_true rfl) rfl rfl (by omega) (by omega) rfl rfl (by decide) (by decide) (by decide) (by decide) dX8_readAll_96 (fun h47 hv47 hv47e => ?_)
              have ve47 : VE h43.2.1 h47.2.1 := VE.of hv43 hv47
              have oh47 : OH h.2.1 h47.2.1 S := oh43.trans (OH.of hv43 hv47 S)
              have ck47 : CKF h.2.1 → CKF h47.2.1 := fun z => CKF.ve ve47 (ck43 z)
              have n73_47 : V h47.2.1 73 S = V h43.2.1 73 S := ve47.v (by omega) (by omega)
              have n74_47 : V h47.2.1 74 S = V h43.2.1 74 S := ve47.v (by omega) (by omega)
              have n75_47 : V h47.2.1 75 S = V h43.2.1 75 S := ve47.v (by omega) (by omega)
              refine go_aload_n (pc := 99) rfl dX8_readAll_99 ?_
              refine gi_getF (pc := 100) (q := 94) hv47 fL_X8_80 rfl (Nat.le_of_ble_eq_true rfl) rfl (hv47.rf (by decide)) dX8_readAll_100 ?_
              refine go_iconst (pc := 103) (v := 5) (by decide) dX8_readAll_103 ?_
              refine go_aload_n (pc := 104) rfl dX8_readAll_104 ?_
              refine gi_get (pc := 105) (lo := 0) (hi := 1) hv47 fL_X8_187 rfl (Nat.le_of_ble_eq_true rfl) rfl rfl dX8_readAll_105 (fun v48 v48l v48u v48w => ?_)
              have v48r : v37 = h47.2.1 70 6 := (show v37 = h47.2.1 70 6 from by rw [hv47e]; exact (g_iI rfl (show v37 = h43.2.1 70 6 from by rw [hv43e]; exact (g_iI rfl v37w.symm).symm).symm).symm)
              have v48q : TI v48 v37.toInt := by rw [v48w.trans v48r.symm]; exact (ti_rfl v37)
              refine gf_imul (pc := 108) (ti_c (v := 5) (a := 5) (by decide)) v48q (by omega) (by omega) dX8_readAll_108 (fun v49 e50 => ?_)
              refine go_iload_n (pc := 109) rfl dX8_readAll_109 ?_
              refine gf_iadd (pc := 110) e50 (ti_rfl v38) (by omega) (by omega) dX8_readAll_110 (fun v51 e52 => ?_)
              refine go_aload_n (pc := 111) rfl dX8_readAll_111 ?_
              refine go_iconst (pc := 112) (v := (-1)) (by decide) dX8_readAll_112 ?_
              refine go_iload_n (pc := 113) rfl dX8_readAll_113 ?_
              refine go_iconst (pc := 114) (v := 0) (by decide) dX8_readAll_114 ?_
              have rdk : TR h47.2.1 S := (TR.ve ve47 (by rw [E43]; exact RD.w76 (RD.ve ve27 (RD.ve ve5 xrd))))
              have zq : (0 : Int32).toInt = 0 := by decide
              have zn : (-1 : Int32).toInt = -1 := by decide
              have sM53 : (h47.2.1 70 6).toInt = S := (congrArg Int32.toInt oh47.side).trans hS.symm
              have g54 : (0 : Int) ≤ (h47.2.1 70 4).toInt := (hv47.2.1 70 4).1
              have g55 : (h47.2.1 70 4).toInt ≤ 500 := (hv47.2.1 70 4).2
              have g56 : (-2147483648 : Int) ≤ (h47.2.1 70 5).toInt := (hv47.2.1 70 5).1
              have g57 : (h47.2.1 70 5).toInt ≤ 2147483647 := (hv47.2.1 70 5).2
              have g58 : (h47.2.1 70 5).toInt = u31.toInt := by rw [← (show u31 = h47.2.1 70 5 from (show u31 = h47.2.1 70 5 from by rw [hv47e]; exact (g_iI rfl (show u31 = h43.2.1 70 5 from by rw [hv43e]; exact (g_iI rfl u31w.symm).symm).symm).symm))] <;> exact (ti_rfl u31)
              have g59 : (h47.2.1 70 4).toInt = (u30.toInt + 1) := by rw [← (show v45 = h47.2.1 70 4 from (show v45 = h47.2.1 70 4 from by rw [hv47e]; exact g_iS.symm))] <;> exact e46
              refine go_invV (pc := 115) (sl := 0) (s_X8_readBlock l (d + 0) hv47 (-1) (by rw [show ((-1) : Int32).toInt = (-1) from (ti_c (v := (-1)) (a := (-1)) (by decide))]; omega) (by rw [show ((-1) : Int32).toInt = (-1) from (ti_c (v := (-1)) (a := (-1)) (by decide))]; omega) v38 (by rw [show (v38 : Int32).toInt = v38.toInt from (ti_rfl v38)]; omega) (by rw [show (v38 : Int32).toInt = v38.toInt from (ti_rfl v38)]; omega) 0 (by rw [show (0 : Int32).toInt = 0 from (ti_c (v := 0) (a := 0) (by decide))]; omega) (by rw [show (0 : Int32).toInt = 0 from (ti_c (v := 0) (a := 0) (by decide))]; omega) (by rw [sM53]; exact (fun _ => by omega)) (by rw [sM53]; exact (fun _ => ⟨rdk, Or.inl ⟨by omega, by omega⟩⟩))) mL_X8_224 iM_X8_readBlock sM_X8_readBlock (hv47.sh rfl) rfl rfl rfl (Nat.le_of_ble_eq_true rfl) (show d + 0 + 24 + 1 ≤ d + 25 by omega) (show 8 + (5 + 11) + 40 * (d + 0 + 24) ≤ 40 * (d + 25) by omega) (g_c0 hv47.ln) (Nat.le_of_ble_eq_true rfl) dX8_readAll_115 ?_
              intro r h60 hq _
              obtain ⟨v70, rfl, v70l, v70u, ⟨Q61, hv60, sq62⟩, f63, f64, f65, f66, f67, f68, f69⟩ := hq
              rw [sM53] at f65
              rw [sM53] at f66
              rw [sM53] at f68
              have oh60 : OH h.2.1 h60.2.1 S := oh47.trans f68
              have ck60 : CKF h.2.1 → CKF h60.2.1 := fun z => f69 (ck47 z)
              try rw [show ((-1) : Int32).toInt = (-1) from (ti_c (v := (-1)) (a := (-1)) (by decide))] at f63
              try rw [show (0 : Int32).toInt = 0 from (ti_c (v := 0) (a := 0) (by decide))] at f63
              try rw [show ((-1) : Int32).toInt = (-1) from (ti_c (v := (-1)) (a := (-1)) (by decide))] at f64
              try rw [show (0 : Int32).toInt = 0 from (ti_c (v := 0) (a := 0) (by decide))] at f64
              try rw [show ((-1) : Int32).toInt = (-1) from (ti_c (v := (-1)) (a := (-1)) (by decide))] at f65
              try rw [show (0 : Int32).toInt = 0 from (ti_c (v := 0) (a := 0) (by decide))] at f65
              try rw [show ((-1) : Int32).toInt = (-1) from (ti_c (v := (-1)) (a := (-1)) (by decide))] at f66
              try rw [show (0 : Int32).toInt = 0 from (ti_c (v := 0) (a := 0) (by decide))] at f66
              try rw [show ((-1) : Int32).toInt = (-1) from (ti_c (v := (-1)) (a := (-1)) (by decide))] at f67
              try rw [show (0 : Int32).toInt = 0 from (ti_c (v := 0) (a := 0) (by decide))] at f67
              try rw [show ((-1) : Int32).toInt = (-1) from (ti_c (v := (-1)) (a := (-1)) (by decide))] at f68
              try rw [show (0 : Int32).toInt = 0 from (ti_c (v := 0) (a := 0) (by decide))] at f68
              try rw [show ((-1) : Int32).toInt = (-1) from (ti_c (v := (-1)) (a := (-1)) (by decide))] at f69
              try rw [show (0 : Int32).toInt = 0 from (ti_c (v := 0) (a := 0) (by decide))] at f69
              obtain ⟨u71, u71w⟩ : ∃ v : Int32, v = h60.2.1 70 4 := ⟨_, rfl⟩
              have u71e : (h60.2.1 70 4).toInt = u71.toInt := by rw [u71w]
              have u71l : 0 ≤ u71.toInt := by rw [u71w]; exact (hv60.2.1 70 4).1
              have u71u : u71.toInt ≤ 500 := by rw [u71w]; exact (hv60.2.1 70 4).2
              obtain ⟨u72, u72w⟩ : ∃ v : Int32, v = h60.2.1 70 5 := ⟨_, rfl⟩
              have u72e : (h60.2.1 70 5).toInt = u72.toInt := by rw [u72w]
              have u72l : -2147483648 ≤ u72.toInt := by rw [u72w]; exact (hv60.2.1 70 5).1
              have u72u : u72.toInt ≤ 2147483647 := by rw [u72w]; exact (hv60.2.1 70 5).2
              refine gi_fst (pc := 118) (lo := 0) (hi := 559) (len := 10) hv60 e52 (ti_rfl v70) rfl (by omega) (by omega) (fun _ => rfl) (by omega) (by omega) (by omega) dX8_readAll_118 (fun h73 hv73 hv73e => ?_)
              refine go_aload_n (pc := 119) rfl dX8_readAll_119 ?_
              refine go_invV (pc := 120) (sl := 0) (s_X8_isGood l (d + 23) hv73 ) mL_X8_172 iM_X8_isGood sM_X8_isGood (hv73.sh rfl) rfl rfl rfl (Nat.le_of_ble_eq_true rfl) (show d + 23 + 1 + 1 ≤ d + 25 by omega) (show 8 + (1 + 11) + 40 * (d + 23 + 1) ≤ 40 * (d + 25) by omega) (g_c0 hv73.ln) (Nat.le_of_ble_eq_true rfl) dX8_readAll_120 ?_
              intro r h74 hq _
              obtain ⟨v77, rfl, v77l, v77u, rfl, f75, f76⟩ := hq
              have E73 : h73.2.1 = (w1 h60.2.1 94 (((5 * S) + v38.toInt)) (v70 : Int32)) := by
                rw [hv73e]
                rw [v37S]
                rfl
              have oh73 : OH h.2.1 h73.2.1 S := by rw [E73]; exact (oh60.trans (OH.w 5 rfl (by omega) (by omega) (by omega) (by omega)))
              have n73_73 : V h73.2.1 73 S = V h60.2.1 73 S := by rw [E73, V_ne (by omega)]
              have n74_73 : V h73.2.1 74 S = V h60.2.1 74 S := by rw [E73, V_ne (by omega)]
              have n75_73 : V h73.2.1 75 S = V h60.2.1 75 S := by rw [E73, V_ne (by omega)]
              have ck73 : CKF h.2.1 → CKF h73.2.1 := fun z => by rw [E73]; exact (CKF.w (by omega) (ck60 z))
              refine gf_if_eq (pc := 123) (tgt := 134) (ti_rfl v77) (by decide) dX8_readAll_123 (fun q78 => ?_) (fun q78 => ?_)
              ·
                have g79 : (0 : Int) ≤ (h73.2.1 70 4).toInt := (hv73.2.1 70 4).1
                have g80 : (h73.2.1 70 4).toInt ≤ 500 := (hv73.2.1 70 4).2
                have g81 : (-2147483648 : Int) ≤ (h73.2.1 70 5).toInt := (hv73.2.1 70 5).1
                have g82 : (h73.2.1 70 5).toInt ≤ 2147483647 := (hv73.2.1 70 5).2
                have g83 : (h73.2.1 70 4).toInt = u71.toInt := by rw [← (show u71 = h73.2.1 70 4 from (show u71 = h73.2.1 70 4 from by rw [hv73e]; exact (g_iI rfl u71w.symm).symm))] <;> exact (ti_rfl u71)
                have g84 : (h73.2.1 70 5).toInt = u72.toInt := by rw [← (show u72 = h73.2.1 70 5 from (show u72 = h73.2.1 70 5 from by rw [hv73e]; exact (g_iI rfl u72w.symm).symm))] <;> exact (ti_rfl u72)
                have v76 : V h73.2.1 76 S = (v40.toInt + 1) := by rw [E73, V_ne (by omega), f67.v (by omega), ve47.v (by omega) (by omega), E43, V_eq]; exact e42
                have pp85 : (h73.2.1 70 5).toInt = 0 → RD h73.2.1 S ∧ 1 ≤ V h73.2.1 76 S := (fun hg => ⟨(show RD h73.2.1 S from by rw [E73]; exact RD.proc (x := (v41 : Int32)) S0 (RD.ve ve27 (RD.ve ve5 xrd)) (by rw [show (v41 : Int32).toInt = (v40.toInt + 1) from e42]; omega) (by rw [← E43]; exact ve47) (f66 (by omega)) f67 (by omega) rfl), by omega⟩)
                subst hS
                exact gi_vret (pc := 134) ⟨rfl, ⟨_, hv73, (MW.trans (MW.trans (MW.trans sqx (MW.mz _ _)) sq62) (MW.mz _ _))⟩, pp85, oh73, ck73⟩ hv73 dX8_readAll_134
              ·
                refine go_aload_n (pc := 126) rfl dX8_readAll_126 ?_
                have g86 : (0 : Int) ≤ (h73.2.1 70 4).toInt := (hv73.2.1 70 4).1
                have g87 : (h73.2.1 70 4).toInt ≤ 500 := (hv73.2.1 70 4).2
                have g88 : (-2147483648 : Int) ≤ (h73.2.1 70 5).toInt := (hv73.2.1 70 5).1
                have g89 : (h73.2.1 70 5).toInt ≤ 2147483647 := (hv73.2.1 70 5).2
                have g90 : (h73.2.1 70 4).toInt = u71.toInt := by rw [← (show u71 = h73.2.1 70 4 from (show u71 = h73.2.1 70 4 from by rw [hv73e]; exact (g_iI rfl u71w.symm).symm))] <;> exact (ti_rfl u71)
                have g91 : (h73.2.1 70 5).toInt = u72.toInt := by rw [← (show u72 = h73.2.1 70 5 from (show u72 = h73.2.1 70 5 from by rw [hv73e]; exact (g_iI rfl u72w.symm).symm))] <;> exact (ti_rfl u72)
                refine go_invV (pc := 127) (sl := 0) (s_X8_here l (d + 23) hv73 ) mL_X8_176 iM_X8_here sM_X8_here (hv73.sh rfl) rfl rfl rfl (Nat.le_of_ble_eq_true rfl) (show d + 23 + 1 + 1 ≤ d + 25 by omega) (show 8 + (1 + 11) + 40 * (d + 23 + 1) ≤ 40 * (d + 25) by omega) (g_c0 hv73.ln) (Nat.le_of_ble_eq_true rfl) dX8_readAll_127 ?_
                intro r h92 hq _
                obtain ⟨v97, rfl, v97l, v97u, hv92, f93, f94, f95, f96⟩ := hq
                have ve92 : VE h73.2.1 h92.2.1 := VE.of hv73 hv92
                have oh92 : OH h.2.1 h92.2.1 S := oh73.trans (OH.of hv73 hv92 S)
                have ck92 : CKF h.2.1 → CKF h92.2.1 := fun z => CKF.ve ve92 (ck73 z)
                have n73_92 : V h92.2.1 73 S = V h73.2.1 73 S := ve92.v (by omega) (by omega)
                have n74_92 : V h92.2.1 74 S = V h73.2.1 74 S := ve92.v (by omega) (by omega)
                have n75_92 : V h92.2.1 75 S = V h73.2.1 75 S := ve92.v (by omega) (by omega)
                obtain ⟨u98, u98w⟩ : ∃ v : Int32, v = h92.2.1 70 4 := ⟨_, rfl⟩
                have u98e : (h92.2.1 70 4).toInt = u98.toInt := by rw [u98w]
                have u98l : 0 ≤ u98.toInt := by rw [u98w]; exact (hv92.2.1 70 4).1
                have u98u : u98.toInt ≤ 500 := by rw [u98w]; exact (hv92.2.1 70 4).2
                obtain ⟨u99, u99w⟩ : ∃ v : Int32, v = h92.2.1 70 5 := ⟨_, rfl⟩
                have u99e : (h92.2.1 70 5).toInt = u99.toInt := by rw [u99w]
                have u99l : -2147483648 ≤ u99.toInt := by rw [u99w]; exact (hv92.2.1 70 5).1
                have u99u : u99.toInt ≤ 2147483647 := by rw [u99w]; exact (hv92.2.1 70 5).2
                refine go_iconst (pc := 130) (v := (-1)) (by decide) dX8_readAll_130 ?_
                refine gf_icmp_ne (pc := 131) (tgt := 0) (ti_rfl v97) (ti_c (v := (-1)) (a := (-1)) (by decide)) (by decide) dX8_readAll_131 (fun q100 => ?_) (fun q100 => ?_)
                ·
                  have g101 : (0 : Int) ≤ (h92.2.1 70 4).toInt := (hv92.2.1 70 4).1
                  have g102 : (h92.2.1 70 4).toInt ≤ 500 := (hv92.2.1 70 4).2
                  have g103 : (-2147483648 : Int) ≤ (h92.2.1 70 5).toInt := (hv92.2.1 70 5).1
                  have g104 : (h92.2.1 70 5).toInt ≤ 2147483647 := (hv92.2.1 70 5).2
                  have g105 : (h92.2.1 70 4).toInt = u98.toInt := by rw [← (show u98 = h92.2.1 70 4 from u98w)] <;> exact (ti_rfl u98)
                  have g106 : (h92.2.1 70 5).toInt = u99.toInt := by rw [← (show u99 = h92.2.1 70 5 from u99w)] <;> exact (ti_rfl u99)
                  exact go_lv rfl (ih  _ h92 hv92 (MW.trans (MW.trans (MW.trans sqx (MW.mz _ _)) sq62) (MW.mz _ _)) (by omega) (RD.ve ve92 (show RD h73.2.1 S from by rw [E73]; exact RD.proc (x := (v41 : Int32)) S0 (RD.ve ve27 (RD.ve ve5 xrd)) (by rw [show (v41 : Int32).toInt = (v40.toInt + 1) from e42]; omega) (by rw [← E43]; exact ve47) (f66 (by omega)) f67 (by omega) rfl)) (by omega) (by omega) oh92 ck92 (by omega) (by omega) (by omega) (by omega) (by omega))
                ·
                  have g107 : (0 : Int) ≤ (h92.2.1 70 4).toInt := (hv92.2.1 70 4).1
                  have g108 : (h92.2.1 70 4).toInt ≤ 500 := (hv92.2.1 70 4).2
                  have g109 : (-2147483648 : Int) ≤ (h92.2.1 70 5).toInt := (hv92.2.1 70 5).1
                  have g110 : (h92.2.1 70 5).toInt ≤ 2147483647 := (hv92.2.1 70 5).2
                  have g111 : (h92.2.1 70 4).toInt = u98.toInt := by rw [← (show u98 = h92.2.1 70 4 from u98w)] <;> exact (ti_rfl u98)
                  have g112 : (h92.2.1 70 5).toInt = u99.toInt := by rw [← (show u99 = h92.2.1 70 5 from u99w)] <;> exact (ti_rfl u99)
                  have v76 : V h92.2.1 76 S = (v40.toInt + 1) := by rw [ve92.v (by omega) (by omega), E73, V_ne (by omega), f67.v (by omega), ve47.v (by omega) (by omega), E43, V_eq]; exact e42
                  have pp113 : (h92.2.1 70 5).toInt = 0 → RD h92.2.1 S ∧ 1 ≤ V h92.2.1 76 S := (fun hg => ⟨(RD.ve ve92 (show RD h73.2.1 S from by rw [E73]; exact RD.proc (x := (v41 : Int32)) S0 (RD.ve ve27 (RD.ve ve5 xrd)) (by rw [show (v41 : Int32).toInt = (v40.toInt + 1) from e42]; omega) (by rw [← E43]; exact ve47) (f66 (by omega)) f67 (by omega) rfl)), by omega⟩)
                  subst hS
                  exact gi_vret (pc := 134) ⟨rfl, ⟨_, hv92, (MW.trans (MW.trans (MW.trans sqx (MW.mz _ _)) sq62) (MW.mz _ _))⟩, pp113, oh92, ck92⟩ hv92 dX8_readAll_134
            ·
              have g114 : (0 : Int) ≤ (h27.2.1 70 4).toInt := (hv27.2.1 70 4).1
              have g115 : (h27.2.1 70 4).toInt ≤ 500 := (hv27.2.1 70 4).2
              have g116 : (-2147483648 : Int) ≤ (h27.2.1 70 5).toInt := (hv27.2.1 70 5).1
              have g117 : (h27.2.1 70 5).toInt ≤ 2147483647 := (hv27.2.1 70 5).2
              have g118 : (h27.2.1 70 4).toInt = u30.toInt := by rw [← (show u30 = h27.2.1 70 4 from u30w)] <;> exact (ti_rfl u30)
              have g119 : (h27.2.1 70 5).toInt = u31.toInt := by rw [← (show u31 = h27.2.1 70 5 from u31w)] <;> exact (ti_rfl u31)
              have pp120 : (h27.2.1 70 5).toInt = 0 → RD h27.2.1 S ∧ 1 ≤ V h27.2.1 76 S := (fun hg => absurd hg (by omega))
              subst hS
              exact gi_vret (pc := 65) ⟨rfl, ⟨_, hv27, sqx⟩, pp120, oh27, ck27⟩ hv27 dX8_readAll_65
          ·
            refine go_iload_n (pc := 37) rfl dX8_readAll_37 ?_
            refine go_bipush (pc := 38) (v := 65) (by decide) dX8_readAll_38 ?_
            refine go_aload_n (pc := 40) rfl dX8_readAll_40 ?_
            refine gi_getF (pc := 41) (q := 76) hv5 fL_X8_26 rfl (Nat.le_of_ble_eq_true rfl) rfl (hv5.rf (by decide)) dX8_readAll_41 ?_
            refine go_aload_n (pc := 44) rfl dX8_readAll_44 ?_
            refine gi_get (pc := 45) (lo := 0) (hi := 1) hv5 fL_X8_187 rfl (Nat.le_of_ble_eq_true rfl) rfl rfl dX8_readAll_45 (fun v121 v121l v121u v121w => ?_)
            have v121r : v18 = h5.2.1 70 6 := v18w
            have v121q : TI v121 v18.toInt := by rw [v121w.trans v121r.symm]; exact (ti_rfl v18)
            refine gi_iald (pc := 48) (lo := 0) (hi := 5) (len := 2) hv5 v121q rfl (by omega) (by omega) (fun _ => rfl) dX8_readAll_48 (fun v122 v122l v122u v122w => ?_)
            have v122V : v122.toInt = V h5.2.1 76 S := by rw [v122w, v18S]; rfl
            refine gf_iadd (pc := 49) (ti_c (v := 65) (a := 65) (by decide)) (ti_rfl v122) (by omega) (by omega) dX8_readAll_49 (fun v123 e124 => ?_)
            refine gf_icmp_eq (pc := 50) (tgt := 58) (ti_rfl v10) e124 (by decide) dX8_readAll_50 (fun q125 => ?_) (fun q125 => ?_)
            ·
              refine go_aload_n (pc := 58) rfl dX8_readAll_58 ?_
              refine go_invV (pc := 59) (sl := 0) (s_X8_isGood l (d + 23) hv5 ) mL_X8_172 iM_X8_isGood sM_X8_isGood (hv5.sh rfl) rfl rfl rfl (Nat.le_of_ble_eq_true rfl) (show d + 23 + 1 + 1 ≤ d + 25 by omega) (show 8 + (1 + 11) + 40 * (d + 23 + 1) ≤ 40 * (d + 25) by omega) (g_c0 hv5.ln) (Nat.le_of_ble_eq_true rfl) dX8_readAll_59 ?_
              intro r h126 hq _
              obtain ⟨v129, rfl, v129l, v129u, rfl, f127, f128⟩ := hq
              refine gf_if_ne (pc := 62) (tgt := 66) (ti_rfl v129) (by decide) dX8_readAll_62 (fun q130 => ?_) (fun q130 => ?_)
              ·
                refine go_aload_n (pc := 66) rfl dX8_readAll_66 ?_
                refine gi_getF (pc := 67) (q := 76) hv5 fL_X8_26 rfl (Nat.le_of_ble_eq_true rfl) rfl (hv5.rf (by decide)) dX8_readAll_67 ?_
                refine go_aload_n (pc := 70) rfl dX8_readAll_70 ?_
                refine gi_get (pc := 71) (lo := 0) (hi := 1) hv5 fL_X8_187 rfl (Nat.le_of_ble_eq_true rfl) rfl rfl dX8_readAll_71 (fun v131 v131l v131u v131w => ?_)
                have v131r : v18 = h5.2.1 70 6 := v18w
                have v131q : TI v131 v18.toInt := by rw [v131w.trans v131r.symm]; exact (ti_rfl v18)
                refine gi_iald (pc := 74) (lo := 0) (hi := 5) (len := 2) hv5 v131q rfl (by omega) (by omega) (fun _ => rfl) dX8_readAll_74 (fun v132 v132l v132u v132w => ?_)
                have v132V : v132.toInt = V h5.2.1 76 S := by rw [v132w, v18S]; rfl
                refine go_istore_n (pc := 75) (Nat.le_of_ble_eq_true rfl) dX8_readAll_75 (go_lv (lv2 := [(0, .ref 70), (1, .int v10), (2, .int v132)]) rfl ?_)
                refine go_aload_n (pc := 76) rfl dX8_readAll_76 ?_
                refine gi_getF (pc := 77) (q := 76) hv5 fL_X8_26 rfl (Nat.le_of_ble_eq_true rfl) rfl (hv5.rf (by decide)) dX8_readAll_77 ?_
                refine go_aload_n (pc := 80) rfl dX8_readAll_80 ?_
                refine gi_get (pc := 81) (lo := 0) (hi := 1) hv5 fL_X8_187 rfl (Nat.le_of_ble_eq_true rfl) rfl rfl dX8_readAll_81 (fun v133 v133l v133u v133w => ?_)
                have v133r : v18 = h5.2.1 70 6 := v18w
                have v133q : TI v133 v18.toInt := by rw [v133w.trans v133r.symm]; exact (ti_rfl v18)
                refine go_dup2 (pc := 84) rfl rfl dX8_readAll_84 ?_
                refine gi_iald (pc := 85) (lo := 0) (hi := 5) (len := 2) hv5 v133q rfl (by omega) (by omega) (fun _ => rfl) dX8_readAll_85 (fun v134 v134l v134u v134w => ?_)
                have v134V : v134.toInt = V h5.2.1 76 S := by rw [v134w, v18S]; rfl
                refine go_iconst (pc := 86) (v := 1) (by decide) dX8_readAll_86 ?_
                refine gf_iadd (pc := 87) (ti_rfl v134) (ti_c (v := 1) (a := 1) (by decide)) (by omega) (by omega) dX8_readAll_87 (fun v135 e136 => ?_)
                refine gi_fst (pc := 88) (lo := 0) (hi := 5) (len := 2) hv5 v133q e136 rfl (by omega) (by omega) (fun _ => rfl) (by omega) (by omega) (by omega) dX8_readAll_88 (fun h137 hv137 hv137e => ?_)
                refine go_aload_n (pc := 89) rfl dX8_readAll_89 ?_
                refine go_dup (pc := 90) rfl dX8_readAll_90 ?_
                refine gi_get (pc := 91) (lo := 0) (hi := 500) hv137 fL_X8_163 rfl (Nat.le_of_ble_eq_true rfl) rfl rfl dX8_readAll_91 (fun v138 v138l v138u v138w => ?_)
                have v138r : u11 = h137.2.1 70 4 := (show u11 = h137.2.1 70 4 from by rw [hv137e]; exact (g_iI rfl u11w.symm).symm)
                have v138q : TI v138 u11.toInt := by rw [v138w.trans v138r.symm]; exact (ti_rfl u11)
                refine go_iconst (pc := 94) (v := 1) (by decide) dX8_readAll_94 ?_
                refine gf_iadd (pc := 95) v138q (ti_c (v := 1) (a := 1) (by decide)) (by omega) (by omega) dX8_readAll_95 (fun v139 e140 => ?_)
                have E137 : h137.2.1 = (w1 h5.2.1 76 S (v135 : Int32)) := by
                  rw [hv137e]
                  rw [v18S]
                  rfl
                have oh137 : OH h.2.1 h137.2.1 S := by rw [E137]; exact (oh5.trans (OH.w 1 rfl (by omega) (by omega) (by omega) (by omega)))
                have n73_137 : V h137.2.1 73 S = V h5.2.1 73 S := by rw [E137, V_ne (by omega)]
                have n74_137 : V h137.2.1 74 S = V h5.2.1 74 S := by rw [E137, V_ne (by omega)]
                have n75_137 : V h137.2.1 75 S = V h5.2.1 75 S := by rw [E137, V_ne (by omega)]
                have ck137 : CKF h.2.1 → CKF h137.2.1 := fun z => by rw [E137]; exact (CKF.w (by omega) (ck5 z))
                refine gi_put (pc := 96) (lo := 0) (hi := 500) hv137 e140 (fP_X8_163 _) rfl (Nat.le_of_ble_eq_true rfl) rfl rfl (by omega) (by omega) rfl rfl (by decide) (by decide) (by decide) (by decide) dX8_readAll_96 (fun h141 hv141 hv141e => ?_)
                have ve141 : VE h137.2.1 h141.2.1 := VE.of hv137 hv141
                have oh141 : OH h.2.1 h141.2.1 S := oh137.trans (OH.of hv137 hv141 S)
                have ck141 : CKF h.2.1 → CKF h141.2.1 := fun z => CKF.ve ve141 (ck137 z)
                have n73_141 : V h141.2.1 73 S = V h137.2.1 73 S := ve141.v (by omega) (by omega)
                have n74_141 : V h141.2.1 74 S = V h137.2.1 74 S := ve141.v (by omega) (by omega)
                have n75_141 : V h141.2.1 75 S = V h137.2.1 75 S := ve141.v (by omega) (by omega)
                refine go_aload_n (pc := 99) rfl dX8_readAll_99 ?_
                refine gi_getF (pc := 100) (q := 94) hv141 fL_X8_80 rfl (Nat.le_of_ble_eq_true rfl) rfl (hv141.rf (by decide)) dX8_readAll_100 ?_
                refine go_iconst (pc := 103) (v := 5) (by decide) dX8_readAll_103 ?_
                refine go_aload_n (pc := 104) rfl dX8_readAll_104 ?_
                refine gi_get (pc := 105) (lo := 0) (hi := 1) hv141 fL_X8_187 rfl (Nat.le_of_ble_eq_true rfl) rfl rfl dX8_readAll_105 (fun v142 v142l v142u v142w => ?_)
                have v142r : v18 = h141.2.1 70 6 := (show v18 = h141.2.1 70 6 from by rw [hv141e]; exact (g_iI rfl (show v18 = h137.2.1 70 6 from by rw [hv137e]; exact (g_iI rfl v18w.symm).symm).symm).symm)
                have v142q : TI v142 v18.toInt := by rw [v142w.trans v142r.symm]; exact (ti_rfl v18)
                refine gf_imul (pc := 108) (ti_c (v := 5) (a := 5) (by decide)) v142q (by omega) (by omega) dX8_readAll_108 (fun v143 e144 => ?_)
                refine go_iload_n (pc := 109) rfl dX8_readAll_109 ?_
                refine gf_iadd (pc := 110) e144 (ti_rfl v132) (by omega) (by omega) dX8_readAll_110 (fun v145 e146 => ?_)
                refine go_aload_n (pc := 111) rfl dX8_readAll_111 ?_
                refine go_iconst (pc := 112) (v := (-1)) (by decide) dX8_readAll_112 ?_
                refine go_iload_n (pc := 113) rfl dX8_readAll_113 ?_
                refine go_iconst (pc := 114) (v := 0) (by decide) dX8_readAll_114 ?_
                have rdk : TR h141.2.1 S := (TR.ve ve141 (by rw [E137]; exact RD.w76 (RD.ve ve5 xrd)))
                have zq : (0 : Int32).toInt = 0 := by decide
                have zn : (-1 : Int32).toInt = -1 := by decide
                have sM147 : (h141.2.1 70 6).toInt = S := (congrArg Int32.toInt oh141.side).trans hS.symm
                have g148 : (0 : Int) ≤ (h141.2.1 70 4).toInt := (hv141.2.1 70 4).1
                have g149 : (h141.2.1 70 4).toInt ≤ 500 := (hv141.2.1 70 4).2
                have g150 : (-2147483648 : Int) ≤ (h141.2.1 70 5).toInt := (hv141.2.1 70 5).1
                have g151 : (h141.2.1 70 5).toInt ≤ 2147483647 := (hv141.2.1 70 5).2
                have g152 : (h141.2.1 70 5).toInt = u12.toInt := by rw [← (show u12 = h141.2.1 70 5 from (show u12 = h141.2.1 70 5 from by rw [hv141e]; exact (g_iI rfl (show u12 = h137.2.1 70 5 from by rw [hv137e]; exact (g_iI rfl u12w.symm).symm).symm).symm))] <;> exact (ti_rfl u12)
                have g153 : (h141.2.1 70 4).toInt = (u11.toInt + 1) := by rw [← (show v139 = h141.2.1 70 4 from (show v139 = h141.2.1 70 4 from by rw [hv141e]; exact g_iS.symm))] <;> exact e140
                refine go_invV (pc := 115) (sl := 0) (s_X8_readBlock l (d + 0) hv141 (-1) (by rw [show ((-1) : Int32).toInt = (-1) from (ti_c (v := (-1)) (a := (-1)) (by decide))]; omega) (by rw [show ((-1) : Int32).toInt = (-1) from (ti_c (v := (-1)) (a := (-1)) (by decide))]; omega) v132 (by rw [show (v132 : Int32).toInt = v132.toInt from (ti_rfl v132)]; omega) (by rw [show (v132 : Int32).toInt = v132.toInt from (ti_rfl v132)]; omega) 0 (by rw [show (0 : Int32).toInt = 0 from (ti_c (v := 0) (a := 0) (by decide))]; omega) (by rw [show (0 : Int32).toInt = 0 from (ti_c (v := 0) (a := 0) (by decide))]; omega) (by rw [sM147]; exact (fun _ => by omega)) (by rw [sM147]; exact (fun _ => ⟨rdk, Or.inl ⟨by omega, by omega⟩⟩))) mL_X8_224 iM_X8_readBlock sM_X8_readBlock (hv141.sh rfl) rfl rfl rfl (Nat.le_of_ble_eq_true rfl) (show d + 0 + 24 + 1 ≤ d + 25 by omega) (show 8 + (5 + 11) + 40 * (d + 0 + 24) ≤ 40 * (d + 25) by omega) (g_c0 hv141.ln) (Nat.le_of_ble_eq_true rfl) dX8_readAll_115 ?_
                intro r h154 hq _
                obtain ⟨v164, rfl, v164l, v164u, ⟨Q155, hv154, sq156⟩, f157, f158, f159, f160, f161, f162, f163⟩ := hq
                rw [sM147] at f159
                rw [sM147] at f160
                rw [sM147] at f162
                have oh154 : OH h.2.1 h154.2.1 S := oh141.trans f162
                have ck154 : CKF h.2.1 → CKF h154.2.1 := fun z => f163 (ck141 z)
                try rw [show ((-1) : Int32).toInt = (-1) from (ti_c (v := (-1)) (a := (-1)) (by decide))] at f157
                try rw [show (0 : Int32).toInt = 0 from (ti_c (v := 0) (a := 0) (by decide))] at f157
                try rw [show ((-1) : Int32).toInt = (-1) from (ti_c (v := (-1)) (a := (-1)) (by decide))] at f158
                try rw [show (0 : Int32).toInt = 0 from (ti_c (v := 0) (a := 0) (by decide))] at f158
                try rw [show ((-1) : Int32).toInt = (-1) from (ti_c (v := (-1)) (a := (-1)) (by decide))] at f159
                try rw [show (0 : Int32).toInt = 0 from (ti_c (v := 0) (a := 0) (by decide))] at f159
                try rw [show ((-1) : Int32).toInt = (-1) from (ti_c (v := (-1)) (a := (-1)) (by decide))] at f160
                try rw [show (0 : Int32).toInt = 0 from (ti_c (v := 0) (a := 0) (by decide))] at f160
                try rw [show ((-1) : Int32).toInt = (-1) from (ti_c (v := (-1)) (a := (-1)) (by decide))] at f161
                try rw [show (0 : Int32).toInt = 0 from (ti_c (v := 0) (a := 0) (by decide))] at f161
                try rw [show ((-1) : Int32).toInt = (-1) from (ti_c (v := (-1)) (a := (-1)) (by decide))] at f162
                try rw [show (0 : Int32).toInt = 0 from (ti_c (v := 0) (a := 0) (by decide))] at f162
                try rw [show ((-1) : Int32).toInt = (-1) from (ti_c (v := (-1)) (a := (-1)) (by decide))] at f163
                try rw [show (0 : Int32).toInt = 0 from (ti_c (v := 0) (a := 0) (by decide))] at f163
                obtain ⟨u165, u165w⟩ : ∃ v : Int32, v = h154.2.1 70 4 := ⟨_, rfl⟩
                have u165e : (h154.2.1 70 4).toInt = u165.toInt := by rw [u165w]
                have u165l : 0 ≤ u165.toInt := by rw [u165w]; exact (hv154.2.1 70 4).1
                have u165u : u165.toInt ≤ 500 := by rw [u165w]; exact (hv154.2.1 70 4).2
                obtain ⟨u166, u166w⟩ : ∃ v : Int32, v = h154.2.1 70 5 := ⟨_, rfl⟩
                have u166e : (h154.2.1 70 5).toInt = u166.toInt := by rw [u166w]
                have u166l : -2147483648 ≤ u166.toInt := by rw [u166w]; exact (hv154.2.1 70 5).1
                have u166u : u166.toInt ≤ 2147483647 := by rw [u166w]; exact (hv154.2.1 70 5).2
                refine gi_fst (pc := 118) (lo := 0) (hi := 559) (len := 10) hv154 e146 (ti_rfl v164) rfl (by omega) (by omega) (fun _ => rfl) (by omega) (by omega) (by omega) dX8_readAll_118 (fun h167 hv167 hv167e => ?_)
                refine go_aload_n (pc := 119) rfl dX8_readAll_119 ?_
                refine go_invV (pc := 120) (sl := 0) (s_X8_isGood l (d + 23) hv167 ) mL_X8_172 iM_X8_isGood sM_X8_isGood (hv167.sh rfl) rfl rfl rfl (Nat.le_of_ble_eq_true rfl) (show d + 23 + 1 + 1 ≤ d + 25 by omega) (show 8 + (1 + 11) + 40 * (d + 23 + 1) ≤ 40 * (d + 25) by omega) (g_c0 hv167.ln) (Nat.le_of_ble_eq_true rfl) dX8_readAll_120 ?_
                intro r h168 hq _
                obtain ⟨v171, rfl, v171l, v171u, rfl, f169, f170⟩ := hq
                have E167 : h167.2.1 = (w1 h154.2.1 94 (((5 * S) + v132.toInt)) (v164 : Int32)) := by
                  rw [hv167e]
                  rw [v18S]
                  rfl
                have oh167 : OH h.2.1 h167.2.1 S := by rw [E167]; exact (oh154.trans (OH.w 5 rfl (by omega) (by omega) (by omega) (by omega)))
                have n73_167 : V h167.2.1 73 S = V h154.2.1 73 S := by rw [E167, V_ne (by omega)]
                have n74_167 : V h167.2.1 74 S = V h154.2.1 74 S := by rw [E167, V_ne (by omega)]
                have n75_167 : V h167.2.1 75 S = V h154.2.1 75 S := by rw [E167, V_ne (by omega)]
                have ck167 : CKF h.2.1 → CKF h167.2.1 := fun z => by rw [E167]; exact (CKF.w (by omega) (ck154 z))
                refine gf_if_eq (pc := 123) (tgt := 134) (ti_rfl v171) (by decide) dX8_readAll_123 (fun q172 => ?_) (fun q172 => ?_)
                ·
                  have g173 : (0 : Int) ≤ (h167.2.1 70 4).toInt := (hv167.2.1 70 4).1
                  have g174 : (h167.2.1 70 4).toInt ≤ 500 := (hv167.2.1 70 4).2
                  have g175 : (-2147483648 : Int) ≤ (h167.2.1 70 5).toInt := (hv167.2.1 70 5).1
                  have g176 : (h167.2.1 70 5).toInt ≤ 2147483647 := (hv167.2.1 70 5).2
                  have g177 : (h167.2.1 70 4).toInt = u165.toInt := by rw [← (show u165 = h167.2.1 70 4 from (show u165 = h167.2.1 70 4 from by rw [hv167e]; exact (g_iI rfl u165w.symm).symm))] <;> exact (ti_rfl u165)
                  have g178 : (h167.2.1 70 5).toInt = u166.toInt := by rw [← (show u166 = h167.2.1 70 5 from (show u166 = h167.2.1 70 5 from by rw [hv167e]; exact (g_iI rfl u166w.symm).symm))] <;> exact (ti_rfl u166)
                  have v76 : V h167.2.1 76 S = (v134.toInt + 1) := by rw [E167, V_ne (by omega), f161.v (by omega), ve141.v (by omega) (by omega), E137, V_eq]; exact e136
                  have pp179 : (h167.2.1 70 5).toInt = 0 → RD h167.2.1 S ∧ 1 ≤ V h167.2.1 76 S := (fun hg => ⟨(show RD h167.2.1 S from by rw [E167]; exact RD.proc (x := (v135 : Int32)) S0 (RD.ve ve5 xrd) (by rw [show (v135 : Int32).toInt = (v134.toInt + 1) from e136]; omega) (by rw [← E137]; exact ve141) (f160 (by omega)) f161 (by omega) rfl), by omega⟩)
                  subst hS
                  exact gi_vret (pc := 134) ⟨rfl, ⟨_, hv167, (MW.trans (MW.trans (MW.trans sqx (MW.mz _ _)) sq156) (MW.mz _ _))⟩, pp179, oh167, ck167⟩ hv167 dX8_readAll_134
                ·
                  refine go_aload_n (pc := 126) rfl dX8_readAll_126 ?_
                  have g180 : (0 : Int) ≤ (h167.2.1 70 4).toInt := (hv167.2.1 70 4).1
                  have g181 : (h167.2.1 70 4).toInt ≤ 500 := (hv167.2.1 70 4).2
                  have g182 : (-2147483648 : Int) ≤ (h167.2.1 70 5).toInt := (hv167.2.1 70 5).1
                  have g183 : (h167.2.1 70 5).toInt ≤ 2147483647 := (hv167.2.1 70 5).2
                  have g184 : (h167.2.1 70 4).toInt = u165.toInt := by rw [← (show u165 = h167.2.1 70 4 from (show u165 = h167.2.1 70 4 from by rw [hv167e]; exact (g_iI rfl u165w.symm).symm))] <;> exact (ti_rfl u165)
                  have g185 : (h167.2.1 70 5).toInt = u166.toInt := by rw [← (show u166 = h167.2.1 70 5 from (show u166 = h167.2.1 70 5 from by rw [hv167e]; exact (g_iI rfl u166w.symm).symm))] <;> exact (ti_rfl u166)
                  refine go_invV (pc := 127) (sl := 0) (s_X8_here l (d + 23) hv167 ) mL_X8_176 iM_X8_here sM_X8_here (hv167.sh rfl) rfl rfl rfl (Nat.le_of_ble_eq_true rfl) (show d + 23 + 1 + 1 ≤ d + 25 by omega) (show 8 + (1 + 11) + 40 * (d + 23 + 1) ≤ 40 * (d + 25) by omega) (g_c0 hv167.ln) (Nat.le_of_ble_eq_true rfl) dX8_readAll_127 ?_
                  intro r h186 hq _
                  obtain ⟨v191, rfl, v191l, v191u, hv186, f187, f188, f189, f190⟩ := hq
                  have ve186 : VE h167.2.1 h186.2.1 := VE.of hv167 hv186
                  have oh186 : OH h.2.1 h186.2.1 S := oh167.trans (OH.of hv167 hv186 S)
                  have ck186 : CKF h.2.1 → CKF h186.2.1 := fun z => CKF.ve ve186 (ck167 z)
                  have n73_186 : V h186.2.1 73 S = V h167.2.1 73 S := ve186.v (by omega) (by omega)
                  have n74_186 : V h186.2.1 74 S = V h167.2.1 74 S := ve186.v (by omega) (by omega)
                  have n75_186 : V h186.2.1 75 S = V h167.2.1 75 S := ve186.v (by omega) (by omega)
                  obtain ⟨u192, u192w⟩ : ∃ v : Int32, v = h186.2.1 70 4 := ⟨_, rfl⟩
                  have u192e : (h186.2.1 70 4).toInt = u192.toInt := by rw [u192w]
                  have u192l : 0 ≤ u192.toInt := by rw [u192w]; exact (hv186.2.1 70 4).1
                  have u192u : u192.toInt ≤ 500 := by rw [u192w]; exact (hv186.2.1 70 4).2
                  obtain ⟨u193, u193w⟩ : ∃ v : Int32, v = h186.2.1 70 5 := ⟨_, rfl⟩
                  have u193e : (h186.2.1 70 5).toInt = u193.toInt := by rw [u193w]
                  have u193l : -2147483648 ≤ u193.toInt := by rw [u193w]; exact (hv186.2.1 70 5).1
                  have u193u : u193.toInt ≤ 2147483647 := by rw [u193w]; exact (hv186.2.1 70 5).2
                  refine go_iconst (pc := 130) (v := (-1)) (by decide) dX8_readAll_130 ?_
                  refine gf_icmp_ne (pc := 131) (tgt := 0) (ti_rfl v191) (ti_c (v := (-1)) (a := (-1)) (by decide)) (by decide) dX8_readAll_131 (fun q194 => ?_) (fun q194 => ?_)
                  ·
                    have g195 : (0 : Int) ≤ (h186.2.1 70 4).toInt := (hv186.2.1 70 4).1
                    have g196 : (h186.2.1 70 4).toInt ≤ 500 := (hv186.2.1 70 4).2
                    have g197 : (-2147483648 : Int) ≤ (h186.2.1 70 5).toInt := (hv186.2.1 70 5).1
                    have g198 : (h186.2.1 70 5).toInt ≤ 2147483647 := (hv186.2.1 70 5).2
                    have g199 : (h186.2.1 70 4).toInt = u192.toInt := by rw [← (show u192 = h186.2.1 70 4 from u192w)] <;> exact (ti_rfl u192)
                    have g200 : (h186.2.1 70 5).toInt = u193.toInt := by rw [← (show u193 = h186.2.1 70 5 from u193w)] <;> exact (ti_rfl u193)
                    exact go_lv rfl (ih  _ h186 hv186 (MW.trans (MW.trans (MW.trans sqx (MW.mz _ _)) sq156) (MW.mz _ _)) (by omega) (RD.ve ve186 (show RD h167.2.1 S from by rw [E167]; exact RD.proc (x := (v135 : Int32)) S0 (RD.ve ve5 xrd) (by rw [show (v135 : Int32).toInt = (v134.toInt + 1) from e136]; omega) (by rw [← E137]; exact ve141) (f160 (by omega)) f161 (by omega) rfl)) (by omega) (by omega) oh186 ck186 (by omega) (by omega) (by omega) (by omega) (by omega))
                  ·
                    have g201 : (0 : Int) ≤ (h186.2.1 70 4).toInt := (hv186.2.1 70 4).1
                    have g202 : (h186.2.1 70 4).toInt ≤ 500 := (hv186.2.1 70 4).2
                    have g203 : (-2147483648 : Int) ≤ (h186.2.1 70 5).toInt := (hv186.2.1 70 5).1
                    have g204 : (h186.2.1 70 5).toInt ≤ 2147483647 := (hv186.2.1 70 5).2
                    have g205 : (h186.2.1 70 4).toInt = u192.toInt := by rw [← (show u192 = h186.2.1 70 4 from u192w)] <;> exact (ti_rfl u192)
                    have g206 : (h186.2.1 70 5).toInt = u193.toInt := by rw [← (show u193 = h186.2.1 70 5 from u193w)] <;> exact (ti_rfl u193)
                    have v76 : V h186.2.1 76 S = (v134.toInt + 1) := by rw [ve186.v (by omega) (by omega), E167, V_ne (by omega), f161.v (by omega), ve141.v (by omega) (by omega), E137, V_eq]; exact e136
                    have pp207 : (h186.2.1 70 5).toInt = 0 → RD h186.2.1 S ∧ 1 ≤ V h186.2.1 76 S := (fun hg => ⟨(RD.ve ve186 (show RD h167.2.1 S from by rw [E167]; exact RD.proc (x := (v135 : Int32)) S0 (RD.ve ve5 xrd) (by rw [show (v135 : Int32).toInt = (v134.toInt + 1) from e136]; omega) (by rw [← E137]; exact ve141) (f160 (by omega)) f161 (by omega) rfl)), by omega⟩)
                    subst hS
                    exact gi_vret (pc := 134) ⟨rfl, ⟨_, hv186, (MW.trans (MW.trans (MW.trans sqx (MW.mz _ _)) sq156) (MW.mz _ _))⟩, pp207, oh186, ck186⟩ hv186 dX8_readAll_134
              ·
                have g208 : (0 : Int) ≤ (h5.2.1 70 4).toInt := (hv5.2.1 70 4).1
                have g209 : (h5.2.1 70 4).toInt ≤ 500 := (hv5.2.1 70 4).2
                have g210 : (-2147483648 : Int) ≤ (h5.2.1 70 5).toInt := (hv5.2.1 70 5).1
                have g211 : (h5.2.1 70 5).toInt ≤ 2147483647 := (hv5.2.1 70 5).2
                have g212 : (h5.2.1 70 4).toInt = u11.toInt := by rw [← (show u11 = h5.2.1 70 4 from u11w)] <;> exact (ti_rfl u11)
                have g213 : (h5.2.1 70 5).toInt = u12.toInt := by rw [← (show u12 = h5.2.1 70 5 from u12w)] <;> exact (ti_rfl u12)
                have pp214 : (h5.2.1 70 5).toInt = 0 → RD h5.2.1 S ∧ 1 ≤ V h5.2.1 76 S := (fun hg => absurd hg (by omega))
                subst hS
                exact gi_vret (pc := 65) ⟨rfl, ⟨_, hv5, sqx⟩, pp214, oh5, ck5⟩ hv5 dX8_readAll_65
            ·
              refine go_aload_n (pc := 53) rfl dX8_readAll_53 ?_
              refine go_iconst (pc := 54) (v := 3) (by decide) dX8_readAll_54 ?_
              have g215 : (0 : Int) ≤ (h5.2.1 70 4).toInt := (hv5.2.1 70 4).1
              have g216 : (h5.2.1 70 4).toInt ≤ 500 := (hv5.2.1 70 4).2
              have g217 : (-2147483648 : Int) ≤ (h5.2.1 70 5).toInt := (hv5.2.1 70 5).1
              have g218 : (h5.2.1 70 5).toInt ≤ 2147483647 := (hv5.2.1 70 5).2
              have g219 : (h5.2.1 70 4).toInt = u11.toInt := by rw [← (show u11 = h5.2.1 70 4 from u11w)] <;> exact (ti_rfl u11)
              have g220 : (h5.2.1 70 5).toInt = u12.toInt := by rw [← (show u12 = h5.2.1 70 5 from u12w)] <;> exact (ti_rfl u12)
              refine go_invV (pc := 55) (sl := 0) (s_X8_fails l (d + 23) hv5 3 (by rw [show (3 : Int32).toInt = 3 from (ti_c (v := 3) (a := 3) (by decide))]; omega) (by rw [show (3 : Int32).toInt = 3 from (ti_c (v := 3) (a := 3) (by decide))]; omega)) mL_X8_180 iM_X8_fails sM_X8_fails (hv5.sh rfl) rfl rfl rfl (Nat.le_of_ble_eq_true rfl) (show d + 23 + 1 + 1 ≤ d + 25 by omega) (show 8 + (2 + 11) + 40 * (d + 23 + 1) ≤ 40 * (d + 25) by omega) (g_c0 hv5.ln) (Nat.le_of_ble_eq_true rfl) dX8_readAll_55 ?_
              intro r h221 hq _
              obtain ⟨rfl, hv221, f222, f223⟩ := hq
              try rw [show (3 : Int32).toInt = 3 from (ti_c (v := 3) (a := 3) (by decide))] at f222
              try rw [show (3 : Int32).toInt = 3 from (ti_c (v := 3) (a := 3) (by decide))] at f223
              have ve221 : VE h5.2.1 h221.2.1 := VE.of hv5 hv221
              have oh221 : OH h.2.1 h221.2.1 S := oh5.trans (OH.of hv5 hv221 S)
              have ck221 : CKF h.2.1 → CKF h221.2.1 := fun z => CKF.ve ve221 (ck5 z)
              have n73_221 : V h221.2.1 73 S = V h5.2.1 73 S := ve221.v (by omega) (by omega)
              have n74_221 : V h221.2.1 74 S = V h5.2.1 74 S := ve221.v (by omega) (by omega)
              have n75_221 : V h221.2.1 75 S = V h5.2.1 75 S := ve221.v (by omega) (by omega)
              obtain ⟨u224, u224w⟩ : ∃ v : Int32, v = h221.2.1 70 4 := ⟨_, rfl⟩
              have u224e : (h221.2.1 70 4).toInt = u224.toInt := by rw [u224w]
              have u224l : 0 ≤ u224.toInt := by rw [u224w]; exact (hv221.2.1 70 4).1
              have u224u : u224.toInt ≤ 500 := by rw [u224w]; exact (hv221.2.1 70 4).2
              obtain ⟨u225, u225w⟩ : ∃ v : Int32, v = h221.2.1 70 5 := ⟨_, rfl⟩
              have u225e : (h221.2.1 70 5).toInt = u225.toInt := by rw [u225w]
              have u225l : -2147483648 ≤ u225.toInt := by rw [u225w]; exact (hv221.2.1 70 5).1
              have u225u : u225.toInt ≤ 2147483647 := by rw [u225w]; exact (hv221.2.1 70 5).2
              refine go_aload_n (pc := 58) rfl dX8_readAll_58 ?_
              refine go_invV (pc := 59) (sl := 0) (s_X8_isGood l (d + 23) hv221 ) mL_X8_172 iM_X8_isGood sM_X8_isGood (hv221.sh rfl) rfl rfl rfl (Nat.le_of_ble_eq_true rfl) (show d + 23 + 1 + 1 ≤ d + 25 by omega) (show 8 + (1 + 11) + 40 * (d + 23 + 1) ≤ 40 * (d + 25) by omega) (g_c0 hv221.ln) (Nat.le_of_ble_eq_true rfl) dX8_readAll_59 ?_
              intro r h226 hq _
              obtain ⟨v229, rfl, v229l, v229u, rfl, f227, f228⟩ := hq
              refine gf_if_ne (pc := 62) (tgt := 66) (ti_rfl v229) (by decide) dX8_readAll_62 (fun q230 => ?_) (fun q230 => ?_)
              ·
                refine go_aload_n (pc := 66) rfl dX8_readAll_66 ?_
                refine gi_getF (pc := 67) (q := 76) hv221 fL_X8_26 rfl (Nat.le_of_ble_eq_true rfl) rfl (hv221.rf (by decide)) dX8_readAll_67 ?_
                refine go_aload_n (pc := 70) rfl dX8_readAll_70 ?_
                refine gi_get (pc := 71) (lo := 0) (hi := 1) hv221 fL_X8_187 rfl (Nat.le_of_ble_eq_true rfl) rfl rfl dX8_readAll_71 (fun v231 v231l v231u v231w => ?_)
                have v231S : v231.toInt = S := by rw [v231w]; exact (congrArg Int32.toInt oh221.side).trans hS.symm
                refine gi_iald (pc := 74) (lo := 0) (hi := 5) (len := 2) hv221 (ti_rfl v231) rfl (by omega) (by omega) (fun _ => rfl) dX8_readAll_74 (fun v232 v232l v232u v232w => ?_)
                have v232V : v232.toInt = V h221.2.1 76 S := by rw [v232w, v231S]; rfl
                refine go_istore_n (pc := 75) (Nat.le_of_ble_eq_true rfl) dX8_readAll_75 (go_lv (lv2 := [(0, .ref 70), (1, .int v10), (2, .int v232)]) rfl ?_)
                refine go_aload_n (pc := 76) rfl dX8_readAll_76 ?_
                refine gi_getF (pc := 77) (q := 76) hv221 fL_X8_26 rfl (Nat.le_of_ble_eq_true rfl) rfl (hv221.rf (by decide)) dX8_readAll_77 ?_
                refine go_aload_n (pc := 80) rfl dX8_readAll_80 ?_
                refine gi_get (pc := 81) (lo := 0) (hi := 1) hv221 fL_X8_187 rfl (Nat.le_of_ble_eq_true rfl) rfl rfl dX8_readAll_81 (fun v233 v233l v233u v233w => ?_)
                have v233r : v231 = h221.2.1 70 6 := v231w
                have v233q : TI v233 v231.toInt := by rw [v233w.trans v233r.symm]; exact (ti_rfl v231)
                refine go_dup2 (pc := 84) rfl rfl dX8_readAll_84 ?_
                refine gi_iald (pc := 85) (lo := 0) (hi := 5) (len := 2) hv221 v233q rfl (by omega) (by omega) (fun _ => rfl) dX8_readAll_85 (fun v234 v234l v234u v234w => ?_)
                have v234V : v234.toInt = V h221.2.1 76 S := by rw [v234w, v231S]; rfl
                refine go_iconst (pc := 86) (v := 1) (by decide) dX8_readAll_86 ?_
                refine gf_iadd (pc := 87) (ti_rfl v234) (ti_c (v := 1) (a := 1) (by decide)) (by omega) (by omega) dX8_readAll_87 (fun v235 e236 => ?_)
                refine gi_fst (pc := 88) (lo := 0) (hi := 5) (len := 2) hv221 v233q e236 rfl (by omega) (by omega) (fun _ => rfl) (by omega) (by omega) (by omega) dX8_readAll_88 (fun h237 hv237 hv237e => ?_)
                refine go_aload_n (pc := 89) rfl dX8_readAll_89 ?_
                refine go_dup (pc := 90) rfl dX8_readAll_90 ?_
                refine gi_get (pc := 91) (lo := 0) (hi := 500) hv237 fL_X8_163 rfl (Nat.le_of_ble_eq_true rfl) rfl rfl dX8_readAll_91 (fun v238 v238l v238u v238w => ?_)
                have v238r : u224 = h237.2.1 70 4 := (show u224 = h237.2.1 70 4 from by rw [hv237e]; exact (g_iI rfl u224w.symm).symm)
                have v238q : TI v238 u224.toInt := by rw [v238w.trans v238r.symm]; exact (ti_rfl u224)
                refine go_iconst (pc := 94) (v := 1) (by decide) dX8_readAll_94 ?_
                refine gf_iadd (pc := 95) v238q (ti_c (v := 1) (a := 1) (by decide)) (by omega) (by omega) dX8_readAll_95 (fun v239 e240 => ?_)
                have E237 : h237.2.1 = (w1 h221.2.1 76 S (v235 : Int32)) := by
                  rw [hv237e]
                  rw [v231S]
                  rfl
                have oh237 : OH h.2.1 h237.2.1 S := by rw [E237]; exact (oh221.trans (OH.w 1 rfl (by omega) (by omega) (by omega) (by omega)))
                have n73_237 : V h237.2.1 73 S = V h221.2.1 73 S := by rw [E237, V_ne (by omega)]
                have n74_237 : V h237.2.1 74 S = V h221.2.1 74 S := by rw [E237, V_ne (by omega)]
                have n75_237 : V h237.2.1 75 S = V h221.2.1 75 S := by rw [E237, V_ne (by omega)]
                have ck237 : CKF h.2.1 → CKF h237.2.1 := fun z => by rw [E237]; exact (CKF.w (by omega) (ck221 z))
                refine gi_put (pc := 96) (lo := 0) (hi := 500) hv237 e240 (fP_X8_163 _) rfl (Nat.le_of_ble_eq_true rfl) rfl rfl (by omega) (by omega) rfl rfl (by decide) (by decide) (by decide) (by decide) dX8_readAll_96 (fun h241 hv241 hv241e => ?_)
                have ve241 : VE h237.2.1 h241.2.1 := VE.of hv237 hv241
                have oh241 : OH h.2.1 h241.2.1 S := oh237.trans (OH.of hv237 hv241 S)
                have ck241 : CKF h.2.1 → CKF h241.2.1 := fun z => CKF.ve ve241 (ck237 z)
                have n73_241 : V h241.2.1 73 S = V h237.2.1 73 S := ve241.v (by omega) (by omega)
                have n74_241 : V h241.2.1 74 S = V h237.2.1 74 S := ve241.v (by omega) (by omega)
                have n75_241 : V h241.2.1 75 S = V h237.2.1 75 S := ve241.v (by omega) (by omega)
                refine go_aload_n (pc := 99) rfl dX8_readAll_99 ?_
                refine gi_getF (pc := 100) (q := 94) hv241 fL_X8_80 rfl (Nat.le_of_ble_eq_true rfl) rfl (hv241.rf (by decide)) dX8_readAll_100 ?_
                refine go_iconst (pc := 103) (v := 5) (by decide) dX8_readAll_103 ?_
                refine go_aload_n (pc := 104) rfl dX8_readAll_104 ?_
                refine gi_get (pc := 105) (lo := 0) (hi := 1) hv241 fL_X8_187 rfl (Nat.le_of_ble_eq_true rfl) rfl rfl dX8_readAll_105 (fun v242 v242l v242u v242w => ?_)
                have v242r : v231 = h241.2.1 70 6 := (show v231 = h241.2.1 70 6 from by rw [hv241e]; exact (g_iI rfl (show v231 = h237.2.1 70 6 from by rw [hv237e]; exact (g_iI rfl v231w.symm).symm).symm).symm)
                have v242q : TI v242 v231.toInt := by rw [v242w.trans v242r.symm]; exact (ti_rfl v231)
                refine gf_imul (pc := 108) (ti_c (v := 5) (a := 5) (by decide)) v242q (by omega) (by omega) dX8_readAll_108 (fun v243 e244 => ?_)
                refine go_iload_n (pc := 109) rfl dX8_readAll_109 ?_
                refine gf_iadd (pc := 110) e244 (ti_rfl v232) (by omega) (by omega) dX8_readAll_110 (fun v245 e246 => ?_)
                refine go_aload_n (pc := 111) rfl dX8_readAll_111 ?_
                refine go_iconst (pc := 112) (v := (-1)) (by decide) dX8_readAll_112 ?_
                refine go_iload_n (pc := 113) rfl dX8_readAll_113 ?_
                refine go_iconst (pc := 114) (v := 0) (by decide) dX8_readAll_114 ?_
                have rdk : TR h241.2.1 S := (TR.ve ve241 (by rw [E237]; exact RD.w76 (RD.ve ve221 (RD.ve ve5 xrd))))
                have zq : (0 : Int32).toInt = 0 := by decide
                have zn : (-1 : Int32).toInt = -1 := by decide
                have sM247 : (h241.2.1 70 6).toInt = S := (congrArg Int32.toInt oh241.side).trans hS.symm
                have g248 : (0 : Int) ≤ (h241.2.1 70 4).toInt := (hv241.2.1 70 4).1
                have g249 : (h241.2.1 70 4).toInt ≤ 500 := (hv241.2.1 70 4).2
                have g250 : (-2147483648 : Int) ≤ (h241.2.1 70 5).toInt := (hv241.2.1 70 5).1
                have g251 : (h241.2.1 70 5).toInt ≤ 2147483647 := (hv241.2.1 70 5).2
                have g252 : (h241.2.1 70 5).toInt = u225.toInt := by rw [← (show u225 = h241.2.1 70 5 from (show u225 = h241.2.1 70 5 from by rw [hv241e]; exact (g_iI rfl (show u225 = h237.2.1 70 5 from by rw [hv237e]; exact (g_iI rfl u225w.symm).symm).symm).symm))] <;> exact (ti_rfl u225)
                have g253 : (h241.2.1 70 4).toInt = (u224.toInt + 1) := by rw [← (show v239 = h241.2.1 70 4 from (show v239 = h241.2.1 70 4 from by rw [hv241e]; exact g_iS.symm))] <;> exact e240
                refine go_invV (pc := 115) (sl := 0) (s_X8_readBlock l (d + 0) hv241 (-1) (by rw [show ((-1) : Int32).toInt = (-1) from (ti_c (v := (-1)) (a := (-1)) (by decide))]; omega) (by rw [show ((-1) : Int32).toInt = (-1) from (ti_c (v := (-1)) (a := (-1)) (by decide))]; omega) v232 (by rw [show (v232 : Int32).toInt = v232.toInt from (ti_rfl v232)]; omega) (by rw [show (v232 : Int32).toInt = v232.toInt from (ti_rfl v232)]; omega) 0 (by rw [show (0 : Int32).toInt = 0 from (ti_c (v := 0) (a := 0) (by decide))]; omega) (by rw [show (0 : Int32).toInt = 0 from (ti_c (v := 0) (a := 0) (by decide))]; omega) (by rw [sM247]; exact (fun _ => by omega)) (by rw [sM247]; exact (fun _ => ⟨rdk, Or.inl ⟨by omega, by omega⟩⟩))) mL_X8_224 iM_X8_readBlock sM_X8_readBlock (hv241.sh rfl) rfl rfl rfl (Nat.le_of_ble_eq_true rfl) (show d + 0 + 24 + 1 ≤ d + 25 by omega) (show 8 + (5 + 11) + 40 * (d + 0 + 24) ≤ 40 * (d + 25) by omega) (g_c0 hv241.ln) (Nat.le_of_ble_eq_true rfl) dX8_readAll_115 ?_
                intro r h254 hq _
                obtain ⟨v264, rfl, v264l, v264u, ⟨Q255, hv254, sq256⟩, f257, f258, f259, f260, f261, f262, f263⟩ := hq
                rw [sM247] at f259
                rw [sM247] at f260
                rw [sM247] at f262
                have oh254 : OH h.2.1 h254.2.1 S := oh241.trans f262
                have ck254 : CKF h.2.1 → CKF h254.2.1 := fun z => f263 (ck241 z)
                try rw [show ((-1) : Int32).toInt = (-1) from (ti_c (v := (-1)) (a := (-1)) (by decide))] at f257
                try rw [show (0 : Int32).toInt = 0 from (ti_c (v := 0) (a := 0) (by decide))] at f257
                try rw [show ((-1) : Int32).toInt = (-1) from (ti_c (v := (-1)) (a := (-1)) (by decide))] at f258
                try rw [show (0 : Int32).toInt = 0 from (ti_c (v := 0) (a := 0) (by decide))] at f258
                try rw [show ((-1) : Int32).toInt = (-1) from (ti_c (v := (-1)) (a := (-1)) (by decide))] at f259
                try rw [show (0 : Int32).toInt = 0 from (ti_c (v := 0) (a := 0) (by decide))] at f259
                try rw [show ((-1) : Int32).toInt = (-1) from (ti_c (v := (-1)) (a := (-1)) (by decide))] at f260
                try rw [show (0 : Int32).toInt = 0 from (ti_c (v := 0) (a := 0) (by decide))] at f260
                try rw [show ((-1) : Int32).toInt = (-1) from (ti_c (v := (-1)) (a := (-1)) (by decide))] at f261
                try rw [show (0 : Int32).toInt = 0 from (ti_c (v := 0) (a := 0) (by decide))] at f261
                try rw [show ((-1) : Int32).toInt = (-1) from (ti_c (v := (-1)) (a := (-1)) (by decide))] at f262
                try rw [show (0 : Int32).toInt = 0 from (ti_c (v := 0) (a := 0) (by decide))] at f262
                try rw [show ((-1) : Int32).toInt = (-1) from (ti_c (v := (-1)) (a := (-1)) (by decide))] at f263
                try rw [show (0 : Int32).toInt = 0 from (ti_c (v := 0) (a := 0) (by decide))] at f263
                obtain ⟨u265, u265w⟩ : ∃ v : Int32, v = h254.2.1 70 4 := ⟨_, rfl⟩
                have u265e : (h254.2.1 70 4).toInt = u265.toInt := by rw [u265w]
                have u265l : 0 ≤ u265.toInt := by rw [u265w]; exact (hv254.2.1 70 4).1
                have u265u : u265.toInt ≤ 500 := by rw [u265w]; exact (hv254.2.1 70 4).2
                obtain ⟨u266, u266w⟩ : ∃ v : Int32, v = h254.2.1 70 5 := ⟨_, rfl⟩
                have u266e : (h254.2.1 70 5).toInt = u266.toInt := by rw [u266w]
                have u266l : -2147483648 ≤ u266.toInt := by rw [u266w]; exact (hv254.2.1 70 5).1
                have u266u : u266.toInt ≤ 2147483647 := by rw [u266w]; exact (hv254.2.1 70 5).2
                refine gi_fst (pc := 118) (lo := 0) (hi := 559) (len := 10) hv254 e246 (ti_rfl v264) rfl (by omega) (by omega) (fun _ => rfl) (by omega) (by omega) (by omega) dX8_readAll_118 (fun h267 hv267 hv267e => ?_)
                refine go_aload_n (pc := 119) rfl dX8_readAll_119 ?_
                refine go_invV (pc := 120) (sl := 0) (s_X8_isGood l (d + 23) hv267 ) mL_X8_172 iM_X8_isGood sM_X8_isGood (hv267.sh rfl) rfl rfl rfl (Nat.le_of_ble_eq_true rfl) (show d + 23 + 1 + 1 ≤ d + 25 by omega) (show 8 + (1 + 11) + 40 * (d + 23 + 1) ≤ 40 * (d + 25) by omega) (g_c0 hv267.ln) (Nat.le_of_ble_eq_true rfl) dX8_readAll_120 ?_
                intro r h268 hq _
                obtain ⟨v271, rfl, v271l, v271u, rfl, f269, f270⟩ := hq
                have E267 : h267.2.1 = (w1 h254.2.1 94 (((5 * S) + v232.toInt)) (v264 : Int32)) := by
                  rw [hv267e]
                  rw [v231S]
                  rfl
                have oh267 : OH h.2.1 h267.2.1 S := by rw [E267]; exact (oh254.trans (OH.w 5 rfl (by omega) (by omega) (by omega) (by omega)))
                have n73_267 : V h267.2.1 73 S = V h254.2.1 73 S := by rw [E267, V_ne (by omega)]
                have n74_267 : V h267.2.1 74 S = V h254.2.1 74 S := by rw [E267, V_ne (by omega)]
                have n75_267 : V h267.2.1 75 S = V h254.2.1 75 S := by rw [E267, V_ne (by omega)]
                have ck267 : CKF h.2.1 → CKF h267.2.1 := fun z => by rw [E267]; exact (CKF.w (by omega) (ck254 z))
                refine gf_if_eq (pc := 123) (tgt := 134) (ti_rfl v271) (by decide) dX8_readAll_123 (fun q272 => ?_) (fun q272 => ?_)
                ·
                  have g273 : (0 : Int) ≤ (h267.2.1 70 4).toInt := (hv267.2.1 70 4).1
                  have g274 : (h267.2.1 70 4).toInt ≤ 500 := (hv267.2.1 70 4).2
                  have g275 : (-2147483648 : Int) ≤ (h267.2.1 70 5).toInt := (hv267.2.1 70 5).1
                  have g276 : (h267.2.1 70 5).toInt ≤ 2147483647 := (hv267.2.1 70 5).2
                  have g277 : (h267.2.1 70 4).toInt = u265.toInt := by rw [← (show u265 = h267.2.1 70 4 from (show u265 = h267.2.1 70 4 from by rw [hv267e]; exact (g_iI rfl u265w.symm).symm))] <;> exact (ti_rfl u265)
                  have g278 : (h267.2.1 70 5).toInt = u266.toInt := by rw [← (show u266 = h267.2.1 70 5 from (show u266 = h267.2.1 70 5 from by rw [hv267e]; exact (g_iI rfl u266w.symm).symm))] <;> exact (ti_rfl u266)
                  have v76 : V h267.2.1 76 S = (v234.toInt + 1) := by rw [E267, V_ne (by omega), f261.v (by omega), ve241.v (by omega) (by omega), E237, V_eq]; exact e236
                  have pp279 : (h267.2.1 70 5).toInt = 0 → RD h267.2.1 S ∧ 1 ≤ V h267.2.1 76 S := (fun hg => ⟨(show RD h267.2.1 S from by rw [E267]; exact RD.proc (x := (v235 : Int32)) S0 (RD.ve ve221 (RD.ve ve5 xrd)) (by rw [show (v235 : Int32).toInt = (v234.toInt + 1) from e236]; omega) (by rw [← E237]; exact ve241) (f260 (by omega)) f261 (by omega) rfl), by omega⟩)
                  subst hS
                  exact gi_vret (pc := 134) ⟨rfl, ⟨_, hv267, (MW.trans (MW.trans (MW.trans sqx (MW.mz _ _)) sq256) (MW.mz _ _))⟩, pp279, oh267, ck267⟩ hv267 dX8_readAll_134
                ·
                  refine go_aload_n (pc := 126) rfl dX8_readAll_126 ?_
                  have g280 : (0 : Int) ≤ (h267.2.1 70 4).toInt := (hv267.2.1 70 4).1
                  have g281 : (h267.2.1 70 4).toInt ≤ 500 := (hv267.2.1 70 4).2
                  have g282 : (-2147483648 : Int) ≤ (h267.2.1 70 5).toInt := (hv267.2.1 70 5).1
                  have g283 : (h267.2.1 70 5).toInt ≤ 2147483647 := (hv267.2.1 70 5).2
                  have g284 : (h267.2.1 70 4).toInt = u265.toInt := by rw [← (show u265 = h267.2.1 70 4 from (show u265 = h267.2.1 70 4 from by rw [hv267e]; exact (g_iI rfl u265w.symm).symm))] <;> exact (ti_rfl u265)
                  have g285 : (h267.2.1 70 5).toInt = u266.toInt := by rw [← (show u266 = h267.2.1 70 5 from (show u266 = h267.2.1 70 5 from by rw [hv267e]; exact (g_iI rfl u266w.symm).symm))] <;> exact (ti_rfl u266)
                  refine go_invV (pc := 127) (sl := 0) (s_X8_here l (d + 23) hv267 ) mL_X8_176 iM_X8_here sM_X8_here (hv267.sh rfl) rfl rfl rfl (Nat.le_of_ble_eq_true rfl) (show d + 23 + 1 + 1 ≤ d + 25 by omega) (show 8 + (1 + 11) + 40 * (d + 23 + 1) ≤ 40 * (d + 25) by omega) (g_c0 hv267.ln) (Nat.le_of_ble_eq_true rfl) dX8_readAll_127 ?_
                  intro r h286 hq _
                  obtain ⟨v291, rfl, v291l, v291u, hv286, f287, f288, f289, f290⟩ := hq
                  have ve286 : VE h267.2.1 h286.2.1 := VE.of hv267 hv286
                  have oh286 : OH h.2.1 h286.2.1 S := oh267.trans (OH.of hv267 hv286 S)
                  have ck286 : CKF h.2.1 → CKF h286.2.1 := fun z => CKF.ve ve286 (ck267 z)
                  have n73_286 : V h286.2.1 73 S = V h267.2.1 73 S := ve286.v (by omega) (by omega)
                  have n74_286 : V h286.2.1 74 S = V h267.2.1 74 S := ve286.v (by omega) (by omega)
                  have n75_286 : V h286.2.1 75 S = V h267.2.1 75 S := ve286.v (by omega) (by omega)
                  obtain ⟨u292, u292w⟩ : ∃ v : Int32, v = h286.2.1 70 4 := ⟨_, rfl⟩
                  have u292e : (h286.2.1 70 4).toInt = u292.toInt := by rw [u292w]
                  have u292l : 0 ≤ u292.toInt := by rw [u292w]; exact (hv286.2.1 70 4).1
                  have u292u : u292.toInt ≤ 500 := by rw [u292w]; exact (hv286.2.1 70 4).2
                  obtain ⟨u293, u293w⟩ : ∃ v : Int32, v = h286.2.1 70 5 := ⟨_, rfl⟩
                  have u293e : (h286.2.1 70 5).toInt = u293.toInt := by rw [u293w]
                  have u293l : -2147483648 ≤ u293.toInt := by rw [u293w]; exact (hv286.2.1 70 5).1
                  have u293u : u293.toInt ≤ 2147483647 := by rw [u293w]; exact (hv286.2.1 70 5).2
                  refine go_iconst (pc := 130) (v := (-1)) (by decide) dX8_readAll_130 ?_
                  refine gf_icmp_ne (pc := 131) (tgt := 0) (ti_rfl v291) (ti_c (v := (-1)) (a := (-1)) (by decide)) (by decide) dX8_readAll_131 (fun q294 => ?_) (fun q294 => ?_)
                  ·
                    have g295 : (0 : Int) ≤ (h286.2.1 70 4).toInt := (hv286.2.1 70 4).1
                    have g296 : (h286.2.1 70 4).toInt ≤ 500 := (hv286.2.1 70 4).2
                    have g297 : (-2147483648 : Int) ≤ (h286.2.1 70 5).toInt := (hv286.2.1 70 5).1
                    have g298 : (h286.2.1 70 5).toInt ≤ 2147483647 := (hv286.2.1 70 5).2
                    have g299 : (h286.2.1 70 4).toInt = u292.toInt := by rw [← (show u292 = h286.2.1 70 4 from u292w)] <;> exact (ti_rfl u292)
                    have g300 : (h286.2.1 70 5).toInt = u293.toInt := by rw [← (show u293 = h286.2.1 70 5 from u293w)] <;> exact (ti_rfl u293)
                    exact go_lv rfl (ih  _ h286 hv286 (MW.trans (MW.trans (MW.trans sqx (MW.mz _ _)) sq256) (MW.mz _ _)) (by omega) (RD.ve ve286 (show RD h267.2.1 S from by rw [E267]; exact RD.proc (x := (v235 : Int32)) S0 (RD.ve ve221 (RD.ve ve5 xrd)) (by rw [show (v235 : Int32).toInt = (v234.toInt + 1) from e236]; omega) (by rw [← E237]; exact ve241) (f260 (by omega)) f261 (by omega) rfl)) (by omega) (by omega) oh286 ck286 (by omega) (by omega) (by omega) (by omega) (by omega))
                  ·
                    have g301 : (0 : Int) ≤ (h286.2.1 70 4).toInt := (hv286.2.1 70 4).1
                    have g302 : (h286.2.1 70 4).toInt ≤ 500 := (hv286.2.1 70 4).2
                    have g303 : (-2147483648 : Int) ≤ (h286.2.1 70 5).toInt := (hv286.2.1 70 5).1
                    have g304 : (h286.2.1 70 5).toInt ≤ 2147483647 := (hv286.2.1 70 5).2
                    have g305 : (h286.2.1 70 4).toInt = u292.toInt := by rw [← (show u292 = h286.2.1 70 4 from u292w)] <;> exact (ti_rfl u292)
                    have g306 : (h286.2.1 70 5).toInt = u293.toInt := by rw [← (show u293 = h286.2.1 70 5 from u293w)] <;> exact (ti_rfl u293)
                    have v76 : V h286.2.1 76 S = (v234.toInt + 1) := by rw [ve286.v (by omega) (by omega), E267, V_ne (by omega), f261.v (by omega), ve241.v (by omega) (by omega), E237, V_eq]; exact e236
                    have pp307 : (h286.2.1 70 5).toInt = 0 → RD h286.2.1 S ∧ 1 ≤ V h286.2.1 76 S := (fun hg => ⟨(RD.ve ve286 (show RD h267.2.1 S from by rw [E267]; exact RD.proc (x := (v235 : Int32)) S0 (RD.ve ve221 (RD.ve ve5 xrd)) (by rw [show (v235 : Int32).toInt = (v234.toInt + 1) from e236]; omega) (by rw [← E237]; exact ve241) (f260 (by omega)) f261 (by omega) rfl)), by omega⟩)
                    subst hS
                    exact gi_vret (pc := 134) ⟨rfl, ⟨_, hv286, (MW.trans (MW.trans (MW.trans sqx (MW.mz _ _)) sq256) (MW.mz _ _))⟩, pp307, oh286, ck286⟩ hv286 dX8_readAll_134
              ·
                have g308 : (0 : Int) ≤ (h221.2.1 70 4).toInt := (hv221.2.1 70 4).1
                have g309 : (h221.2.1 70 4).toInt ≤ 500 := (hv221.2.1 70 4).2
                have g310 : (-2147483648 : Int) ≤ (h221.2.1 70 5).toInt := (hv221.2.1 70 5).1
                have g311 : (h221.2.1 70 5).toInt ≤ 2147483647 := (hv221.2.1 70 5).2
                have g312 : (h221.2.1 70 4).toInt = u224.toInt := by rw [← (show u224 = h221.2.1 70 4 from u224w)] <;> exact (ti_rfl u224)
                have g313 : (h221.2.1 70 5).toInt = u225.toInt := by rw [← (show u225 = h221.2.1 70 5 from u225w)] <;> exact (ti_rfl u225)
                have pp314 : (h221.2.1 70 5).toInt = 0 → RD h221.2.1 S ∧ 1 ≤ V h221.2.1 76 S := (fun hg => absurd hg (by omega))
                subst hS
                exact gi_vret (pc := 65) ⟨rfl, ⟨_, hv221, sqx⟩, pp314, oh221, ck221⟩ hv221 dX8_readAll_65
        ·
          refine go_aload_n (pc := 16) rfl dX8_readAll_16 ?_
          refine go_iconst (pc := 17) (v := 1) (by decide) dX8_readAll_17 ?_
          have g315 : (0 : Int) ≤ (h5.2.1 70 4).toInt := (hv5.2.1 70 4).1
          have g316 : (h5.2.1 70 4).toInt ≤ 500 := (hv5.2.1 70 4).2
          have g317 : (-2147483648 : Int) ≤ (h5.2.1 70 5).toInt := (hv5.2.1 70 5).1
          have g318 : (h5.2.1 70 5).toInt ≤ 2147483647 := (hv5.2.1 70 5).2
          have g319 : (h5.2.1 70 4).toInt = u11.toInt := by rw [← (show u11 = h5.2.1 70 4 from u11w)] <;> exact (ti_rfl u11)
          have g320 : (h5.2.1 70 5).toInt = u12.toInt := by rw [← (show u12 = h5.2.1 70 5 from u12w)] <;> exact (ti_rfl u12)
          refine go_invV (pc := 18) (sl := 0) (s_X8_fails l (d + 23) hv5 1 (by rw [show (1 : Int32).toInt = 1 from (ti_c (v := 1) (a := 1) (by decide))]; omega) (by rw [show (1 : Int32).toInt = 1 from (ti_c (v := 1) (a := 1) (by decide))]; omega)) mL_X8_180 iM_X8_fails sM_X8_fails (hv5.sh rfl) rfl rfl rfl (Nat.le_of_ble_eq_true rfl) (show d + 23 + 1 + 1 ≤ d + 25 by omega) (show 8 + (2 + 11) + 40 * (d + 23 + 1) ≤ 40 * (d + 25) by omega) (g_c0 hv5.ln) (Nat.le_of_ble_eq_true rfl) dX8_readAll_18 ?_
          intro r h321 hq _
          obtain ⟨rfl, hv321, f322, f323⟩ := hq
          try rw [show (1 : Int32).toInt = 1 from (ti_c (v := 1) (a := 1) (by decide))] at f322
          try rw [show (1 : Int32).toInt = 1 from (ti_c (v := 1) (a := 1) (by decide))] at f323
          have ve321 : VE h5.2.1 h321.2.1 := VE.of hv5 hv321
          have oh321 : OH h.2.1 h321.2.1 S := oh5.trans (OH.of hv5 hv321 S)
          have ck321 : CKF h.2.1 → CKF h321.2.1 := fun z => CKF.ve ve321 (ck5 z)
          have n73_321 : V h321.2.1 73 S = V h5.2.1 73 S := ve321.v (by omega) (by omega)
          have n74_321 : V h321.2.1 74 S = V h5.2.1 74 S := ve321.v (by omega) (by omega)
          have n75_321 : V h321.2.1 75 S = V h5.2.1 75 S := ve321.v (by omega) (by omega)
          obtain ⟨u324, u324w⟩ : ∃ v : Int32, v = h321.2.1 70 4 := ⟨_, rfl⟩
          have u324e : (h321.2.1 70 4).toInt = u324.toInt := by rw [u324w]
          have u324l : 0 ≤ u324.toInt := by rw [u324w]; exact (hv321.2.1 70 4).1
          have u324u : u324.toInt ≤ 500 := by rw [u324w]; exact (hv321.2.1 70 4).2
          obtain ⟨u325, u325w⟩ : ∃ v : Int32, v = h321.2.1 70 5 := ⟨_, rfl⟩
          have u325e : (h321.2.1 70 5).toInt = u325.toInt := by rw [u325w]
          have u325l : -2147483648 ≤ u325.toInt := by rw [u325w]; exact (hv321.2.1 70 5).1
          have u325u : u325.toInt ≤ 2147483647 := by rw [u325w]; exact (hv321.2.1 70 5).2
          refine go_goto (pc := 21) (tgt := 58) (by decide) dX8_readAll_21 ?_
          refine go_aload_n (pc := 58) rfl dX8_readAll_58 ?_
          refine go_invV (pc := 59) (sl := 0) (s_X8_isGood l (d + 23) hv321 ) mL_X8_172 iM_X8_isGood sM_X8_isGood (hv321.sh rfl) rfl rfl rfl (Nat.le_of_ble_eq_true rfl) (show d + 23 + 1 + 1 ≤ d + 25 by omega) (show 8 + (1 + 11) + 40 * (d + 23 + 1) ≤ 40 * (d + 25) by omega) (g_c0 hv321.ln) (Nat.le_of_ble_eq_true rfl) dX8_readAll_59 ?_
          intro r h326 hq _
          obtain ⟨v329, rfl, v329l, v329u, rfl, f327, f328⟩ := hq
          refine gf_if_ne (pc := 62) (tgt := 66) (ti_rfl v329) (by decide) dX8_readAll_62 (fun q330 => ?_) (fun q330 => ?_)
          ·
            refine go_aload_n (pc := 66) rfl dX8_readAll_66 ?_
            refine gi_getF (pc := 67) (q := 76) hv321 fL_X8_26 rfl (Nat.le_of_ble_eq_true rfl) rfl (hv321.rf (by decide)) dX8_readAll_67 ?_
            refine go_aload_n (pc := 70) rfl dX8_readAll_70 ?_
            refine gi_get (pc := 71) (lo := 0) (hi := 1) hv321 fL_X8_187 rfl (Nat.le_of_ble_eq_true rfl) rfl rfl dX8_readAll_71 (fun v331 v331l v331u v331w => ?_)
            have v331S : v331.toInt = S := by rw [v331w]; exact (congrArg Int32.toInt oh321.side).trans hS.symm
            refine gi_iald (pc := 74) (lo := 0) (hi := 5) (len := 2) hv321 (ti_rfl v331) rfl (by omega) (by omega) (fun _ => rfl) dX8_readAll_74 (fun v332 v332l v332u v332w => ?_)
            have v332V : v332.toInt = V h321.2.1 76 S := by rw [v332w, v331S]; rfl
            refine go_istore_n (pc := 75) (Nat.le_of_ble_eq_true rfl) dX8_readAll_75 (go_lv (lv2 := [(0, .ref 70), (1, .int v10), (2, .int v332)]) rfl ?_)
            refine go_aload_n (pc := 76) rfl dX8_readAll_76 ?_
            refine gi_getF (pc := 77) (q := 76) hv321 fL_X8_26 rfl (Nat.le_of_ble_eq_true rfl) rfl (hv321.rf (by decide)) dX8_readAll_77 ?_
            refine go_aload_n (pc := 80) rfl dX8_readAll_80 ?_
            refine gi_get (pc := 81) (lo := 0) (hi := 1) hv321 fL_X8_187 rfl (Nat.le_of_ble_eq_true rfl) rfl rfl dX8_readAll_81 (fun v333 v333l v333u v333w => ?_)
            have v333r : v331 = h321.2.1 70 6 := v331w
            have v333q : TI v333 v331.toInt := by rw [v333w.trans v333r.symm]; exact (ti_rfl v331)
            refine go_dup2 (pc := 84) rfl rfl dX8_readAll_84 ?_
            refine gi_iald (pc := 85) (lo := 0) (hi := 5) (len := 2) hv321 v333q rfl (by omega) (by omega) (fun _ => rfl) dX8_readAll_85 (fun v334 v334l v334u v334w => ?_)
            have v334V : v334.toInt = V h321.2.1 76 S := by rw [v334w, v331S]; rfl
            refine go_iconst (pc := 86) (v := 1) (by decide) dX8_readAll_86 ?_
            refine gf_iadd (pc := 87) (ti_rfl v334) (ti_c (v := 1) (a := 1) (by decide)) (by omega) (by omega) dX8_readAll_87 (fun v335 e336 => ?_)
            refine gi_fst (pc := 88) (lo := 0) (hi := 5) (len := 2) hv321 v333q e336 rfl (by omega) (by omega) (fun _ => rfl) (by omega) (by omega) (by omega) dX8_readAll_88 (fun h337 hv337 hv337e => ?_)
            refine go_aload_n (pc := 89) rfl dX8_readAll_89 ?_
            refine go_dup (pc := 90) rfl dX8_readAll_90 ?_
            refine gi_get (pc := 91) (lo := 0) (hi := 500) hv337 fL_X8_163 rfl (Nat.le_of_ble_eq_true rfl) rfl rfl dX8_readAll_91 (fun v338 v338l v338u v338w => ?_)
            have v338r : u324 = h337.2.1 70 4 := (show u324 = h337.2.1 70 4 from by rw [hv337e]; exact (g_iI rfl u324w.symm).symm)
            have v338q : TI v338 u324.toInt := by rw [v338w.trans v338r.symm]; exact (ti_rfl u324)
            refine go_iconst (pc := 94) (v := 1) (by decide) dX8_readAll_94 ?_
            refine gf_iadd (pc := 95) v338q (ti_c (v := 1) (a := 1) (by decide)) (by omega) (by omega) dX8_readAll_95 (fun v339 e340 => ?_)
            have E337 : h337.2.1 = (w1 h321.2.1 76 S (v335 : Int32)) := by
              rw [hv337e]
              rw [v331S]
              rfl
            have oh337 : OH h.2.1 h337.2.1 S := by rw [E337]; exact (oh321.trans (OH.w 1 rfl (by omega) (by omega) (by omega) (by omega)))
            have n73_337 : V h337.2.1 73 S = V h321.2.1 73 S := by rw [E337, V_ne (by omega)]
            have n74_337 : V h337.2.1 74 S = V h321.2.1 74 S := by rw [E337, V_ne (by omega)]
            have n75_337 : V h337.2.1 75 S = V h321.2.1 75 S := by rw [E337, V_ne (by omega)]
            have ck337 : CKF h.2.1 → CKF h337.2.1 := fun z => by rw [E337]; exact (CKF.w (by omega) (ck321 z))
            refine gi_put (pc := 96) (lo := 0) (hi := 500) hv337 e340 (fP_X8_163 _) rfl (Nat.le_of_ble_eq_true rfl) rfl rfl (by omega) (by omega) rfl rfl (by decide) (by decide) (by decide) (by decide) dX8_readAll_96 (fun h341 hv341 hv341e => ?_)
            have ve341 : VE h337.2.1 h341.2.1 := VE.of hv337 hv341
            have oh341 : OH h.2.1 h341.2.1 S := oh337.trans (OH.of hv337 hv341 S)
            have ck341 : CKF h.2.1 → CKF h341.2.1 := fun z => CKF.ve ve341 (ck337 z)
            have n73_341 : V h341.2.1 73 S = V h337.2.1 73 S := ve341.v (by omega) (by omega)
            have n74_341 : V h341.2.1 74 S = V h337.2.1 74 S := ve341.v (by omega) (by omega)
            have n75_341 : V h341.2.1 75 S = V h337.2.1 75 S := ve341.v (by omega) (by omega)
            refine go_aload_n (pc := 99) rfl dX8_readAll_99 ?_
            refine gi_getF (pc := 100) (q := 94) hv341 fL_X8_80 rfl (Nat.le_of_ble_eq_true rfl) rfl (hv341.rf (by decide)) dX8_readAll_100 ?_
            refine go_iconst (pc := 103) (v := 5) (by decide) dX8_readAll_103 ?_
            refine go_aload_n (pc := 104) rfl dX8_readAll_104 ?_
            refine gi_get (pc := 105) (lo := 0) (hi := 1) hv341 fL_X8_187 rfl (Nat.le_of_ble_eq_true rfl) rfl rfl dX8_readAll_105 (fun v342 v342l v342u v342w => ?_)
            have v342r : v331 = h341.2.1 70 6 := (show v331 = h341.2.1 70 6 from by rw [hv341e]; exact (g_iI rfl (show v331 = h337.2.1 70 6 from by rw [hv337e]; exact (g_iI rfl v331w.symm).symm).symm).symm)
            have v342q : TI v342 v331.toInt := by rw [v342w.trans v342r.symm]; exact (ti_rfl v331)
            refine gf_imul (pc := 108) (ti_c (v := 5) (a := 5) (by decide)) v342q (by omega) (by omega) dX8_readAll_108 (fun v343 e344 => ?_)
            refine go_iload_n (pc := 109) rfl dX8_readAll_109 ?_
            refine gf_iadd (pc := 110) e344 (ti_rfl v332) (by omega) (by omega) dX8_readAll_110 (fun v345 e346 => ?_)
            refine go_aload_n (pc := 111) rfl dX8_readAll_111 ?_
            refine go_iconst (pc := 112) (v := (-1)) (by decide) dX8_readAll_112 ?_
            refine go_iload_n (pc := 113) rfl dX8_readAll_113 ?_
            refine go_iconst (pc := 114) (v := 0) (by decide) dX8_readAll_114 ?_
            have rdk : TR h341.2.1 S := (TR.ve ve341 (by rw [E337]; exact RD.w76 (RD.ve ve321 (RD.ve ve5 xrd))))
            have zq : (0 : Int32).toInt = 0 := by decide
            have zn : (-1 : Int32).toInt = -1 := by decide
            have sM347 : (h341.2.1 70 6).toInt = S := (congrArg Int32.toInt oh341.side).trans hS.symm
            have g348 : (0 : Int) ≤ (h341.2.1 70 4).toInt := (hv341.2.1 70 4).1
            have g349 : (h341.2.1 70 4).toInt ≤ 500 := (hv341.2.1 70 4).2
            have g350 : (-2147483648 : Int) ≤ (h341.2.1 70 5).toInt := (hv341.2.1 70 5).1
            have g351 : (h341.2.1 70 5).toInt ≤ 2147483647 := (hv341.2.1 70 5).2
            have g352 : (h341.2.1 70 5).toInt = u325.toInt := by rw [← (show u325 = h341.2.1 70 5 from (show u325 = h341.2.1 70 5 from by rw [hv341e]; exact (g_iI rfl (show u325 = h337.2.1 70 5 from by rw [hv337e]; exact (g_iI rfl u325w.symm).symm).symm).symm))] <;> exact (ti_rfl u325)
            have g353 : (h341.2.1 70 4).toInt = (u324.toInt + 1) := by rw [← (show v339 = h341.2.1 70 4 from (show v339 = h341.2.1 70 4 from by rw [hv341e]; exact g_iS.symm))] <;> exact e340
            refine go_invV (pc := 115) (sl := 0) (s_X8_readBlock l (d + 0) hv341 (-1) (by rw [show ((-1) : Int32).toInt = (-1) from (ti_c (v := (-1)) (a := (-1)) (by decide))]; omega) (by rw [show ((-1) : Int32).toInt = (-1) from (ti_c (v := (-1)) (a := (-1)) (by decide))]; omega) v332 (by rw [show (v332 : Int32).toInt = v332.toInt from (ti_rfl v332)]; omega) (by rw [show (v332 : Int32).toInt = v332.toInt from (ti_rfl v332)]; omega) 0 (by rw [show (0 : Int32).toInt = 0 from (ti_c (v := 0) (a := 0) (by decide))]; omega) (by rw [show (0 : Int32).toInt = 0 from (ti_c (v := 0) (a := 0) (by decide))]; omega) (by rw [sM347]; exact (fun _ => by omega)) (by rw [sM347]; exact (fun _ => ⟨rdk, Or.inl ⟨by omega, by omega⟩⟩))) mL_X8_224 iM_X8_readBlock sM_X8_readBlock (hv341.sh rfl) rfl rfl rfl (Nat.le_of_ble_eq_true rfl) (show d + 0 + 24 + 1 ≤ d + 25 by omega) (show 8 + (5 + 11) + 40 * (d + 0 + 24) ≤ 40 * (d + 25) by omega) (g_c0 hv341.ln) (Nat.le_of_ble_eq_true rfl) dX8_readAll_115 ?_
            intro r h354 hq _
            obtain ⟨v364, rfl, v364l, v364u, ⟨Q355, hv354, sq356⟩, f357, f358, f359, f360, f361, f362, f363⟩ := hq
            rw [sM347] at f359
            rw [sM347] at f360
            rw [sM347] at f362
            have oh354 : OH h.2.1 h354.2.1 S := oh341.trans f362
            have ck354 : CKF h.2.1 → CKF h354.2.1 := fun z => f363 (ck341 z)
            try rw [show ((-1) : Int32).toInt = (-1) from (ti_c (v := (-1)) (a := (-1)) (by decide))] at f357
            try rw [show (0 : Int32).toInt = 0 from (ti_c (v := 0) (a := 0) (by decide))] at f357
            try rw [show ((-1) : Int32).toInt = (-1) from (ti_c (v := (-1)) (a := (-1)) (by decide))] at f358
            try rw [show (0 : Int32).toInt = 0 from (ti_c (v := 0) (a := 0) (by decide))] at f358
            try rw [show ((-1) : Int32).toInt = (-1) from (ti_c (v := (-1)) (a := (-1)) (by decide))] at f359
            try rw [show (0 : Int32).toInt = 0 from (ti_c (v := 0) (a := 0) (by decide))] at f359
            try rw [show ((-1) : Int32).toInt = (-1) from (ti_c (v := (-1)) (a := (-1)) (by decide))] at f360
            try rw [show (0 : Int32).toInt = 0 from (ti_c (v := 0) (a := 0) (by decide))] at f360
            try rw [show ((-1) : Int32).toInt = (-1) from (ti_c (v := (-1)) (a := (-1)) (by decide))] at f361
            try rw [show (0 : Int32).toInt = 0 from (ti_c (v := 0) (a := 0) (by decide))] at f361
            try rw [show ((-1) : Int32).toInt = (-1) from (ti_c (v := (-1)) (a := (-1)) (by decide))] at f362
            try rw [show (0 : Int32).toInt = 0 from (ti_c (v := 0) (a := 0) (by decide))] at f362
            try rw [show ((-1) : Int32).toInt = (-1) from (ti_c (v := (-1)) (a := (-1)) (by decide))] at f363
            try rw [show (0 : Int32).toInt = 0 from (ti_c (v := 0) (a := 0) (by decide))] at f363
            obtain ⟨u365, u365w⟩ : ∃ v : Int32, v = h354.2.1 70 4 := ⟨_, rfl⟩
            have u365e : (h354.2.1 70 4).toInt = u365.toInt := by rw [u365w]
            have u365l : 0 ≤ u365.toInt := by rw [u365w]; exact (hv354.2.1 70 4).1
            have u365u : u365.toInt ≤ 500 := by rw [u365w]; exact (hv354.2.1 70 4).2
            obtain ⟨u366, u366w⟩ : ∃ v : Int32, v = h354.2.1 70 5 := ⟨_, rfl⟩
            have u366e : (h354.2.1 70 5).toInt = u366.toInt := by rw [u366w]
            have u366l : -2147483648 ≤ u366.toInt := by rw [u366w]; exact (hv354.2.1 70 5).1
            have u366u : u366.toInt ≤ 2147483647 := by rw [u366w]; exact (hv354.2.1 70 5).2
            refine gi_fst (pc := 118) (lo := 0) (hi := 559) (len := 10) hv354 e346 (ti_rfl v364) rfl (by omega) (by omega) (fun _ => rfl) (by omega) (by omega) (by omega) dX8_readAll_118 (fun h367 hv367 hv367e => ?_)
            refine go_aload_n (pc := 119) rfl dX8_readAll_119 ?_
            refine go_invV (pc := 120) (sl := 0) (s_X8_isGood l (d + 23) hv367 ) mL_X8_172 iM_X8_isGood sM_X8_isGood (hv367.sh rfl) rfl rfl rfl (Nat.le_of_ble_eq_true rfl) (show d + 23 + 1 + 1 ≤ d + 25 by omega) (show 8 + (1 + 11) + 40 * (d + 23 + 1) ≤ 40 * (d + 25) by omega) (g_c0 hv367.ln) (Nat.le_of_ble_eq_true rfl) dX8_readAll_120 ?_
            intro r h368 hq _
            obtain ⟨v371, rfl, v371l, v371u, rfl, f369, f370⟩ := hq
            have E367 : h367.2.1 = (w1 h354.2.1 94 (((5 * S) + v332.toInt)) (v364 : Int32)) := by
              rw [hv367e]
              rw [v331S]
              rfl
            have oh367 : OH h.2.1 h367.2.1 S := by rw [E367]; exact (oh354.trans (OH.w 5 rfl (by omega) (by omega) (by omega) (by omega)))
            have n73_367 : V h367.2.1 73 S = V h354.2.1 73 S := by rw [E367, V_ne (by omega)]
            have n74_367 : V h367.2.1 74 S = V h354.2.1 74 S := by rw [E367, V_ne (by omega)]
            have n75_367 : V h367.2.1 75 S = V h354.2.1 75 S := by rw [E367, V_ne (by omega)]
            have ck367 : CKF h.2.1 → CKF h367.2.1 := fun z => by rw [E367]; exact (CKF.w (by omega) (ck354 z))
            refine gf_if_eq (pc := 123) (tgt := 134) (ti_rfl v371) (by decide) dX8_readAll_123 (fun q372 => ?_) (fun q372 => ?_)
            ·
              have g373 : (0 : Int) ≤ (h367.2.1 70 4).toInt := (hv367.2.1 70 4).1
              have g374 : (h367.2.1 70 4).toInt ≤ 500 := (hv367.2.1 70 4).2
              have g375 : (-2147483648 : Int) ≤ (h367.2.1 70 5).toInt := (hv367.2.1 70 5).1
              have g376 : (h367.2.1 70 5).toInt ≤ 2147483647 := (hv367.2.1 70 5).2
              have g377 : (h367.2.1 70 4).toInt = u365.toInt := by rw [← (show u365 = h367.2.1 70 4 from (show u365 = h367.2.1 70 4 from by rw [hv367e]; exact (g_iI rfl u365w.symm).symm))] <;> exact (ti_rfl u365)
              have g378 : (h367.2.1 70 5).toInt = u366.toInt := by rw [← (show u366 = h367.2.1 70 5 from (show u366 = h367.2.1 70 5 from by rw [hv367e]; exact (g_iI rfl u366w.symm).symm))] <;> exact (ti_rfl u366)
              have v76 : V h367.2.1 76 S = (v334.toInt + 1) := by rw [E367, V_ne (by omega), f361.v (by omega), ve341.v (by omega) (by omega), E337, V_eq]; exact e336
              have pp379 : (h367.2.1 70 5).toInt = 0 → RD h367.2.1 S ∧ 1 ≤ V h367.2.1 76 S := (fun hg => ⟨(show RD h367.2.1 S from by rw [E367]; exact RD.proc (x := (v335 : Int32)) S0 (RD.ve ve321 (RD.ve ve5 xrd)) (by rw [show (v335 : Int32).toInt = (v334.toInt + 1) from e336]; omega) (by rw [← E337]; exact ve341) (f360 (by omega)) f361 (by omega) rfl), by omega⟩)
              subst hS
              exact gi_vret (pc := 134) ⟨rfl, ⟨_, hv367, (MW.trans (MW.trans (MW.trans sqx (MW.mz _ _)) sq356) (MW.mz _ _))⟩, pp379, oh367, ck367⟩ hv367 dX8_readAll_134
            ·
              refine go_aload_n (pc := 126) rfl dX8_readAll_126 ?_
              have g380 : (0 : Int) ≤ (h367.2.1 70 4).toInt := (hv367.2.1 70 4).1
              have g381 : (h367.2.1 70 4).toInt ≤ 500 := (hv367.2.1 70 4).2
              have g382 : (-2147483648 : Int) ≤ (h367.2.1 70 5).toInt := (hv367.2.1 70 5).1
              have g383 : (h367.2.1 70 5).toInt ≤ 2147483647 := (hv367.2.1 70 5).2
              have g384 : (h367.2.1 70 4).toInt = u365.toInt := by rw [← (show u365 = h367.2.1 70 4 from (show u365 = h367.2.1 70 4 from by rw [hv367e]; exact (g_iI rfl u365w.symm).symm))] <;> exact (ti_rfl u365)
              have g385 : (h367.2.1 70 5).toInt = u366.toInt := by rw [← (show u366 = h367.2.1 70 5 from (show u366 = h367.2.1 70 5 from by rw [hv367e]; exact (g_iI rfl u366w.symm).symm))] <;> exact (ti_rfl u366)
              refine go_invV (pc := 127) (sl := 0) (s_X8_here l (d + 23) hv367 ) mL_X8_176 iM_X8_here sM_X8_here (hv367.sh rfl) rfl rfl rfl (Nat.le_of_ble_eq_true rfl) (show d + 23 + 1 + 1 ≤ d + 25 by omega) (show 8 + (1 + 11) + 40 * (d + 23 + 1) ≤ 40 * (d + 25) by omega) (g_c0 hv367.ln) (Nat.le_of_ble_eq_true rfl) dX8_readAll_127 ?_
              intro r h386 hq _
              obtain ⟨v391, rfl, v391l, v391u, hv386, f387, f388, f389, f390⟩ := hq
              have ve386 : VE h367.2.1 h386.2.1 := VE.of hv367 hv386
              have oh386 : OH h.2.1 h386.2.1 S := oh367.trans (OH.of hv367 hv386 S)
              have ck386 : CKF h.2.1 → CKF h386.2.1 := fun z => CKF.ve ve386 (ck367 z)
              have n73_386 : V h386.2.1 73 S = V h367.2.1 73 S := ve386.v (by omega) (by omega)
              have n74_386 : V h386.2.1 74 S = V h367.2.1 74 S := ve386.v (by omega) (by omega)
              have n75_386 : V h386.2.1 75 S = V h367.2.1 75 S := ve386.v (by omega) (by omega)
              obtain ⟨u392, u392w⟩ : ∃ v : Int32, v = h386.2.1 70 4 := ⟨_, rfl⟩
              have u392e : (h386.2.1 70 4).toInt = u392.toInt := by rw [u392w]
              have u392l : 0 ≤ u392.toInt := by rw [u392w]; exact (hv386.2.1 70 4).1
              have u392u : u392.toInt ≤ 500 := by rw [u392w]; exact (hv386.2.1 70 4).2
              obtain ⟨u393, u393w⟩ : ∃ v : Int32, v = h386.2.1 70 5 := ⟨_, rfl⟩
              have u393e : (h386.2.1 70 5).toInt = u393.toInt := by rw [u393w]
              have u393l : -2147483648 ≤ u393.toInt := by rw [u393w]; exact (hv386.2.1 70 5).1
              have u393u : u393.toInt ≤ 2147483647 := by rw [u393w]; exact (hv386.2.1 70 5).2
              refine go_iconst (pc := 130) (v := (-1)) (by decide) dX8_readAll_130 ?_
              refine gf_icmp_ne (pc := 131) (tgt := 0) (ti_rfl v391) (ti_c (v := (-1)) (a := (-1)) (by decide)) (by decide) dX8_readAll_131 (fun q394 => ?_) (fun q394 => ?_)
              ·
                have g395 : (0 : Int) ≤ (h386.2.1 70 4).toInt := (hv386.2.1 70 4).1
                have g396 : (h386.2.1 70 4).toInt ≤ 500 := (hv386.2.1 70 4).2
                have g397 : (-2147483648 : Int) ≤ (h386.2.1 70 5).toInt := (hv386.2.1 70 5).1
                have g398 : (h386.2.1 70 5).toInt ≤ 2147483647 := (hv386.2.1 70 5).2
                have g399 : (h386.2.1 70 4).toInt = u392.toInt := by rw [← (show u392 = h386.2.1 70 4 from u392w)] <;> exact (ti_rfl u392)
                have g400 : (h386.2.1 70 5).toInt = u393.toInt := by rw [← (show u393 = h386.2.1 70 5 from u393w)] <;> exact (ti_rfl u393)
                exact go_lv rfl (ih  _ h386 hv386 (MW.trans (MW.trans (MW.trans sqx (MW.mz _ _)) sq356) (MW.mz _ _)) (by omega) (RD.ve ve386 (show RD h367.2.1 S from by rw [E367]; exact RD.proc (x := (v335 : Int32)) S0 (RD.ve ve321 (RD.ve ve5 xrd)) (by rw [show (v335 : Int32).toInt = (v334.toInt + 1) from e336]; omega) (by rw [← E337]; exact ve341) (f360 (by omega)) f361 (by omega) rfl)) (by omega) (by omega) oh386 ck386 (by omega) (by omega) (by omega) (by omega) (by omega))
              ·
                have g401 : (0 : Int) ≤ (h386.2.1 70 4).toInt := (hv386.2.1 70 4).1
                have g402 : (h386.2.1 70 4).toInt ≤ 500 := (hv386.2.1 70 4).2
                have g403 : (-2147483648 : Int) ≤ (h386.2.1 70 5).toInt := (hv386.2.1 70 5).1
                have g404 : (h386.2.1 70 5).toInt ≤ 2147483647 := (hv386.2.1 70 5).2
                have g405 : (h386.2.1 70 4).toInt = u392.toInt := by rw [← (show u392 = h386.2.1 70 4 from u392w)] <;> exact (ti_rfl u392)
                have g406 : (h386.2.1 70 5).toInt = u393.toInt := by rw [← (show u393 = h386.2.1 70 5 from u393w)] <;> exact (ti_rfl u393)
                have v76 : V h386.2.1 76 S = (v334.toInt + 1) := by rw [ve386.v (by omega) (by omega), E367, V_ne (by omega), f361.v (by omega), ve341.v (by omega) (by omega), E337, V_eq]; exact e336
                have pp407 : (h386.2.1 70 5).toInt = 0 → RD h386.2.1 S ∧ 1 ≤ V h386.2.1 76 S := (fun hg => ⟨(RD.ve ve386 (show RD h367.2.1 S from by rw [E367]; exact RD.proc (x := (v335 : Int32)) S0 (RD.ve ve321 (RD.ve ve5 xrd)) (by rw [show (v335 : Int32).toInt = (v334.toInt + 1) from e336]; omega) (by rw [← E337]; exact ve341) (f360 (by omega)) f361 (by omega) rfl)), by omega⟩)
                subst hS
                exact gi_vret (pc := 134) ⟨rfl, ⟨_, hv386, (MW.trans (MW.trans (MW.trans sqx (MW.mz _ _)) sq356) (MW.mz _ _))⟩, pp407, oh386, ck386⟩ hv386 dX8_readAll_134
          ·
            have g408 : (0 : Int) ≤ (h321.2.1 70 4).toInt := (hv321.2.1 70 4).1
            have g409 : (h321.2.1 70 4).toInt ≤ 500 := (hv321.2.1 70 4).2
            have g410 : (-2147483648 : Int) ≤ (h321.2.1 70 5).toInt := (hv321.2.1 70 5).1
            have g411 : (h321.2.1 70 5).toInt ≤ 2147483647 := (hv321.2.1 70 5).2
            have g412 : (h321.2.1 70 4).toInt = u324.toInt := by rw [← (show u324 = h321.2.1 70 4 from u324w)] <;> exact (ti_rfl u324)
            have g413 : (h321.2.1 70 5).toInt = u325.toInt := by rw [← (show u325 = h321.2.1 70 5 from u325w)] <;> exact (ti_rfl u325)
            have pp414 : (h321.2.1 70 5).toInt = 0 → RD h321.2.1 S ∧ 1 ≤ V h321.2.1 76 S := (fun hg => absurd hg (by omega))
            subst hS
            exact gi_vret (pc := 65) ⟨rfl, ⟨_, hv321, sqx⟩, pp414, oh321, ck321⟩ hv321 dX8_readAll_65
  have g415 : (0 : Int) ≤ (h.2.1 70 4).toInt := (hv.2.1 70 4).1
  have g416 : (h.2.1 70 4).toInt ≤ 500 := (hv.2.1 70 4).2
  have g417 : (-2147483648 : Int) ≤ (h.2.1 70 5).toInt := (hv.2.1 70 5).1
  have g418 : (h.2.1 70 5).toInt ≤ 2147483647 := (hv.2.1 70 5).2
  exact go_lv rfl ((key 1522)  _ h hv (MW.rfl _) (by omega) (RD.init S0 (by omega) (by omega) (by omega) (by omega)) (by omega) (by omega) oh ck (by omega) (by omega) (by omega) (by omega) (by omega))
set_option maxHeartbeats 4000000 in
set_option maxRecDepth 100000 in
theorem s_X8_isTold (l : Launch) (d : Nat) {P : PP} {h : HP} (hv : Iv P h)  : Mt l yX8_isTold cX8_isTold 2 (some .boolean) (d + 1) [.ref 70] h 0 0 (fun r h' => ∃ v : Int32, r = some (.int v) ∧ 0 ≤ v.toInt ∧ v.toInt ≤ 1 ∧ h = h' ∧ (v.toInt = 1 → TD h.2.1 (h.2.1 70 6).toInt)) := by
  refine Mt_iv hv (by decide) (Nat.le_of_ble_eq_true rfl) ?_
  show Go l RX8 cX8_isTold 2 (g_rm (d + 1) 0 0) "isTold" (some .boolean) 117 0 0 (fun _ _ => True) (fun r h' => ∃ v : Int32, r = some (.int v) ∧ 0 ≤ v.toInt ∧ v.toInt ≤ 1 ∧ h = h' ∧ (v.toInt = 1 → TD h.2.1 (h.2.1 70 6).toInt)) 0 0 [(0, .ref 70)] [] h
  obtain ⟨S, hS⟩ : ∃ S : Int, S = (h.2.1 70 6).toInt := ⟨_, rfl⟩
  have S0 : 0 ≤ S := by rw [hS]; exact (hv.2.1 70 6).1
  have S1 : S ≤ 1 := by rw [hS]; exact (hv.2.1 70 6).2
  have key : ∀ n : Nat, (∀ (l1 : Int32), 0 ≤ l1.toInt → l1.toInt ≤ 40 → (∀ k : Int, 0 ≤ k → k < l1.toInt → V h.2.1 84 (V h.2.1 93 (40 * S + k)) < V h.2.1 76 S) → (3 * (40 - l1.toInt) + 2 : Int) < n → Go l RX8 cX8_isTold 2 (g_rm (d + 1) 0 0) "isTold" (some .boolean) 117 0 0 (fun _ _ => True) (fun r h' => ∃ v : Int32, r = some (.int v) ∧ 0 ≤ v.toInt ∧ v.toInt ≤ 1 ∧ h = h' ∧ (v.toInt = 1 → TD h.2.1 (h.2.1 70 6).toInt)) 0 2 [(0, .ref 70), (1, .int l1)] [] h) := by
    intro n
    induction n with
    | zero => exact (by intros; omega)
    | succ n ih =>
      refine ?_
      ·
        intro l1 l1l l1u x0 hm
        refine go_iload_n (pc := 2) rfl dX8_isTold_2 ?_
        refine go_aload_n (pc := 3) rfl dX8_isTold_3 ?_
        refine gi_getF (pc := 4) (q := 75) hv fL_X8_23 rfl (Nat.le_of_ble_eq_true rfl) rfl (hv.rf (by decide)) dX8_isTold_4 ?_
        refine go_aload_n (pc := 7) rfl dX8_isTold_7 ?_
        refine gi_get (pc := 8) (lo := 0) (hi := 1) hv fL_X8_187 rfl (Nat.le_of_ble_eq_true rfl) rfl rfl dX8_isTold_8 (fun v1 v1l v1u v1w => ?_)
        have v1S : v1.toInt = S := by rw [v1w, hv.fy (j := 6) (by omega), ← hv.fy (j := 6) (by omega)]; exact hS.symm
        refine gi_iald (pc := 11) (lo := 0) (hi := 40) (len := 2) hv (ti_rfl v1) rfl (by omega) (by omega) (fun _ => rfl) dX8_isTold_11 (fun v2 v2l v2u v2w => ?_)
        have v2V : v2.toInt = V h.2.1 75 S := by rw [v2w, v1S]; rfl
        refine gf_icmp_ge (pc := 12) (tgt := 54) (ti_rfl l1) (ti_rfl v2) (by decide) dX8_isTold_12 (fun q3 => ?_) (fun q3 => ?_)
        ·
          refine go_iconst (pc := 54) (v := 1) (by decide) dX8_isTold_54 ?_
          exact gi_zret (pc := 55) (ti_c (v := 1) (a := 1) (by decide)) (by omega) (by omega) ⟨_, rfl, (by rw [show (1 : Int32).toInt = 1 from (ti_c (v := 1) (a := 1) (by decide))]; omega), (by rw [show (1 : Int32).toInt = 1 from (ti_c (v := 1) (a := 1) (by decide))]; omega), rfl, (fun _ => by rw [← hS]; exact fun k h1 h2 => x0 k h1 (by omega))⟩ hv dX8_isTold_55
        ·
          refine go_aload_n (pc := 15) rfl dX8_isTold_15 ?_
          refine gi_getF (pc := 16) (q := 84) hv fL_X8_50 rfl (Nat.le_of_ble_eq_true rfl) rfl (hv.rf (by decide)) dX8_isTold_16 ?_
          refine go_aload_n (pc := 19) rfl dX8_isTold_19 ?_
          refine gi_getF (pc := 20) (q := 93) hv fL_X8_77 rfl (Nat.le_of_ble_eq_true rfl) rfl (hv.rf (by decide)) dX8_isTold_20 ?_
          refine go_bipush (pc := 23) (v := 40) (by decide) dX8_isTold_23 ?_
          refine go_aload_n (pc := 25) rfl dX8_isTold_25 ?_
          refine gi_get (pc := 26) (lo := 0) (hi := 1) hv fL_X8_187 rfl (Nat.le_of_ble_eq_true rfl) rfl rfl dX8_isTold_26 (fun v4 v4l v4u v4w => ?_)
          have v4r : v1 = h.2.1 70 6 := v1w
          have v4q : TI v4 v1.toInt := by rw [v4w.trans v4r.symm]; exact (ti_rfl v1)
          refine gf_imul (pc := 29) (ti_c (v := 40) (a := 40) (by decide)) v4q (by omega) (by omega) dX8_isTold_29 (fun v5 e6 => ?_)
          refine go_iload_n (pc := 30) rfl dX8_isTold_30 ?_
          refine gf_iadd (pc := 31) e6 (ti_rfl l1) (by omega) (by omega) dX8_isTold_31 (fun v7 e8 => ?_)
          refine gi_iald (pc := 32) (lo := 0) (hi := 259) (len := 80) hv e8 rfl (by omega) (by omega) (fun _ => rfl) dX8_isTold_32 (fun v9 v9l v9u v9w => ?_)
          have v9V : v9.toInt = V h.2.1 93 (((40 * S) + l1.toInt)) := by rw [v9w, v1S]; rfl
          refine gi_iald (pc := 33) (lo := -2) (hi := 4) (len := 260) hv (ti_rfl v9) rfl (by omega) (by omega) (fun _ => rfl) dX8_isTold_33 (fun v10 v10l v10u v10w => ?_)
          have v10V : v10.toInt = V h.2.1 84 v9.toInt := by rw [v10w]; rfl
          refine go_aload_n (pc := 34) rfl dX8_isTold_34 ?_
          refine gi_getF (pc := 35) (q := 76) hv fL_X8_26 rfl (Nat.le_of_ble_eq_true rfl) rfl (hv.rf (by decide)) dX8_isTold_35 ?_
          refine go_aload_n (pc := 38) rfl dX8_isTold_38 ?_
          refine gi_get (pc := 39) (lo := 0) (hi := 1) hv fL_X8_187 rfl (Nat.le_of_ble_eq_true rfl) rfl rfl dX8_isTold_39 (fun v11 v11l v11u v11w => ?_)
          have v11r : v1 = h.2.1 70 6 := v1w
          have v11q : TI v11 v1.toInt := by rw [v11w.trans v11r.symm]; exact (ti_rfl v1)
          refine gi_iald (pc := 42) (lo := 0) (hi := 5) (len := 2) hv v11q rfl (by omega) (by omega) (fun _ => rfl) dX8_isTold_42 (fun v12 v12l v12u v12w => ?_)
          have v12V : v12.toInt = V h.2.1 76 S := by rw [v12w, v1S]; rfl
          refine gf_icmp_lt (pc := 43) (tgt := 48) (ti_rfl v10) (ti_rfl v12) (by decide) dX8_isTold_43 (fun q13 => ?_) (fun q13 => ?_)
          ·
            refine gf_iinc (pc := 48) (Nat.le_of_ble_eq_true rfl) rfl (ti_rfl l1) (ti_c (by decide)) (by omega) (by omega) dX8_isTold_48 (fun v14 e15 => ?_)
            refine go_lv (lv2 := [(0, .ref 70), (1, .int v14)]) rfl ?_
            refine go_goto (pc := 51) (tgt := 2) (by decide) dX8_isTold_51 ?_
            have z16 : (v14 : Int32).toInt = (l1.toInt + 1) := e15
            exact go_lv rfl (ih v14  (by omega) (by omega) (fun k h1 h2 => by rcases Int.lt_or_eq_of_le (show k ≤ l1.toInt by omega) with q | q; (exact x0 k h1 q); (rw [q, ← v9V]; omega)) (by omega))
          ·
            refine go_iconst (pc := 46) (v := 0) (by decide) dX8_isTold_46 ?_
            exact gi_zret (pc := 47) (ti_c (v := 0) (a := 0) (by decide)) (by omega) (by omega) ⟨_, rfl, (by rw [show (0 : Int32).toInt = 0 from (ti_c (v := 0) (a := 0) (by decide))]; omega), (by rw [show (0 : Int32).toInt = 0 from (ti_c (v := 0) (a := 0) (by decide))]; omega), rfl, (by intro q; exact absurd q (by decide))⟩ hv dX8_isTold_47
  refine go_iconst (pc := 0) (v := 0) (by decide) dX8_isTold_0 ?_
  refine go_istore_n (pc := 1) (Nat.le_of_ble_eq_true rfl) dX8_isTold_1 (go_lv (lv2 := [(0, .ref 70), (1, .int 0)]) rfl ?_)
  have z17 : (0 : Int32).toInt = 0 := (ti_c (v := 0) (a := 0) (by decide))
  exact go_lv rfl ((key 139) 0  (by omega) (by omega) (fun k h1 h2 => absurd h2 (by omega)) (by omega))
