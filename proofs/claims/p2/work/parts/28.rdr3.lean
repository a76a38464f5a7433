theorem dX3_readSecond_0 : decode cX3_readSecond 0 = .ok (.aload_n 0, 1) := by decide +kernel
theorem dX3_readSecond_1 : decode cX3_readSecond 1 = .ok (.invokevirtual 66, 3) := by decide +kernel
theorem dX3_readSecond_4 : decode cX3_readSecond 4 = .ok (.istore_n 2, 1) := by decide +kernel
theorem dX3_readSecond_5 : decode cX3_readSecond 5 = .ok (.aload_n 0, 1) := by decide +kernel
theorem dX3_readSecond_6 : decode cX3_readSecond 6 = .ok (.getfield 28, 3) := by decide +kernel
theorem dX3_readSecond_9 : decode cX3_readSecond 9 = .ok (.getfield 134, 3) := by decide +kernel
theorem dX3_readSecond_12 : decode cX3_readSecond 12 = .ok (.iload_n 1, 1) := by decide +kernel
theorem dX3_readSecond_13 : decode cX3_readSecond 13 = .ok (.iaload, 1) := by decide +kernel
theorem dX3_readSecond_14 : decode cX3_readSecond 14 = .ok (.istore_n 3, 1) := by decide +kernel
theorem dX3_readSecond_15 : decode cX3_readSecond 15 = .ok (.iload_n 3, 1) := by decide +kernel
theorem dX3_readSecond_16 : decode cX3_readSecond 16 = .ok (.iconst (-1), 1) := by decide +kernel
theorem dX3_readSecond_17 : decode cX3_readSecond 17 = .ok (.if_icmp .ne 65, 3) := by decide +kernel
theorem dX3_readSecond_20 : decode cX3_readSecond 20 = .ok (.iload_n 2, 1) := by decide +kernel
theorem dX3_readSecond_21 : decode cX3_readSecond 21 = .ok (.invokestatic 137, 3) := by decide +kernel
theorem dX3_readSecond_24 : decode cX3_readSecond 24 = .ok (.istore 4, 2) := by decide +kernel
theorem dX3_readSecond_26 : decode cX3_readSecond 26 = .ok (.iload 4, 2) := by decide +kernel
theorem dX3_readSecond_28 : decode cX3_readSecond 28 = .ok (.iconst (-1), 1) := by decide +kernel
theorem dX3_readSecond_29 : decode cX3_readSecond 29 = .ok (.if_icmp .eq 11, 3) := by decide +kernel
theorem dX3_readSecond_32 : decode cX3_readSecond 32 = .ok (.iload 4, 2) := by decide +kernel
theorem dX3_readSecond_34 : decode cX3_readSecond 34 = .ok (.invokestatic 141, 3) := by decide +kernel
theorem dX3_readSecond_37 : decode cX3_readSecond 37 = .ok (.ifCond .eq 15, 3) := by decide +kernel
theorem dX3_readSecond_40 : decode cX3_readSecond 40 = .ok (.aload_n 0, 1) := by decide +kernel
theorem dX3_readSecond_41 : decode cX3_readSecond 41 = .ok (.iconst 1, 1) := by decide +kernel
theorem dX3_readSecond_42 : decode cX3_readSecond 42 = .ok (.aload_n 0, 1) := by decide +kernel
theorem dX3_readSecond_43 : decode cX3_readSecond 43 = .ok (.getfield 19, 3) := by decide +kernel
theorem dX3_readSecond_46 : decode cX3_readSecond 46 = .ok (.invokevirtual 101, 3) := by decide +kernel
theorem dX3_readSecond_49 : decode cX3_readSecond 49 = .ok (.goto 30, 3) := by decide +kernel
theorem dX3_readSecond_52 : decode cX3_readSecond 52 = .ok (.aload_n 0, 1) := by decide +kernel
theorem dX3_readSecond_53 : decode cX3_readSecond 53 = .ok (.dup, 1) := by decide +kernel
theorem dX3_readSecond_54 : decode cX3_readSecond 54 = .ok (.getfield 19, 3) := by decide +kernel
theorem dX3_readSecond_57 : decode cX3_readSecond 57 = .ok (.iconst 1, 1) := by decide +kernel
theorem dX3_readSecond_58 : decode cX3_readSecond 58 = .ok (.iadd, 1) := by decide +kernel
theorem dX3_readSecond_59 : decode cX3_readSecond 59 = .ok (.putfield 19, 3) := by decide +kernel
theorem dX3_readSecond_62 : decode cX3_readSecond 62 = .ok (.aload_n 0, 1) := by decide +kernel
theorem dX3_readSecond_63 : decode cX3_readSecond 63 = .ok (.getfield 28, 3) := by decide +kernel
theorem dX3_readSecond_66 : decode cX3_readSecond 66 = .ok (.getfield 145, 3) := by decide +kernel
theorem dX3_readSecond_69 : decode cX3_readSecond 69 = .ok (.iload_n 1, 1) := by decide +kernel
theorem dX3_readSecond_70 : decode cX3_readSecond 70 = .ok (.iload 4, 2) := by decide +kernel
theorem dX3_readSecond_72 : decode cX3_readSecond 72 = .ok (.iastore, 1) := by decide +kernel
theorem dX3_readSecond_73 : decode cX3_readSecond 73 = .ok (.aload_n 0, 1) := by decide +kernel
theorem dX3_readSecond_74 : decode cX3_readSecond 74 = .ok (.iload_n 1, 1) := by decide +kernel
theorem dX3_readSecond_75 : decode cX3_readSecond 75 = .ok (.iconst 1, 1) := by decide +kernel
theorem dX3_readSecond_76 : decode cX3_readSecond 76 = .ok (.invokevirtual 118, 3) := by decide +kernel
theorem dX3_readSecond_79 : decode cX3_readSecond 79 = .ok (.goto 38, 3) := by decide +kernel
theorem dX3_readSecond_82 : decode cX3_readSecond 82 = .ok (.aload_n 0, 1) := by decide +kernel
theorem dX3_readSecond_83 : decode cX3_readSecond 83 = .ok (.getfield 46, 3) := by decide +kernel
theorem dX3_readSecond_86 : decode cX3_readSecond 86 = .ok (.getfield 148, 3) := by decide +kernel
theorem dX3_readSecond_89 : decode cX3_readSecond 89 = .ok (.iload_n 3, 1) := by decide +kernel
theorem dX3_readSecond_90 : decode cX3_readSecond 90 = .ok (.iaload, 1) := by decide +kernel
theorem dX3_readSecond_91 : decode cX3_readSecond 91 = .ok (.iconst 2, 1) := by decide +kernel
theorem dX3_readSecond_92 : decode cX3_readSecond 92 = .ok (.if_icmp .ne 25, 3) := by decide +kernel
theorem dX3_readSecond_95 : decode cX3_readSecond 95 = .ok (.iload_n 2, 1) := by decide +kernel
theorem dX3_readSecond_96 : decode cX3_readSecond 96 = .ok (.bipush 58, 2) := by decide +kernel
theorem dX3_readSecond_98 : decode cX3_readSecond 98 = .ok (.if_icmp .ne 19, 3) := by decide +kernel
theorem dX3_readSecond_101 : decode cX3_readSecond 101 = .ok (.aload_n 0, 1) := by decide +kernel
theorem dX3_readSecond_102 : decode cX3_readSecond 102 = .ok (.dup, 1) := by decide +kernel
theorem dX3_readSecond_103 : decode cX3_readSecond 103 = .ok (.getfield 19, 3) := by decide +kernel
theorem dX3_readSecond_106 : decode cX3_readSecond 106 = .ok (.iconst 1, 1) := by decide +kernel
theorem dX3_readSecond_107 : decode cX3_readSecond 107 = .ok (.iadd, 1) := by decide +kernel
theorem dX3_readSecond_108 : decode cX3_readSecond 108 = .ok (.putfield 19, 3) := by decide +kernel
theorem dX3_readSecond_111 : decode cX3_readSecond 111 = .ok (.aload_n 0, 1) := by decide +kernel
theorem dX3_readSecond_112 : decode cX3_readSecond 112 = .ok (.iload_n 1, 1) := by decide +kernel
theorem dX3_readSecond_113 : decode cX3_readSecond 113 = .ok (.iconst 1, 1) := by decide +kernel
theorem dX3_readSecond_114 : decode cX3_readSecond 114 = .ok (.invokevirtual 118, 3) := by decide +kernel
theorem dX3_readSecond_117 : decode cX3_readSecond 117 = .ok (.return_, 1) := by decide +kernel
set_option maxHeartbeats 4000000 in
set_option maxRecDepth 100000 in
theorem s_X3_readSecond (l : Launch) (d : Nat) {P : PP} {h : HP} (hv : Iv P h) (a2 : Int32) (a2l : 0 ≤ a2.toInt) (a2u : a2.toInt ≤ 127) : Mt l yX3_readSecond cX3_readSecond 5 none (d + 3) [.ref 34, .int a2] h 0 0 (fun r h' => r = none ∧ Iv P h') := by
  refine Mt_iv hv (by decide) (Nat.le_of_ble_eq_true rfl) ?_
  show Go l RX3 cX3_readSecond 5 (g_rm (d + 3) 0 0) "readSecond" none 117 0 0 (fun _ _ => True) (fun r h' => r = none ∧ Iv P h') 0 0 [(0, .ref 34), (1, .int a2)] [] h
  have key : ∀ n : Nat, (∀  (hx : HP), Iv P hx → (0 : Int) ≤ (hx.2.1 34 2).toInt → (hx.2.1 34 2).toInt ≤ 500 → (3 : Int) < n → Go l RX3 cX3_readSecond 5 (g_rm (d + 3) 0 0) "readSecond" none 117 0 0 (fun _ _ => True) (fun r h' => r = none ∧ Iv P h') 0 40 [(0, .ref 34)] [] hx) ∧ (∀  (hx : HP), Iv P hx → (0 : Int) ≤ (hx.2.1 34 2).toInt → (hx.2.1 34 2).toInt ≤ 500 → (2 : Int) < n → Go l RX3 cX3_readSecond 5 (g_rm (d + 3) 0 0) "readSecond" none 117 0 0 (fun _ _ => True) (fun r h' => r = none ∧ Iv P h') 0 79 [] [] hx) ∧ (∀  (hx : HP), Iv P hx → (0 : Int) ≤ (hx.2.1 34 2).toInt → (hx.2.1 34 2).toInt ≤ 500 → (1 : Int) < n → Go l RX3 cX3_readSecond 5 (g_rm (d + 3) 0 0) "readSecond" none 117 0 0 (fun _ _ => True) (fun r h' => r = none ∧ Iv P h') 0 117 [] [] hx) := by
    intro n
    induction n with
    | zero => exact ⟨(by intros; omega), (by intros; omega), (by intros; omega)⟩
    | succ n ih =>
      refine ⟨?_, ?_, ?_⟩
      ·
        intro hx hvx y0l y0u hm
        refine go_aload_n (pc := 40) rfl dX3_readSecond_40 ?_
        refine go_iconst (pc := 41) (v := 1) (by decide) dX3_readSecond_41 ?_
        refine go_aload_n (pc := 42) rfl dX3_readSecond_42 ?_
        refine gi_get (pc := 43) (lo := 0) (hi := 500) hvx fL_X3_19 rfl (Nat.le_of_ble_eq_true rfl) rfl rfl dX3_readSecond_43 (fun v1 v1l v1u v1w => ?_)
        have g2 : (hx.2.1 34 2).toInt = v1.toInt := by rw [v1w]
        have g3 : (0 : Int) ≤ (hx.2.1 34 2).toInt := (hvx.2.1 34 2).1
        have g4 : (hx.2.1 34 2).toInt ≤ 500 := (hvx.2.1 34 2).2
        have g5 : (hx.2.1 34 2).toInt = v1.toInt := by rw [← (show v1 = hx.2.1 34 2 from v1w)] <;> exact (ti_rfl v1)
        refine go_invV (pc := 46) (sl := 0) (s_X3_blame l (d + 1) hvx 1 v1) mL_X3_101 iM_X3_blame sM_X3_blame (hvx.sh rfl) rfl rfl rfl (Nat.le_of_ble_eq_true rfl) (show d + 1 + 1 + 1 ≤ d + 3 by omega) (show 8 + (3 + 11) + 40 * (d + 1 + 1) ≤ 40 * (d + 3) by omega) (g_c0 hvx.ln) (Nat.le_of_ble_eq_true rfl) dX3_readSecond_46 ?_
        intro r h6 hq _
        obtain ⟨rfl, hv6, f7, f8, f9⟩ := hq
        try rw [show (1 : Int32).toInt = 1 from (ti_c (v := 1) (a := 1) (by decide))] at f7
        try rw [show (1 : Int32).toInt = 1 from (ti_c (v := 1) (a := 1) (by decide))] at f8
        try rw [show (1 : Int32).toInt = 1 from (ti_c (v := 1) (a := 1) (by decide))] at f9
        obtain ⟨u10, u10w⟩ : ∃ v : Int32, v = h6.2.1 34 2 := ⟨_, rfl⟩
        have u10e : (h6.2.1 34 2).toInt = u10.toInt := by rw [u10w]
        have u10l : 0 ≤ u10.toInt := by rw [u10w]; exact (hv6.2.1 34 2).1
        have u10u : u10.toInt ≤ 500 := by rw [u10w]; exact (hv6.2.1 34 2).2
        refine go_goto (pc := 49) (tgt := 79) (by decide) dX3_readSecond_49 ?_
        have g11 : (0 : Int) ≤ (h6.2.1 34 2).toInt := (hv6.2.1 34 2).1
        have g12 : (h6.2.1 34 2).toInt ≤ 500 := (hv6.2.1 34 2).2
        have g13 : (h6.2.1 34 2).toInt = u10.toInt := by rw [← (show u10 = h6.2.1 34 2 from u10w)] <;> exact (ti_rfl u10)
        exact go_lv rfl (ih.2.1  h6 hv6 (by omega) (by omega) (by omega))
      ·
        intro hx hvx y0l y0u hm
        refine go_goto (pc := 79) (tgt := 117) (by decide) dX3_readSecond_79 ?_
        have g14 : (0 : Int) ≤ (hx.2.1 34 2).toInt := (hvx.2.1 34 2).1
        have g15 : (hx.2.1 34 2).toInt ≤ 500 := (hvx.2.1 34 2).2
        exact go_lv rfl (ih.2.2  hx hvx (by omega) (by omega) (by omega))
      ·
        intro hx hvx y0l y0u hm
        exact gi_vret (pc := 117) ⟨rfl, hvx⟩ hvx dX3_readSecond_117
  refine go_aload_n (pc := 0) rfl dX3_readSecond_0 ?_
  have g16 : (0 : Int) ≤ (h.2.1 34 2).toInt := (hv.2.1 34 2).1
  have g17 : (h.2.1 34 2).toInt ≤ 500 := (hv.2.1 34 2).2
  refine go_invV (pc := 1) (sl := 0) (s_X3_look l (d + 1) hv ) mL_X3_66 iM_X3_look sM_X3_look (hv.sh rfl) rfl rfl rfl (Nat.le_of_ble_eq_true rfl) (show d + 1 + 1 + 1 ≤ d + 3 by omega) (show 8 + (1 + 11) + 40 * (d + 1 + 1) ≤ 40 * (d + 3) by omega) (g_c0 hv.ln) (Nat.le_of_ble_eq_true rfl) dX3_readSecond_1 ?_
  intro r h18 hq _
  obtain ⟨v22, rfl, v22l, v22u, hv18, f19, f20, f21⟩ := hq
  obtain ⟨u23, u23w⟩ : ∃ v : Int32, v = h18.2.1 34 2 := ⟨_, rfl⟩
  have u23e : (h18.2.1 34 2).toInt = u23.toInt := by rw [u23w]
  have u23l : 0 ≤ u23.toInt := by rw [u23w]; exact (hv18.2.1 34 2).1
  have u23u : u23.toInt ≤ 500 := by rw [u23w]; exact (hv18.2.1 34 2).2
  refine go_istore_n (pc := 4) (Nat.le_of_ble_eq_true rfl) dX3_readSecond_4 (go_lv (lv2 := [(0, .ref 34), (1, .int a2), (2, .int v22)]) rfl ?_)
  refine go_aload_n (pc := 5) rfl dX3_readSecond_5 ?_
  refine gi_getF (pc := 6) (q := 36) hv18 fL_X3_28 rfl (Nat.le_of_ble_eq_true rfl) rfl (hv18.rf (by decide)) dX3_readSecond_6 ?_
  refine gi_getF (pc := 9) (q := 37) hv18 fL_X3_134 rfl (Nat.le_of_ble_eq_true rfl) rfl (hv18.rf (by decide)) dX3_readSecond_9 ?_
  refine go_iload_n (pc := 12) rfl dX3_readSecond_12 ?_
  refine gi_iald (pc := 13) (lo := -1) (hi := 39) (len := 128) hv18 (ti_rfl a2) rfl (by omega) (by omega) (fun _ => rfl) dX3_readSecond_13 (fun v24 v24l v24u v24w => ?_)
  refine go_istore_n (pc := 14) (Nat.le_of_ble_eq_true rfl) dX3_readSecond_14 (go_lv (lv2 := [(0, .ref 34), (1, .int a2), (2, .int v22), (3, .int v24)]) rfl ?_)
  refine go_iload_n (pc := 15) rfl dX3_readSecond_15 ?_
  refine go_iconst (pc := 16) (v := (-1)) (by decide) dX3_readSecond_16 ?_
  refine gf_icmp_ne (pc := 17) (tgt := 82) (ti_rfl v24) (ti_c (v := (-1)) (a := (-1)) (by decide)) (by decide) dX3_readSecond_17 (fun q25 => ?_) (fun q25 => ?_)
  ·
    refine go_aload_n (pc := 82) rfl dX3_readSecond_82 ?_
    refine gi_getC (pc := 83) hv18 fL_X3_46 rfl (Nat.le_of_ble_eq_true rfl) rfl (by decide) dX3_readSecond_83 (fun c26 hc26 fc26 => ?_)
    refine gi_getF (pc := 86) (q := c26 + 2) hv18 fL_X3_148 (by rcases hc26 with rfl | rfl <;> rfl) (Nat.le_of_ble_eq_true rfl) rfl (by rcases hc26 with rfl | rfl <;> exact hv18.rf (by decide)) dX3_readSecond_86 ?_
    refine go_iload_n (pc := 89) rfl dX3_readSecond_89 ?_
    refine gi_iald (pc := 90) (lo := 0) (hi := 5) (len := 40) hv18 (ti_rfl v24) (by rcases hc26 with rfl | rfl <;> rfl) (by omega) (by omega) (fun _ => by rcases hc26 with rfl | rfl <;> rfl) dX3_readSecond_90 (fun v27 v27l v27u v27w => ?_)
    refine go_iconst (pc := 91) (v := 2) (by decide) dX3_readSecond_91 ?_
    refine gf_icmp_ne (pc := 92) (tgt := 117) (ti_rfl v27) (ti_c (v := 2) (a := 2) (by decide)) (by decide) dX3_readSecond_92 (fun q28 => ?_) (fun q28 => ?_)
    ·
      have g29 : (0 : Int) ≤ (h18.2.1 34 2).toInt := (hv18.2.1 34 2).1
      have g30 : (h18.2.1 34 2).toInt ≤ 500 := (hv18.2.1 34 2).2
      have g31 : (h18.2.1 34 2).toInt = u23.toInt := by rw [← (show u23 = h18.2.1 34 2 from u23w)] <;> exact (ti_rfl u23)
      exact go_lv rfl ((key 16).2.2  h18 hv18 (by omega) (by omega) (by omega))
    ·
      refine go_iload_n (pc := 95) rfl dX3_readSecond_95 ?_
      refine go_bipush (pc := 96) (v := 58) (by decide) dX3_readSecond_96 ?_
      refine gf_icmp_ne (pc := 98) (tgt := 117) (ti_rfl v22) (ti_c (v := 58) (a := 58) (by decide)) (by decide) dX3_readSecond_98 (fun q32 => ?_) (fun q32 => ?_)
      ·
        have g33 : (0 : Int) ≤ (h18.2.1 34 2).toInt := (hv18.2.1 34 2).1
        have g34 : (h18.2.1 34 2).toInt ≤ 500 := (hv18.2.1 34 2).2
        have g35 : (h18.2.1 34 2).toInt = u23.toInt := by rw [← (show u23 = h18.2.1 34 2 from u23w)] <;> exact (ti_rfl u23)
        exact go_lv rfl ((key 16).2.2  h18 hv18 (by omega) (by omega) (by omega))
      ·
        refine go_aload_n (pc := 101) rfl dX3_readSecond_101 ?_
        refine go_dup (pc := 102) rfl dX3_readSecond_102 ?_
        refine gi_get (pc := 103) (lo := 0) (hi := 500) hv18 fL_X3_19 rfl (Nat.le_of_ble_eq_true rfl) rfl rfl dX3_readSecond_103 (fun v36 v36l v36u v36w => ?_)
        have v36r : u23 = h18.2.1 34 2 := u23w
        have v36q : TI v36 u23.toInt := by rw [v36w.trans v36r.symm]; exact (ti_rfl u23)
        refine go_iconst (pc := 106) (v := 1) (by decide) dX3_readSecond_106 ?_
        refine gf_iadd (pc := 107) v36q (ti_c (v := 1) (a := 1) (by decide)) (by omega) (by omega) dX3_readSecond_107 (fun v37 e38 => ?_)
        refine gi_put (pc := 108) (lo := 0) (hi := 500) hv18 e38 (fP_X3_19 _) rfl (Nat.le_of_ble_eq_true rfl) rfl rfl (by omega) (by omega) rfl rfl (by decide) (by decide) (by decide) (by decide) dX3_readSecond_108 (fun h39 hv39 hv39e => ?_)
        refine go_aload_n (pc := 111) rfl dX3_readSecond_111 ?_
        refine go_iload_n (pc := 112) rfl dX3_readSecond_112 ?_
        refine go_iconst (pc := 113) (v := 1) (by decide) dX3_readSecond_113 ?_
        refine go_invV (pc := 114) (sl := 0) (s_X3_openBlock l (d + 0) hv39 a2 (by rw [show (a2 : Int32).toInt = a2.toInt from (ti_rfl a2)]; omega) (by rw [show (a2 : Int32).toInt = a2.toInt from (ti_rfl a2)]; omega) 1 (by rw [show (1 : Int32).toInt = 1 from (ti_c (v := 1) (a := 1) (by decide))]; omega) (by rw [show (1 : Int32).toInt = 1 from (ti_c (v := 1) (a := 1) (by decide))]; omega)) mL_X3_118 iM_X3_openBlock sM_X3_openBlock (hv39.sh rfl) rfl rfl rfl (Nat.le_of_ble_eq_true rfl) (show d + 0 + 2 + 1 ≤ d + 3 by omega) (show 8 + (3 + 11) + 40 * (d + 0 + 2) ≤ 40 * (d + 3) by omega) (g_c0 hv39.ln) (Nat.le_of_ble_eq_true rfl) dX3_readSecond_114 ?_
        intro r h40 hq _
        obtain ⟨rfl, hv40⟩ := hq
        obtain ⟨u41, u41w⟩ : ∃ v : Int32, v = h40.2.1 34 2 := ⟨_, rfl⟩
        have u41e : (h40.2.1 34 2).toInt = u41.toInt := by rw [u41w]
        have u41l : 0 ≤ u41.toInt := by rw [u41w]; exact (hv40.2.1 34 2).1
        have u41u : u41.toInt ≤ 500 := by rw [u41w]; exact (hv40.2.1 34 2).2
        have g42 : (0 : Int) ≤ (h40.2.1 34 2).toInt := (hv40.2.1 34 2).1
        have g43 : (h40.2.1 34 2).toInt ≤ 500 := (hv40.2.1 34 2).2
        have g44 : (h40.2.1 34 2).toInt = u41.toInt := by rw [← (show u41 = h40.2.1 34 2 from u41w)] <;> exact (ti_rfl u41)
        exact go_lv rfl ((key 16).2.2  h40 hv40 (by omega) (by omega) (by omega))
  ·
    refine go_iload_n (pc := 20) rfl dX3_readSecond_20 ?_
    refine go_invS (pc := 21) (sl := 0) (s_X3_nameOf l (d + 1) hv18 v22) mL_X3_137 iM_X3_nameOf rfl rfl (Nat.le_of_ble_eq_true rfl) (show d + 1 + 1 + 1 ≤ d + 3 by omega) (show 8 + (1 + 11) + 40 * (d + 1 + 1) ≤ 40 * (d + 3) by omega) (g_c0 hv18.ln) (Nat.le_of_ble_eq_true rfl) dX3_readSecond_21 ?_
    intro r h45 hq _
    obtain ⟨v47, rfl, v47l, v47u, rfl, f46⟩ := hq
    refine go_istore (pc := 24) (Nat.le_of_ble_eq_true rfl) dX3_readSecond_24 (go_lv (lv2 := [(0, .ref 34), (1, .int a2), (2, .int v22), (3, .int v24), (4, .int v47)]) rfl ?_)
    refine go_iload (pc := 26) rfl dX3_readSecond_26 ?_
    refine go_iconst (pc := 28) (v := (-1)) (by decide) dX3_readSecond_28 ?_
    refine gf_icmp_eq (pc := 29) (tgt := 40) (ti_rfl v47) (ti_c (v := (-1)) (a := (-1)) (by decide)) (by decide) dX3_readSecond_29 (fun q48 => ?_) (fun q48 => ?_)
    ·
      have g49 : (0 : Int) ≤ (h18.2.1 34 2).toInt := (hv18.2.1 34 2).1
      have g50 : (h18.2.1 34 2).toInt ≤ 500 := (hv18.2.1 34 2).2
      have g51 : (h18.2.1 34 2).toInt = u23.toInt := by rw [← (show u23 = h18.2.1 34 2 from u23w)] <;> exact (ti_rfl u23)
      exact go_lv rfl ((key 16).1  h18 hv18 (by omega) (by omega) (by omega))
    ·
      refine go_iload (pc := 32) rfl dX3_readSecond_32 ?_
      refine go_invS (pc := 34) (sl := 0) (s_X7_isField l (d + 1) hv18 v47) mL_X3_141 iM_X7_isField rfl rfl (Nat.le_of_ble_eq_true rfl) (show d + 1 + 1 + 1 ≤ d + 3 by omega) (show 8 + (1 + 11) + 40 * (d + 1 + 1) ≤ 40 * (d + 3) by omega) (g_c0 hv18.ln) (Nat.le_of_ble_eq_true rfl) dX3_readSecond_34 ?_
      intro r h52 hq _
      obtain ⟨v54, rfl, v54l, v54u, rfl, f55, f53⟩ := hq
      refine gf_if_eq (pc := 37) (tgt := 52) (ti_rfl v54) (by decide) dX3_readSecond_37 (fun q56 => ?_) (fun q56 => ?_)
      ·
        refine go_aload_n (pc := 52) rfl dX3_readSecond_52 ?_
        refine go_dup (pc := 53) rfl dX3_readSecond_53 ?_
        refine gi_get (pc := 54) (lo := 0) (hi := 500) hv18 fL_X3_19 rfl (Nat.le_of_ble_eq_true rfl) rfl rfl dX3_readSecond_54 (fun v57 v57l v57u v57w => ?_)
        have v57r : u23 = h18.2.1 34 2 := u23w
        have v57q : TI v57 u23.toInt := by rw [v57w.trans v57r.symm]; exact (ti_rfl u23)
        refine go_iconst (pc := 57) (v := 1) (by decide) dX3_readSecond_57 ?_
        refine gf_iadd (pc := 58) v57q (ti_c (v := 1) (a := 1) (by decide)) (by omega) (by omega) dX3_readSecond_58 (fun v58 e59 => ?_)
        refine gi_put (pc := 59) (lo := 0) (hi := 500) hv18 e59 (fP_X3_19 _) rfl (Nat.le_of_ble_eq_true rfl) rfl rfl (by omega) (by omega) rfl rfl (by decide) (by decide) (by decide) (by decide) dX3_readSecond_59 (fun h60 hv60 hv60e => ?_)
        refine go_aload_n (pc := 62) rfl dX3_readSecond_62 ?_
        refine gi_getF (pc := 63) (q := 36) hv60 fL_X3_28 rfl (Nat.le_of_ble_eq_true rfl) rfl (hv60.rf (by decide)) dX3_readSecond_63 ?_
        refine gi_getF (pc := 66) (q := 41) hv60 fL_X3_145 rfl (Nat.le_of_ble_eq_true rfl) rfl (hv60.rf (by decide)) dX3_readSecond_66 ?_
        refine go_iload_n (pc := 69) rfl dX3_readSecond_69 ?_
        refine go_iload (pc := 70) rfl dX3_readSecond_70 ?_
        refine gi_iast (pc := 72) (lo := -1) (hi := 5) (len := 128) hv60 (ti_rfl a2) (ti_rfl v47) rfl (by omega) (by omega) (fun _ => rfl) (by omega) (by omega) (by decide) dX3_readSecond_72 (fun h61 hv61 hv61e => ?_)
        refine go_aload_n (pc := 73) rfl dX3_readSecond_73 ?_
        refine go_iload_n (pc := 74) rfl dX3_readSecond_74 ?_
        refine go_iconst (pc := 75) (v := 1) (by decide) dX3_readSecond_75 ?_
        refine go_invV (pc := 76) (sl := 0) (s_X3_openBlock l (d + 0) hv61 a2 (by rw [show (a2 : Int32).toInt = a2.toInt from (ti_rfl a2)]; omega) (by rw [show (a2 : Int32).toInt = a2.toInt from (ti_rfl a2)]; omega) 1 (by rw [show (1 : Int32).toInt = 1 from (ti_c (v := 1) (a := 1) (by decide))]; omega) (by rw [show (1 : Int32).toInt = 1 from (ti_c (v := 1) (a := 1) (by decide))]; omega)) mL_X3_118 iM_X3_openBlock sM_X3_openBlock (hv61.sh rfl) rfl rfl rfl (Nat.le_of_ble_eq_true rfl) (show d + 0 + 2 + 1 ≤ d + 3 by omega) (show 8 + (3 + 11) + 40 * (d + 0 + 2) ≤ 40 * (d + 3) by omega) (g_c0 hv61.ln) (Nat.le_of_ble_eq_true rfl) dX3_readSecond_76 ?_
        intro r h62 hq _
        obtain ⟨rfl, hv62⟩ := hq
        obtain ⟨u63, u63w⟩ : ∃ v : Int32, v = h62.2.1 34 2 := ⟨_, rfl⟩
        have u63e : (h62.2.1 34 2).toInt = u63.toInt := by rw [u63w]
        have u63l : 0 ≤ u63.toInt := by rw [u63w]; exact (hv62.2.1 34 2).1
        have u63u : u63.toInt ≤ 500 := by rw [u63w]; exact (hv62.2.1 34 2).2
        have g64 : (0 : Int) ≤ (h62.2.1 34 2).toInt := (hv62.2.1 34 2).1
        have g65 : (h62.2.1 34 2).toInt ≤ 500 := (hv62.2.1 34 2).2
        have g66 : (h62.2.1 34 2).toInt = u63.toInt := by rw [← (show u63 = h62.2.1 34 2 from u63w)] <;> exact (ti_rfl u63)
        exact go_lv rfl ((key 16).2.1  h62 hv62 (by omega) (by omega) (by omega))
      ·
        have g67 : (0 : Int) ≤ (h18.2.1 34 2).toInt := (hv18.2.1 34 2).1
        have g68 : (h18.2.1 34 2).toInt ≤ 500 := (hv18.2.1 34 2).2
        have g69 : (h18.2.1 34 2).toInt = u23.toInt := by rw [← (show u23 = h18.2.1 34 2 from u23w)] <;> exact (ti_rfl u23)
        exact go_lv rfl ((key 16).1  h18 hv18 (by omega) (by omega) (by omega))
