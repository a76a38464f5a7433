
set_option maxHeartbeats 4000000 in
set_option maxRecDepth 100000 in
theorem s_X8_ends_x_f (l : Launch) (d : Nat) {P : PP} {h : HP} (hv : Iv P h) (a2 : Int32) (a2l : 0 ≤ a2.toInt) (a2u : a2.toInt ≤ 39) (ckf : CKF h.2.1) : Mt l yX8_ends cX8_ends 6 none (d + 4) [.ref 70, .int a2] h 0 0 (fun r h' => r = none ∧ Iv P h' ∧ (FX KAr h h')) := by
  refine Mt_iv hv (by decide) (Nat.le_of_ble_eq_true rfl) ?_
  show Go l RX8 cX8_ends 6 (g_rm (d + 4) 0 0) "ends" none 117 0 0 (fun _ _ => True) (fun r h' => r = none ∧ Iv P h' ∧ (FX KAr h h')) 0 0 [(0, .ref 70), (1, .int a2)] [] h
  have ck : CK P := CK.of hv ckf
  have fx : FX KAr h h := FX.rfl
  have key : ∀ n : Nat, (∀ (l1 : Int32) (l2 : Int32) (hx : HP), Iv P hx → 0 ≤ l1.toInt → l1.toInt ≤ 39 → 0 ≤ l2.toInt → l2.toInt ≤ 4 → FX KAr h hx → (11 : Int) < n → Go l RX8 cX8_ends 6 (g_rm (d + 4) 0 0) "ends" none 117 0 0 (fun _ _ => True) (fun r h' => r = none ∧ Iv P h' ∧ (FX KAr h h')) 0 46 [(0, .ref 70), (1, .int l1), (2, .int l2)] [] hx) ∧ (∀ (l1 : Int32) (l2 : Int32) (s0 : Int32) (hx : HP), Iv P hx → 0 ≤ l1.toInt → l1.toInt ≤ 39 → 0 ≤ l2.toInt → l2.toInt ≤ 4 → 0 ≤ s0.toInt → s0.toInt ≤ 1 → FX KAr h hx → (10 : Int) < n → Go l RX8 cX8_ends 6 (g_rm (d + 4) 0 0) "ends" none 117 0 0 (fun _ _ => True) (fun r h' => r = none ∧ Iv P h' ∧ (FX KAr h h')) 0 47 [(0, .ref 70), (1, .int l1), (2, .int l2)] [.int s0] hx) ∧ (∀ (l1 : Int32) (l2 : Int32) (l3 : Int32) (hx : HP), Iv P hx → 0 ≤ l1.toInt → l1.toInt ≤ 39 → 0 ≤ l2.toInt → l2.toInt ≤ 4 → 0 ≤ l3.toInt → l3.toInt ≤ 1 → FX KAr h hx → (8 : Int) < n → Go l RX8 cX8_ends 6 (g_rm (d + 4) 0 0) "ends" none 117 0 0 (fun _ _ => True) (fun r h' => r = none ∧ Iv P h' ∧ (FX KAr h h')) 0 70 [(0, .ref 70), (1, .int l1), (2, .int l2), (3, .int l3)] [] hx) ∧ (∀ (l1 : Int32) (l2 : Int32) (l3 : Int32) (hx : HP), Iv P hx → 0 ≤ l1.toInt → l1.toInt ≤ 39 → 0 ≤ l2.toInt → l2.toInt ≤ 4 → 0 ≤ l3.toInt → l3.toInt ≤ 1 → FX KAr h hx → (9 : Int) < n → Go l RX8 cX8_ends 6 (g_rm (d + 4) 0 0) "ends" none 117 0 0 (fun _ _ => True) (fun r h' => r = none ∧ Iv P h' ∧ (FX KAr h h')) 0 74 [(0, .ref 70), (1, .int l1), (2, .int l2), (3, .int l3)] [] hx) ∧ (∀ (l1 : Int32) (l2 : Int32) (l3 : Int32) (s0 : Int32) (hx : HP), Iv P hx → 0 ≤ l1.toInt → l1.toInt ≤ 39 → 0 ≤ l2.toInt → l2.toInt ≤ 4 → 0 ≤ l3.toInt → l3.toInt ≤ 1 → 0 ≤ s0.toInt → s0.toInt ≤ 1 → FX KAr h hx → (7 : Int) < n → Go l RX8 cX8_ends 6 (g_rm (d + 4) 0 0) "ends" none 117 0 0 (fun _ _ => True) (fun r h' => r = none ∧ Iv P h' ∧ (FX KAr h h')) 0 75 [(0, .ref 70), (1, .int l1), (2, .int l2), (3, .int l3)] [.int s0] hx) ∧ (∀ (l1 : Int32) (l2 : Int32) (l4 : Int32) (hx : HP), Iv P hx → 0 ≤ l1.toInt → l1.toInt ≤ 39 → 0 ≤ l2.toInt → l2.toInt ≤ 4 → 0 ≤ l4.toInt → l4.toInt ≤ 1 → FX KAr h hx → (6 : Int) < n → Go l RX8 cX8_ends 6 (g_rm (d + 4) 0 0) "ends" none 117 0 0 (fun _ _ => True) (fun r h' => r = none ∧ Iv P h' ∧ (FX KAr h h')) 0 93 [(0, .ref 70), (1, .int l1), (2, .int l2), (4, .int l4)] [] hx) ∧ (∀ (l1 : Int32) (l2 : Int32) (l4 : Int32) (s0 : Int32) (hx : HP), Iv P hx → 0 ≤ l1.toInt → l1.toInt ≤ 39 → 0 ≤ l2.toInt → l2.toInt ≤ 4 → 0 ≤ l4.toInt → l4.toInt ≤ 1 → 0 ≤ s0.toInt → s0.toInt ≤ 1 → FX KAr h hx → (5 : Int) < n → Go l RX8 cX8_ends 6 (g_rm (d + 4) 0 0) "ends" none 117 0 0 (fun _ _ => True) (fun r h' => r = none ∧ Iv P h' ∧ (FX KAr h h')) 0 94 [(0, .ref 70), (1, .int l1), (2, .int l2), (4, .int l4)] [.int s0] hx) ∧ (∀ (l1 : Int32) (l2 : Int32) (l4 : Int32) (l5 : Int32) (hx : HP), Iv P hx → 0 ≤ l1.toInt → l1.toInt ≤ 39 → 0 ≤ l2.toInt → l2.toInt ≤ 4 → 0 ≤ l4.toInt → l4.toInt ≤ 1 → 0 ≤ l5.toInt → l5.toInt ≤ 1 → FX KAr h hx → (4 : Int) < n → Go l RX8 cX8_ends 6 (g_rm (d + 4) 0 0) "ends" none 117 0 0 (fun _ _ => True) (fun r h' => r = none ∧ Iv P h' ∧ (FX KAr h h')) 0 116 [(0, .ref 70), (1, .int l1), (2, .int l2), (4, .int l4), (5, .int l5)] [] hx) ∧ (∀ (l1 : Int32) (l2 : Int32) (l4 : Int32) (l5 : Int32) (hx : HP), Iv P hx → 0 ≤ l1.toInt → l1.toInt ≤ 39 → 0 ≤ l2.toInt → l2.toInt ≤ 4 → 0 ≤ l4.toInt → l4.toInt ≤ 1 → 0 ≤ l5.toInt → l5.toInt ≤ 1 → FX KAr h hx → (3 : Int) < n → Go l RX8 cX8_ends 6 (g_rm (d + 4) 0 0) "ends" none 117 0 0 (fun _ _ => True) (fun r h' => r = none ∧ Iv P h' ∧ (FX KAr h h')) 0 137 [(0, .ref 70), (1, .int l1), (2, .int l2), (4, .int l4), (5, .int l5)] [] hx) ∧ (∀ (l1 : Int32) (l2 : Int32) (l5 : Int32) (hx : HP), Iv P hx → 0 ≤ l1.toInt → l1.toInt ≤ 39 → 0 ≤ l2.toInt → l2.toInt ≤ 4 → 0 ≤ l5.toInt → l5.toInt ≤ 1 → FX KAr h hx → (2 : Int) < n → Go l RX8 cX8_ends 6 (g_rm (d + 4) 0 0) "ends" none 117 0 0 (fun _ _ => True) (fun r h' => r = none ∧ Iv P h' ∧ (FX KAr h h')) 0 174 [(0, .ref 70), (1, .int l1), (2, .int l2), (5, .int l5)] [] hx) ∧ (∀  (hx : HP), Iv P hx → FX KAr h hx → (1 : Int) < n → Go l RX8 cX8_ends 6 (g_rm (d + 4) 0 0) "ends" none 117 0 0 (fun _ _ => True) (fun r h' => r = none ∧ Iv P h' ∧ (FX KAr h h')) 0 195 [] [] hx) := by
    intro n
    induction n with
    | zero => exact ⟨(by intros; omega), (by intros; omega), (by intros; omega), (by intros; omega), (by intros; omega), (by intros; omega), (by intros; omega), (by intros; omega), (by intros; omega), (by intros; omega), (by intros; omega)⟩
    | succ n ih =>
      refine ⟨?_, ?_, ?_, ?_, ?_, ?_, ?_, ?_, ?_, ?_, ?_⟩
      ·
        intro l1 l2 hx hvx l1l l1u l2l l2u fxx hm
        refine go_iconst (pc := 46) (v := 0) (by decide) dX8_ends_46 ?_
        have z1 : (0 : Int32).toInt = 0 := (ti_c (v := 0) (a := 0) (by decide))
        exact go_lv rfl (ih.2.1 l1 l2 0 hx hvx (by omega) (by omega) (by omega) (by omega) (by omega) (by omega) fxx (by omega))
      ·
        intro l1 l2 s0 hx hvx l1l l1u l2l l2u s0l s0u fxx hm
        refine go_istore_n (pc := 47) (Nat.le_of_ble_eq_true rfl) dX8_ends_47 (go_lv (lv2 := [(0, .ref 70), (1, .int l1), (2, .int l2), (3, .int s0)]) rfl ?_)
        refine go_aload_n (pc := 48) rfl dX8_ends_48 ?_
        refine go_iload_n (pc := 49) rfl dX8_ends_49 ?_
        refine go_invV (pc := 50) (sl := 0) (s_X8_kindAt l (d + 1) hvx l1 (by rw [show (l1 : Int32).toInt = l1.toInt from (ti_rfl l1)]; omega) (by rw [show (l1 : Int32).toInt = l1.toInt from (ti_rfl l1)]; omega)) mL_X8_271 iM_X8_kindAt sM_X8_kindAt (hvx.sh rfl) rfl rfl rfl (Nat.le_of_ble_eq_true rfl) (show d + 1 + 2 + 1 ≤ d + 4 by omega) (show 8 + (2 + 11) + 40 * (d + 1 + 2) ≤ 40 * (d + 4) by omega) (g_c0 hvx.ln) (Nat.le_of_ble_eq_true rfl) dX8_ends_50 ?_
        intro r h2 hq _
        obtain ⟨v4, rfl, v4l, v4u, rfl, f3⟩ := hq
        refine go_iconst (pc := 53) (v := 5) (by decide) dX8_ends_53 ?_
        refine gf_icmp_eq (pc := 54) (tgt := 70) (ti_rfl v4) (ti_c (v := 5) (a := 5) (by decide)) (by decide) dX8_ends_54 (fun q5 => ?_) (fun q5 => ?_)
        ·
          exact go_lv rfl (ih.2.2.1 l1 l2 s0 hx hvx (by omega) (by omega) (by omega) (by omega) (by omega) (by omega) fxx (by omega))
        ·
          refine go_aload_n (pc := 57) rfl dX8_ends_57 ?_
          refine go_iload_n (pc := 58) rfl dX8_ends_58 ?_
          refine go_invV (pc := 59) (sl := 0) (s_X8_kindAt l (d + 1) hvx l1 (by rw [show (l1 : Int32).toInt = l1.toInt from (ti_rfl l1)]; omega) (by rw [show (l1 : Int32).toInt = l1.toInt from (ti_rfl l1)]; omega)) mL_X8_271 iM_X8_kindAt sM_X8_kindAt (hvx.sh rfl) rfl rfl rfl (Nat.le_of_ble_eq_true rfl) (show d + 1 + 2 + 1 ≤ d + 4 by omega) (show 8 + (2 + 11) + 40 * (d + 1 + 2) ≤ 40 * (d + 4) by omega) (g_c0 hvx.ln) (Nat.le_of_ble_eq_true rfl) dX8_ends_59 ?_
          intro r h6 hq _
          obtain ⟨v8, rfl, v8l, v8u, rfl, f7⟩ := hq
          refine go_iconst (pc := 62) (v := 4) (by decide) dX8_ends_62 ?_
          refine gf_icmp_ne (pc := 63) (tgt := 74) (ti_rfl v8) (ti_c (v := 4) (a := 4) (by decide)) (by decide) dX8_ends_63 (fun q9 => ?_) (fun q9 => ?_)
          ·
            exact go_lv rfl (ih.2.2.2.1 l1 l2 s0 hx hvx (by omega) (by omega) (by omega) (by omega) (by omega) (by omega) fxx (by omega))
          ·
            refine go_iload_n (pc := 66) rfl dX8_ends_66 ?_
            refine gf_if_eq (pc := 67) (tgt := 74) (ti_rfl s0) (by decide) dX8_ends_67 (fun q10 => ?_) (fun q10 => ?_)
            ·
              exact go_lv rfl (ih.2.2.2.1 l1 l2 s0 hx hvx (by omega) (by omega) (by omega) (by omega) (by omega) (by omega) fxx (by omega))
            ·
              exact go_lv rfl (ih.2.2.1 l1 l2 s0 hx hvx (by omega) (by omega) (by omega) (by omega) (by omega) (by omega) fxx (by omega))
      ·
        intro l1 l2 l3 hx hvx l1l l1u l2l l2u l3l l3u fxx hm
        refine go_iconst (pc := 70) (v := 1) (by decide) dX8_ends_70 ?_
        refine go_goto (pc := 71) (tgt := 75) (by decide) dX8_ends_71 ?_
        have z11 : (1 : Int32).toInt = 1 := (ti_c (v := 1) (a := 1) (by decide))
        exact go_lv rfl (ih.2.2.2.2.1 l1 l2 l3 1 hx hvx (by omega) (by omega) (by omega) (by omega) (by omega) (by omega) (by omega) (by omega) fxx (by omega))
      ·
        intro l1 l2 l3 hx hvx l1l l1u l2l l2u l3l l3u fxx hm
        refine go_iconst (pc := 74) (v := 0) (by decide) dX8_ends_74 ?_
        have z12 : (0 : Int32).toInt = 0 := (ti_c (v := 0) (a := 0) (by decide))
        exact go_lv rfl (ih.2.2.2.2.1 l1 l2 l3 0 hx hvx (by omega) (by omega) (by omega) (by omega) (by omega) (by omega) (by omega) (by omega) fxx (by omega))
      ·
        intro l1 l2 l3 s0 hx hvx l1l l1u l2l l2u l3l l3u s0l s0u fxx hm
        refine go_istore (pc := 75) (Nat.le_of_ble_eq_true rfl) dX8_ends_75 (go_lv (lv2 := [(0, .ref 70), (1, .int l1), (2, .int l2), (3, .int l3), (4, .int s0)]) rfl ?_)
        refine go_aload_n (pc := 77) rfl dX8_ends_77 ?_
        refine go_iload_n (pc := 78) rfl dX8_ends_78 ?_
        refine go_invV (pc := 79) (sl := 0) (s_X8_isThrowing l (d + 0) hvx l1 (by rw [show (l1 : Int32).toInt = l1.toInt from (ti_rfl l1)]; omega) (by rw [show (l1 : Int32).toInt = l1.toInt from (ti_rfl l1)]; omega) ck) mL_X8_277 iM_X8_isThrowing sM_X8_isThrowing (hvx.sh rfl) rfl rfl rfl (Nat.le_of_ble_eq_true rfl) (show d + 0 + 3 + 1 ≤ d + 4 by omega) (show 8 + (2 + 11) + 40 * (d + 0 + 3) ≤ 40 * (d + 4) by omega) (g_c0 hvx.ln) (Nat.le_of_ble_eq_true rfl) dX8_ends_79 ?_
        intro r h13 hq _
        obtain ⟨v14, rfl, v14l, v14u, rfl⟩ := hq
        refine gf_if_eq (pc := 82) (tgt := 93) (ti_rfl v14) (by decide) dX8_ends_82 (fun q15 => ?_) (fun q15 => ?_)
        ·
          exact go_lv rfl (ih.2.2.2.2.2.1 l1 l2 s0 hx hvx (by omega) (by omega) (by omega) (by omega) (by omega) (by omega) fxx (by omega))
        ·
          refine go_iload_n (pc := 85) rfl dX8_ends_85 ?_
          refine gf_if_eq (pc := 86) (tgt := 93) (ti_rfl l3) (by decide) dX8_ends_86 (fun q16 => ?_) (fun q16 => ?_)
          ·
            exact go_lv rfl (ih.2.2.2.2.2.1 l1 l2 s0 hx hvx (by omega) (by omega) (by omega) (by omega) (by omega) (by omega) fxx (by omega))
          ·
            refine go_iconst (pc := 89) (v := 1) (by decide) dX8_ends_89 ?_
            refine go_goto (pc := 90) (tgt := 94) (by decide) dX8_ends_90 ?_
            have z17 : (1 : Int32).toInt = 1 := (ti_c (v := 1) (a := 1) (by decide))
            exact go_lv rfl (ih.2.2.2.2.2.2.1 l1 l2 s0 1 hx hvx (by omega) (by omega) (by omega) (by omega) (by omega) (by omega) (by omega) (by omega) fxx (by omega))
      ·
        intro l1 l2 l4 hx hvx l1l l1u l2l l2u l4l l4u fxx hm
        refine go_iconst (pc := 93) (v := 0) (by decide) dX8_ends_93 ?_
        have z18 : (0 : Int32).toInt = 0 := (ti_c (v := 0) (a := 0) (by decide))
        exact go_lv rfl (ih.2.2.2.2.2.2.1 l1 l2 l4 0 hx hvx (by omega) (by omega) (by omega) (by omega) (by omega) (by omega) (by omega) (by omega) fxx (by omega))
      ·
        intro l1 l2 l4 s0 hx hvx l1l l1u l2l l2u l4l l4u s0l s0u fxx hm
        refine go_istore (pc := 94) (Nat.le_of_ble_eq_true rfl) dX8_ends_94 (go_lv (lv2 := [(0, .ref 70), (1, .int l1), (2, .int l2), (4, .int l4), (5, .int s0)]) rfl ?_)
        refine go_iload (pc := 96) rfl dX8_ends_96 ?_
        refine gf_if_eq (pc := 98) (tgt := 116) (ti_rfl l4) (by decide) dX8_ends_98 (fun q19 => ?_) (fun q19 => ?_)
        ·
          exact go_lv rfl (ih.2.2.2.2.2.2.2.1 l1 l2 l4 s0 hx hvx (by omega) (by omega) (by omega) (by omega) (by omega) (by omega) (by omega) (by omega) fxx (by omega))
        ·
          refine go_aload_n (pc := 101) rfl dX8_ends_101 ?_
          refine go_iload_n (pc := 102) rfl dX8_ends_102 ?_
          refine go_bipush (pc := 103) (v := 7) (by decide) dX8_ends_103 ?_
          refine go_invS (pc := 105) (sl := 0) (s_X8_procedurePlace l (d + 2) hvx l2 (by rw [show (l2 : Int32).toInt = l2.toInt from (ti_rfl l2)]; omega) (by rw [show (l2 : Int32).toInt = l2.toInt from (ti_rfl l2)]; omega) 7 (by rw [show (7 : Int32).toInt = 7 from (ti_c (v := 7) (a := 7) (by decide))]; omega) (by rw [show (7 : Int32).toInt = 7 from (ti_c (v := 7) (a := 7) (by decide))]; omega)) mL_X8_300 iM_X8_procedurePlace rfl rfl (Nat.le_of_ble_eq_true rfl) (show d + 2 + 1 + 1 ≤ d + 4 by omega) (show 8 + (2 + 11) + 40 * (d + 2 + 1) ≤ 40 * (d + 4) by omega) (g_c0 hvx.ln) (Nat.le_of_ble_eq_true rfl) dX8_ends_105 ?_
          intro r h20 hq _
          obtain ⟨v21, rfl, v21l, v21u, rfl⟩ := hq
          refine go_iload_n (pc := 108) rfl dX8_ends_108 ?_
          refine go_iconst (pc := 109) (v := 0) (by decide) dX8_ends_109 ?_
          refine go_invS (pc := 110) (sl := 0) (s_X8_statementPlace l (d + 2) hvx l1 (by rw [show (l1 : Int32).toInt = l1.toInt from (ti_rfl l1)]; omega) (by rw [show (l1 : Int32).toInt = l1.toInt from (ti_rfl l1)]; omega) 0 (by rw [show (0 : Int32).toInt = 0 from (ti_c (v := 0) (a := 0) (by decide))]; omega) (by rw [show (0 : Int32).toInt = 0 from (ti_c (v := 0) (a := 0) (by decide))]; omega)) mL_X8_291 iM_X8_statementPlace rfl rfl (Nat.le_of_ble_eq_true rfl) (show d + 2 + 1 + 1 ≤ d + 4 by omega) (show 8 + (2 + 11) + 40 * (d + 2 + 1) ≤ 40 * (d + 4) by omega) (g_c0 hvx.ln) (Nat.le_of_ble_eq_true rfl) dX8_ends_110 ?_
          intro r h22 hq _
          obtain ⟨v23, rfl, v23l, v23u, rfl⟩ := hq
          refine go_invV (pc := 113) (sl := 0) (s_X8_hang_f l (d + 2) hvx v21 (by rw [show (v21 : Int32).toInt = v21.toInt from (ti_rfl v21)]; omega) (by rw [show (v21 : Int32).toInt = v21.toInt from (ti_rfl v21)]; omega) v23 (by rw [show (v23 : Int32).toInt = v23.toInt from (ti_rfl v23)]; omega) (by rw [show (v23 : Int32).toInt = v23.toInt from (ti_rfl v23)]; omega)) mL_X8_303 iM_X8_hang sM_X8_hang (hvx.sh rfl) rfl rfl rfl (Nat.le_of_ble_eq_true rfl) (show d + 2 + 1 + 1 ≤ d + 4 by omega) (show 8 + (3 + 11) + 40 * (d + 2 + 1) ≤ 40 * (d + 4) by omega) (g_c0 hvx.ln) (Nat.le_of_ble_eq_true rfl) dX8_ends_113 ?_
          intro r h24 hq _
          obtain ⟨rfl, hv24, f25⟩ := hq
          have fx24 : FX KAr h h24 := FX.tr fxx f25
          exact go_lv rfl (ih.2.2.2.2.2.2.2.1 l1 l2 l4 s0 h24 hv24 (by omega) (by omega) (by omega) (by omega) (by omega) (by omega) (by omega) (by omega) fx24 (by omega))
      ·
        intro l1 l2 l4 l5 hx hvx l1l l1u l2l l2u l4l l4u l5l l5u fxx hm
        refine go_iload (pc := 116) rfl dX8_ends_116 ?_
        refine gf_if_eq (pc := 118) (tgt := 137) (ti_rfl l5) (by decide) dX8_ends_118 (fun q26 => ?_) (fun q26 => ?_)
        ·
          exact go_lv rfl (ih.2.2.2.2.2.2.2.2.1 l1 l2 l4 l5 hx hvx (by omega) (by omega) (by omega) (by omega) (by omega) (by omega) (by omega) (by omega) fxx (by omega))
        ·
          refine go_aload_n (pc := 121) rfl dX8_ends_121 ?_
          refine go_iload_n (pc := 122) rfl dX8_ends_122 ?_
          refine go_bipush (pc := 123) (v := 7) (by decide) dX8_ends_123 ?_
          refine go_invS (pc := 125) (sl := 0) (s_X8_procedurePlace l (d + 2) hvx l2 (by rw [show (l2 : Int32).toInt = l2.toInt from (ti_rfl l2)]; omega) (by rw [show (l2 : Int32).toInt = l2.toInt from (ti_rfl l2)]; omega) 7 (by rw [show (7 : Int32).toInt = 7 from (ti_c (v := 7) (a := 7) (by decide))]; omega) (by rw [show (7 : Int32).toInt = 7 from (ti_c (v := 7) (a := 7) (by decide))]; omega)) mL_X8_300 iM_X8_procedurePlace rfl rfl (Nat.le_of_ble_eq_true rfl) (show d + 2 + 1 + 1 ≤ d + 4 by omega) (show 8 + (2 + 11) + 40 * (d + 2 + 1) ≤ 40 * (d + 4) by omega) (g_c0 hvx.ln) (Nat.le_of_ble_eq_true rfl) dX8_ends_125 ?_
          intro r h27 hq _
          obtain ⟨v28, rfl, v28l, v28u, rfl⟩ := hq
          refine go_iload_n (pc := 128) rfl dX8_ends_128 ?_
          refine go_bipush (pc := 129) (v := 7) (by decide) dX8_ends_129 ?_
          refine go_invS (pc := 131) (sl := 0) (s_X8_statementPlace l (d + 2) hvx l1 (by rw [show (l1 : Int32).toInt = l1.toInt from (ti_rfl l1)]; omega) (by rw [show (l1 : Int32).toInt = l1.toInt from (ti_rfl l1)]; omega) 7 (by rw [show (7 : Int32).toInt = 7 from (ti_c (v := 7) (a := 7) (by decide))]; omega) (by rw [show (7 : Int32).toInt = 7 from (ti_c (v := 7) (a := 7) (by decide))]; omega)) mL_X8_291 iM_X8_statementPlace rfl rfl (Nat.le_of_ble_eq_true rfl) (show d + 2 + 1 + 1 ≤ d + 4 by omega) (show 8 + (2 + 11) + 40 * (d + 2 + 1) ≤ 40 * (d + 4) by omega) (g_c0 hvx.ln) (Nat.le_of_ble_eq_true rfl) dX8_ends_131 ?_
          intro r h29 hq _
          obtain ⟨v30, rfl, v30l, v30u, rfl⟩ := hq
          refine go_invV (pc := 134) (sl := 0) (s_X8_hang_f l (d + 2) hvx v28 (by rw [show (v28 : Int32).toInt = v28.toInt from (ti_rfl v28)]; omega) (by rw [show (v28 : Int32).toInt = v28.toInt from (ti_rfl v28)]; omega) v30 (by rw [show (v30 : Int32).toInt = v30.toInt from (ti_rfl v30)]; omega) (by rw [show (v30 : Int32).toInt = v30.toInt from (ti_rfl v30)]; omega)) mL_X8_303 iM_X8_hang sM_X8_hang (hvx.sh rfl) rfl rfl rfl (Nat.le_of_ble_eq_true rfl) (show d + 2 + 1 + 1 ≤ d + 4 by omega) (show 8 + (3 + 11) + 40 * (d + 2 + 1) ≤ 40 * (d + 4) by omega) (g_c0 hvx.ln) (Nat.le_of_ble_eq_true rfl) dX8_ends_134 ?_
          intro r h31 hq _
          obtain ⟨rfl, hv31, f32⟩ := hq
          have fx31 : FX KAr h h31 := FX.tr fxx f32
          exact go_lv rfl (ih.2.2.2.2.2.2.2.2.1 l1 l2 l4 l5 h31 hv31 (by omega) (by omega) (by omega) (by omega) (by omega) (by omega) (by omega) (by omega) fx31 (by omega))
      ·
        intro l1 l2 l4 l5 hx hvx l1l l1u l2l l2u l4l l4u l5l l5u fxx hm
        refine go_aload_n (pc := 137) rfl dX8_ends_137 ?_
        refine gi_getF (pc := 138) (q := 102) hvx fL_X8_105 rfl (Nat.le_of_ble_eq_true rfl) rfl (hvx.rf (by decide)) dX8_ends_138 ?_
        refine go_iconst (pc := 141) (v := 5) (by decide) dX8_ends_141 ?_
        refine go_aload_n (pc := 142) rfl dX8_ends_142 ?_
        refine gi_get (pc := 143) (lo := 0) (hi := 1) hvx fL_X8_187 rfl (Nat.le_of_ble_eq_true rfl) rfl rfl dX8_ends_143 (fun v33 v33l v33u v33w => ?_)
        refine gf_imul (pc := 146) (ti_c (v := 5) (a := 5) (by decide)) (ti_rfl v33) (by omega) (by omega) dX8_ends_146 (fun v34 e35 => ?_)
        refine go_iload_n (pc := 147) rfl dX8_ends_147 ?_
        refine gf_iadd (pc := 148) e35 (ti_rfl l2) (by omega) (by omega) dX8_ends_148 (fun v36 e37 => ?_)
        refine gi_zald (pc := 149) (lo := 0) (hi := 1) (len := 10) hvx e37 rfl (by omega) (by omega) (fun _ => rfl) dX8_ends_149 (fun v38 v38l v38u v38w => ?_)
        refine gf_if_ne (pc := 150) (tgt := 154) (ti_rfl v38) (by decide) dX8_ends_150 (fun q39 => ?_) (fun q39 => ?_)
        ·
          refine go_iload (pc := 154) rfl dX8_ends_154 ?_
          refine gf_if_eq (pc := 156) (tgt := 174) (ti_rfl l4) (by decide) dX8_ends_156 (fun q40 => ?_) (fun q40 => ?_)
          ·
            exact go_lv rfl (ih.2.2.2.2.2.2.2.2.2.1 l1 l2 l5 hx hvx (by omega) (by omega) (by omega) (by omega) (by omega) (by omega) fxx (by omega))
          ·
            refine go_aload_n (pc := 159) rfl dX8_ends_159 ?_
            refine go_iload_n (pc := 160) rfl dX8_ends_160 ?_
            refine go_bipush (pc := 161) (v := 8) (by decide) dX8_ends_161 ?_
            refine go_invS (pc := 163) (sl := 0) (s_X8_procedurePlace l (d + 2) hvx l2 (by rw [show (l2 : Int32).toInt = l2.toInt from (ti_rfl l2)]; omega) (by rw [show (l2 : Int32).toInt = l2.toInt from (ti_rfl l2)]; omega) 8 (by rw [show (8 : Int32).toInt = 8 from (ti_c (v := 8) (a := 8) (by decide))]; omega) (by rw [show (8 : Int32).toInt = 8 from (ti_c (v := 8) (a := 8) (by decide))]; omega)) mL_X8_300 iM_X8_procedurePlace rfl rfl (Nat.le_of_ble_eq_true rfl) (show d + 2 + 1 + 1 ≤ d + 4 by omega) (show 8 + (2 + 11) + 40 * (d + 2 + 1) ≤ 40 * (d + 4) by omega) (g_c0 hvx.ln) (Nat.le_of_ble_eq_true rfl) dX8_ends_163 ?_
            intro r h41 hq _
            obtain ⟨v42, rfl, v42l, v42u, rfl⟩ := hq
            refine go_iload_n (pc := 166) rfl dX8_ends_166 ?_
            refine go_iconst (pc := 167) (v := 0) (by decide) dX8_ends_167 ?_
            refine go_invS (pc := 168) (sl := 0) (s_X8_statementPlace l (d + 2) hvx l1 (by rw [show (l1 : Int32).toInt = l1.toInt from (ti_rfl l1)]; omega) (by rw [show (l1 : Int32).toInt = l1.toInt from (ti_rfl l1)]; omega) 0 (by rw [show (0 : Int32).toInt = 0 from (ti_c (v := 0) (a := 0) (by decide))]; omega) (by rw [show (0 : Int32).toInt = 0 from (ti_c (v := 0) (a := 0) (by decide))]; omega)) mL_X8_291 iM_X8_statementPlace rfl rfl (Nat.le_of_ble_eq_true rfl) (show d + 2 + 1 + 1 ≤ d + 4 by omega) (show 8 + (2 + 11) + 40 * (d + 2 + 1) ≤ 40 * (d + 4) by omega) (g_c0 hvx.ln) (Nat.le_of_ble_eq_true rfl) dX8_ends_168 ?_
            intro r h43 hq _
            obtain ⟨v44, rfl, v44l, v44u, rfl⟩ := hq
            refine go_invV (pc := 171) (sl := 0) (s_X8_hang_f l (d + 2) hvx v42 (by rw [show (v42 : Int32).toInt = v42.toInt from (ti_rfl v42)]; omega) (by rw [show (v42 : Int32).toInt = v42.toInt from (ti_rfl v42)]; omega) v44 (by rw [show (v44 : Int32).toInt = v44.toInt from (ti_rfl v44)]; omega) (by rw [show (v44 : Int32).toInt = v44.toInt from (ti_rfl v44)]; omega)) mL_X8_303 iM_X8_hang sM_X8_hang (hvx.sh rfl) rfl rfl rfl (Nat.le_of_ble_eq_true rfl) (show d + 2 + 1 + 1 ≤ d + 4 by omega) (show 8 + (3 + 11) + 40 * (d + 2 + 1) ≤ 40 * (d + 4) by omega) (g_c0 hvx.ln) (Nat.le_of_ble_eq_true rfl) dX8_ends_171 ?_
            intro r h45 hq _
            obtain ⟨rfl, hv45, f46⟩ := hq
            have fx45 : FX KAr h h45 := FX.tr fxx f46
            exact go_lv rfl (ih.2.2.2.2.2.2.2.2.2.1 l1 l2 l5 h45 hv45 (by omega) (by omega) (by omega) (by omega) (by omega) (by omega) fx45 (by omega))
        ·
          exact gi_vret (pc := 153) ⟨rfl, hvx, fxx⟩ hvx dX8_ends_153
      ·
        intro l1 l2 l5 hx hvx l1l l1u l2l l2u l5l l5u fxx hm
        refine go_iload (pc := 174) rfl dX8_ends_174 ?_
        refine gf_if_eq (pc := 176) (tgt := 195) (ti_rfl l5) (by decide) dX8_ends_176 (fun q47 => ?_) (fun q47 => ?_)
        ·
          exact go_lv rfl (ih.2.2.2.2.2.2.2.2.2.2  hx hvx fxx (by omega))
        ·
          refine go_aload_n (pc := 179) rfl dX8_ends_179 ?_
          refine go_iload_n (pc := 180) rfl dX8_ends_180 ?_
          refine go_bipush (pc := 181) (v := 8) (by decide) dX8_ends_181 ?_
          refine go_invS (pc := 183) (sl := 0) (s_X8_procedurePlace l (d + 2) hvx l2 (by rw [show (l2 : Int32).toInt = l2.toInt from (ti_rfl l2)]; omega) (by rw [show (l2 : Int32).toInt = l2.toInt from (ti_rfl l2)]; omega) 8 (by rw [show (8 : Int32).toInt = 8 from (ti_c (v := 8) (a := 8) (by decide))]; omega) (by rw [show (8 : Int32).toInt = 8 from (ti_c (v := 8) (a := 8) (by decide))]; omega)) mL_X8_300 iM_X8_procedurePlace rfl rfl (Nat.le_of_ble_eq_true rfl) (show d + 2 + 1 + 1 ≤ d + 4 by omega) (show 8 + (2 + 11) + 40 * (d + 2 + 1) ≤ 40 * (d + 4) by omega) (g_c0 hvx.ln) (Nat.le_of_ble_eq_true rfl) dX8_ends_183 ?_
          intro r h48 hq _
          obtain ⟨v49, rfl, v49l, v49u, rfl⟩ := hq
          refine go_iload_n (pc := 186) rfl dX8_ends_186 ?_
          refine go_bipush (pc := 187) (v := 8) (by decide) dX8_ends_187 ?_
          refine go_invS (pc := 189) (sl := 0) (s_X8_statementPlace l (d + 2) hvx l1 (by rw [show (l1 : Int32).toInt = l1.toInt from (ti_rfl l1)]; omega) (by rw [show (l1 : Int32).toInt = l1.toInt from (ti_rfl l1)]; omega) 8 (by rw [show (8 : Int32).toInt = 8 from (ti_c (v := 8) (a := 8) (by decide))]; omega) (by rw [show (8 : Int32).toInt = 8 from (ti_c (v := 8) (a := 8) (by decide))]; omega)) mL_X8_291 iM_X8_statementPlace rfl rfl (Nat.le_of_ble_eq_true rfl) (show d + 2 + 1 + 1 ≤ d + 4 by omega) (show 8 + (2 + 11) + 40 * (d + 2 + 1) ≤ 40 * (d + 4) by omega) (g_c0 hvx.ln) (Nat.le_of_ble_eq_true rfl) dX8_ends_189 ?_
          intro r h50 hq _
          obtain ⟨v51, rfl, v51l, v51u, rfl⟩ := hq
          refine go_invV (pc := 192) (sl := 0) (s_X8_hang_f l (d + 2) hvx v49 (by rw [show (v49 : Int32).toInt = v49.toInt from (ti_rfl v49)]; omega) (by rw [show (v49 : Int32).toInt = v49.toInt from (ti_rfl v49)]; omega) v51 (by rw [show (v51 : Int32).toInt = v51.toInt from (ti_rfl v51)]; omega) (by rw [show (v51 : Int32).toInt = v51.toInt from (ti_rfl v51)]; omega)) mL_X8_303 iM_X8_hang sM_X8_hang (hvx.sh rfl) rfl rfl rfl (Nat.le_of_ble_eq_true rfl) (show d + 2 + 1 + 1 ≤ d + 4 by omega) (show 8 + (3 + 11) + 40 * (d + 2 + 1) ≤ 40 * (d + 4) by omega) (g_c0 hvx.ln) (Nat.le_of_ble_eq_true rfl) dX8_ends_192 ?_
          intro r h52 hq _
          obtain ⟨rfl, hv52, f53⟩ := hq
          have fx52 : FX KAr h h52 := FX.tr fxx f53
          exact go_lv rfl (ih.2.2.2.2.2.2.2.2.2.2  h52 hv52 fx52 (by omega))
      ·
        intro hx hvx fxx hm
        exact gi_vret (pc := 195) ⟨rfl, hvx, fxx⟩ hvx dX8_ends_195
  refine go_aload_n (pc := 0) rfl dX8_ends_0 ?_
  refine go_iload_n (pc := 1) rfl dX8_ends_1 ?_
  refine go_invV (pc := 2) (sl := 0) (s_X8_procedureOf l (d + 1) hv a2 (by rw [show (a2 : Int32).toInt = a2.toInt from (ti_rfl a2)]; omega) (by rw [show (a2 : Int32).toInt = a2.toInt from (ti_rfl a2)]; omega)) mL_X8_306 iM_X8_procedureOf sM_X8_procedureOf (hv.sh rfl) rfl rfl rfl (Nat.le_of_ble_eq_true rfl) (show d + 1 + 2 + 1 ≤ d + 4 by omega) (show 8 + (2 + 11) + 40 * (d + 1 + 2) ≤ 40 * (d + 4) by omega) (g_c0 hv.ln) (Nat.le_of_ble_eq_true rfl) dX8_ends_2 ?_
  intro r h54 hq _
  obtain ⟨v55, rfl, v55l, v55u, rfl⟩ := hq
  refine go_istore_n (pc := 5) (Nat.le_of_ble_eq_true rfl) dX8_ends_5 (go_lv (lv2 := [(0, .ref 70), (1, .int a2), (2, .int v55)]) rfl ?_)
  refine go_aload_n (pc := 6) rfl dX8_ends_6 ?_
  refine gi_getF (pc := 7) (q := 98) hv fL_X8_92 rfl (Nat.le_of_ble_eq_true rfl) rfl (hv.rf (by decide)) dX8_ends_7 ?_
  refine go_bipush (pc := 10) (v := 40) (by decide) dX8_ends_10 ?_
  refine go_aload_n (pc := 12) rfl dX8_ends_12 ?_
  refine gi_get (pc := 13) (lo := 0) (hi := 1) hv fL_X8_187 rfl (Nat.le_of_ble_eq_true rfl) rfl rfl dX8_ends_13 (fun v56 v56l v56u v56w => ?_)
  refine gf_imul (pc := 16) (ti_c (v := 40) (a := 40) (by decide)) (ti_rfl v56) (by omega) (by omega) dX8_ends_16 (fun v57 e58 => ?_)
  refine go_iload_n (pc := 17) rfl dX8_ends_17 ?_
  refine gf_iadd (pc := 18) e58 (ti_rfl a2) (by omega) (by omega) dX8_ends_18 (fun v59 e60 => ?_)
  refine gi_iald (pc := 19) (lo := -1) (hi := 39) (len := 80) hv e60 rfl (by omega) (by omega) (fun _ => rfl) dX8_ends_19 (fun v61 v61l v61u v61w => ?_)
  refine go_iconst (pc := 20) (v := (-1)) (by decide) dX8_ends_20 ?_
  refine gf_icmp_ne (pc := 21) (tgt := 46) (ti_rfl v61) (ti_c (v := (-1)) (a := (-1)) (by decide)) (by decide) dX8_ends_21 (fun q62 => ?_) (fun q62 => ?_)
  ·
    exact go_lv rfl ((key 24).1 a2 v55 h hv (by omega) (by omega) (by omega) (by omega) fx (by omega))
  ·
    refine go_aload_n (pc := 24) rfl dX8_ends_24 ?_
    refine gi_getF (pc := 25) (q := 99) hv fL_X8_95 rfl (Nat.le_of_ble_eq_true rfl) rfl (hv.rf (by decide)) dX8_ends_25 ?_
    refine go_bipush (pc := 28) (v := 40) (by decide) dX8_ends_28 ?_
    refine go_aload_n (pc := 30) rfl dX8_ends_30 ?_
    refine gi_get (pc := 31) (lo := 0) (hi := 1) hv fL_X8_187 rfl (Nat.le_of_ble_eq_true rfl) rfl rfl dX8_ends_31 (fun v63 v63l v63u v63w => ?_)
    have v63r : v56 = h.2.1 70 6 := v56w
    have v63q : TI v63 v56.toInt := by rw [v63w.trans v63r.symm]; exact (ti_rfl v56)
    refine gf_imul (pc := 34) (ti_c (v := 40) (a := 40) (by decide)) v63q (by omega) (by omega) dX8_ends_34 (fun v64 e65 => ?_)
    refine go_iload_n (pc := 35) rfl dX8_ends_35 ?_
    refine gf_iadd (pc := 36) e65 (ti_rfl a2) (by omega) (by omega) dX8_ends_36 (fun v66 e67 => ?_)
    refine gi_iald (pc := 37) (lo := -1) (hi := 5) (len := 80) hv e67 rfl (by omega) (by omega) (fun _ => rfl) dX8_ends_37 (fun v68 v68l v68u v68w => ?_)
    refine go_iconst (pc := 38) (v := (-1)) (by decide) dX8_ends_38 ?_
    refine gf_icmp_ne (pc := 39) (tgt := 46) (ti_rfl v68) (ti_c (v := (-1)) (a := (-1)) (by decide)) (by decide) dX8_ends_39 (fun q69 => ?_) (fun q69 => ?_)
    ·
      exact go_lv rfl ((key 24).1 a2 v55 h hv (by omega) (by omega) (by omega) (by omega) fx (by omega))
    ·
      refine go_iconst (pc := 42) (v := 1) (by decide) dX8_ends_42 ?_
      refine go_goto (pc := 43) (tgt := 47) (by decide) dX8_ends_43 ?_
      have z70 : (1 : Int32).toInt = 1 := (ti_c (v := 1) (a := 1) (by decide))
      exact go_lv rfl ((key 24).2.1 a2 v55 1 h hv (by omega) (by omega) (by omega) (by omega) (by omega) (by omega) fx (by omega))
set_option maxHeartbeats 4000000 in
set_option maxRecDepth 100000 in
theorem s_X8_uses_f (l : Launch) (d : Nat) {P : PP} {h : HP} (hv : Iv P h) (a2 : Int32) (a2l : 0 ≤ a2.toInt) (a2u : a2.toInt ≤ 584) (a3 : Int32) (a3l : 0 ≤ a3.toInt) (a3u : a3.toInt ≤ 4) (a4 : Int32) (a4l : -1 ≤ a4.toInt) (a4u : a4.toInt ≤ 39) (a5 : Int32) (a5l : 0 ≤ a5.toInt) (a5u : a5.toInt ≤ 9) (ckf : CKF h.2.1) : Mt l yX8_uses cX8_uses 14 none (d + 5) [.ref 70, .int a2, .int a3, .int a4, .int a5] h 0 0 (fun r h' => r = none ∧ Iv P h' ∧ (FX KAr h h')) := by
  refine Mt_iv hv (by decide) (Nat.le_of_ble_eq_true rfl) ?_
  show Go l RX8 cX8_uses 14 (g_rm (d + 5) 0 0) "uses" none 117 0 0 (fun _ _ => True) (fun r h' => r = none ∧ Iv P h' ∧ (FX KAr h h')) 0 0 [(0, .ref 70), (1, .int a2), (2, .int a3), (3, .int a4), (4, .int a5)] [] h
  obtain ⟨S, hS⟩ : ∃ S : Int, S = (h.2.1 70 6).toInt := ⟨_, rfl⟩
  have S0 : 0 ≤ S := by rw [hS]; exact (hv.2.1 70 6).1
  have S1 : S ≤ 1 := by rw [hS]; exact (hv.2.1 70 6).2
  have fx : FX KAr h h := FX.rfl
  have key : ∀ n : Nat, (∀ (l1 : Int32) (l2 : Int32) (l4 : Int32) (l5 : Int64) (l7 : Int64) (l9 : Int32) (hx : HP), Iv P hx → 0 ≤ l1.toInt → l1.toInt ≤ 584 → 0 ≤ l2.toInt → l2.toInt ≤ 4 → 0 ≤ l4.toInt → l4.toInt ≤ 9 → 0 ≤ l9.toInt → l9.toInt ≤ 1 → (DJ l7 l5) → (0 ≤ un l5 ∧ un l5 < 18446744073709551616) → FX KAr h hx → (10000 * (18446744073709551616 - un l5) + 5000 * l9.toInt : Int) < n → Go l RX8 cX8_uses 14 (g_rm (d + 5) 0 0) "uses" none 117 0 0 (fun _ _ => True) (fun r h' => r = none ∧ Iv P h' ∧ (FX KAr h h')) 0 29 [(0, .ref 70), (1, .int l1), (2, .int l2), (4, .int l4), (5, .long l5), (7, .long l7), (9, .int l9)] [] hx) ∧ (∀ (l1 : Int32) (l2 : Int32) (l4 : Int32) (l5 : Int64) (l7 : Int64) (l9 : Int32) (l10 : Int32) (hx : HP), Iv P hx → 0 ≤ l1.toInt → l1.toInt ≤ 584 → 0 ≤ l2.toInt → l2.toInt ≤ 4 → 0 ≤ l4.toInt → l4.toInt ≤ 9 → 0 ≤ l9.toInt → l9.toInt ≤ 0 → -1 ≤ l10.toInt → l10.toInt ≤ 63 → (DJ l7 l5) → (0 ≤ un l5 ∧ un l5 < 18446744073709551616) → FX KAr h hx → (10000 * (18446744073709551616 - un l5) + 4900 : Int) < n → Go l RX8 cX8_uses 14 (g_rm (d + 5) 0 0) "uses" none 117 0 0 (fun _ _ => True) (fun r h' => r = none ∧ Iv P h' ∧ (FX KAr h h')) 0 83 [(0, .ref 70), (1, .int l1), (2, .int l2), (4, .int l4), (5, .long l5), (7, .long l7), (9, .int l9), (10, .int l10)] [] hx) ∧ (∀ (l1 : Int32) (l2 : Int32) (l4 : Int32) (l5 : Int64) (l7 : Int64) (l9 : Int32) (l10 : Int32) (hx : HP), Iv P hx → 0 ≤ l1.toInt → l1.toInt ≤ 584 → 0 ≤ l2.toInt → l2.toInt ≤ 4 → 0 ≤ l4.toInt → l4.toInt ≤ 9 → 0 ≤ l9.toInt → l9.toInt ≤ 0 → -1 ≤ l10.toInt → l10.toInt ≤ 63 → (DJ l7 l5) → (0 ≤ un l5 ∧ un l5 < 18446744073709551616) → FX KAr h hx → (10000 * (18446744073709551616 - un l5) + 4800 : Int) < n → Go l RX8 cX8_uses 14 (g_rm (d + 5) 0 0) "uses" none 117 0 0 (fun _ _ => True) (fun r h' => r = none ∧ Iv P h' ∧ (FX KAr h h')) 0 140 [(0, .ref 70), (1, .int l1), (2, .int l2), (4, .int l4), (5, .long l5), (7, .long l7), (9, .int l9), (10, .int l10)] [] hx) ∧ (∀ (l1 : Int32) (l2 : Int32) (l4 : Int32) (l5 : Int64) (l7 : Int64) (l9 : Int32) (l10 : Int32) (l11 : Int32) (hx : HP), Iv P hx → 0 ≤ l1.toInt → l1.toInt ≤ 584 → 0 ≤ l2.toInt → l2.toInt ≤ 4 → 0 ≤ l4.toInt → l4.toInt ≤ 9 → 0 ≤ l9.toInt → l9.toInt ≤ 0 → -1 ≤ l10.toInt → l10.toInt ≤ 63 → 0 ≤ l11.toInt → l11.toInt ≤ 40 → (DJ l7 l5) → (0 ≤ un l5 ∧ un l5 < 18446744073709551616) → FX KAr h hx → (10000 * (18446744073709551616 - un l5) + 100 * (40 - l11.toInt) + 50 : Int) < n → Go l RX8 cX8_uses 14 (g_rm (d + 5) 0 0) "uses" none 117 0 0 (fun _ _ => True) (fun r h' => r = none ∧ Iv P h' ∧ (FX KAr h h')) 0 143 [(0, .ref 70), (1, .int l1), (2, .int l2), (4, .int l4), (5, .long l5), (7, .long l7), (9, .int l9), (10, .int l10), (11, .int l11)] [] hx) ∧ (∀ (l1 : Int32) (l2 : Int32) (l4 : Int32) (l5 : Int64) (l7 : Int64) (l9 : Int32) (l10 : Int32) (l11 : Int32) (l12 : Int32) (hx : HP), Iv P hx → 0 ≤ l1.toInt → l1.toInt ≤ 584 → 0 ≤ l2.toInt → l2.toInt ≤ 4 → 0 ≤ l4.toInt → l4.toInt ≤ 9 → 0 ≤ l9.toInt → l9.toInt ≤ 0 → -1 ≤ l10.toInt → l10.toInt ≤ 63 → 0 ≤ l11.toInt → l11.toInt ≤ 39 → 0 ≤ l12.toInt → l12.toInt ≤ 2 → (DJ l7 l5) → (0 ≤ un l5 ∧ un l5 < 18446744073709551616) → FX KAr h hx → (10000 * (18446744073709551616 - un l5) + 100 * (40 - l11.toInt) + (2 - l12.toInt) : Int) < n → Go l RX8 cX8_uses 14 (g_rm (d + 5) 0 0) "uses" none 117 0 0 (fun _ _ => True) (fun r h' => r = none ∧ Iv P h' ∧ (FX KAr h h')) 0 160 [(0, .ref 70), (1, .int l1), (2, .int l2), (4, .int l4), (5, .long l5), (7, .long l7), (9, .int l9), (10, .int l10), (11, .int l11), (12, .int l12)] [] hx) := by
    intro n
    induction n with
    | zero => exact ⟨(by intros; omega), (by intros; omega), (by intros; omega), (by intros; omega), (by intros; omega)⟩
    | succ n ih =>
      refine ⟨?_, ?_, ?_, ?_, ?_⟩
      ·
        intro l1 l2 l4 l5 l7 l9 hx hvx l1l l1u l2l l2u l4l l4u l9l l9u x0 x1 fxx hm
        refine go_iload (pc := 29) rfl dX8_uses_29 ?_
        refine gf_if_ne (pc := 31) (tgt := 41) (ti_rfl l9) (by decide) dX8_uses_31 (fun q1 => ?_) (fun q1 => ?_)
        ·
          refine go_iload (pc := 41) rfl dX8_uses_41 ?_
          refine gf_if_eq (pc := 43) (tgt := 50) (ti_rfl l9) (by decide) dX8_uses_43 (fun q2 => False.elim (by omega)) (fun q2 => ?_)
          refine go_iconst (pc := 46) (v := (-1)) (by decide) dX8_uses_46 ?_
          refine go_goto (pc := 47) (tgt := 55) (by decide) dX8_uses_47 ?_
          refine go_istore (pc := 55) (Nat.le_of_ble_eq_true rfl) dX8_uses_55 (go_lv (lv2 := [(0, .ref 70), (1, .int l1), (2, .int l2), (4, .int l4), (5, .long l5), (7, .long l7), (9, .int l9), (10, .int (-1))]) rfl ?_)
          refine go_iload (pc := 57) rfl dX8_uses_57 ?_
          refine gf_if_ne (pc := 59) (tgt := 80) (ti_rfl l9) (by decide) dX8_uses_59 (fun q3 => ?_) (fun q3 => False.elim (by omega))
          refine go_iconst (pc := 80) (v := 0) (by decide) dX8_uses_80 ?_
          refine go_istore (pc := 81) (Nat.le_of_ble_eq_true rfl) dX8_uses_81 (go_lv (lv2 := [(0, .ref 70), (1, .int l1), (2, .int l2), (4, .int l4), (5, .long l5), (7, .long l7), (9, .int 0), (10, .int (-1))]) rfl ?_)
          have z4 : (0 : Int32).toInt = 0 := (ti_c (v := 0) (a := 0) (by decide))
          have z5 : ((-1) : Int32).toInt = (-1) := (ti_c (v := (-1)) (a := (-1)) (by decide))
          exact go_lv rfl (ih.2.1 l1 l2 l4 l5 l7 0 (-1) hx hvx (by omega) (by omega) (by omega) (by omega) (by omega) (by omega) (by omega) (by omega) (by omega) (by omega) x0 ⟨un_lo _, un_hi _⟩ fxx (by omega))
        ·
          refine go_lload (pc := 34) rfl dX8_uses_34 ?_
          refine go_lconst (pc := 36) (v := 0) (by decide) dX8_uses_36 ?_
          refine gx_lcmp (pc := 37) dX8_uses_37 (fun v6 v6x => ?_)
          refine gf_if_eq (pc := 38) (tgt := 254) (ti_rfl v6) (by decide) dX8_uses_38 (fun q7 => ?_) (fun q7 => ?_)
          ·
            exact gi_vret (pc := 254) ⟨rfl, hvx, fxx⟩ hvx dX8_uses_254
          ·
            refine go_iload (pc := 41) rfl dX8_uses_41 ?_
            refine gf_if_eq (pc := 43) (tgt := 50) (ti_rfl l9) (by decide) dX8_uses_43 (fun q8 => ?_) (fun q8 => False.elim (by omega))
            refine go_lload (pc := 50) rfl dX8_uses_50 ?_
            refine go_invS (pc := 52) (sl := 0) (s_J13_numberOfTrailingZeros_95d88 l (d + 2) hvx l7) mL_X8_294 iM_J13_numberOfTrailingZeros_95d88 rfl rfl (Nat.le_of_ble_eq_true rfl) (show d + 2 + 2 + 1 ≤ d + 5 by omega) (show 8 + (3 + 11) + 40 * (d + 2 + 2) ≤ 40 * (d + 5) by omega) (g_c0 hvx.ln) (Nat.le_of_ble_eq_true rfl) dX8_uses_52 ?_
            intro r h9 hq _
            obtain ⟨v11, rfl, v11l, v11u, rfl, f10⟩ := hq
            have nz : ¬ l7 = 0 := fun z => absurd (show (v6 : Int32).toInt = 0 from by rw [v6x]; exact (cmp_eq _ _).mpr z) (by omega)
            have lb := f10 nz
            refine go_istore (pc := 55) (Nat.le_of_ble_eq_true rfl) dX8_uses_55 (go_lv (lv2 := [(0, .ref 70), (1, .int l1), (2, .int l2), (4, .int l4), (5, .long l5), (7, .long l7), (9, .int l9), (10, .int v11)]) rfl ?_)
            refine go_iload (pc := 57) rfl dX8_uses_57 ?_
            refine gf_if_ne (pc := 59) (tgt := 80) (ti_rfl l9) (by decide) dX8_uses_59 (fun q12 => False.elim (by omega)) (fun q12 => ?_)
            refine go_lload (pc := 62) rfl dX8_uses_62 ?_
            refine go_lload (pc := 64) rfl dX8_uses_64 ?_
            refine go_lconst (pc := 66) (v := 1) (by decide) dX8_uses_66 ?_
            refine gx_lsub (pc := 67) dX8_uses_67 (fun v13 v13x => ?_)
            refine gx_land (pc := 68) dX8_uses_68 (fun v14 v14x => ?_)
            refine go_lstore (pc := 69) (Nat.le_of_ble_eq_true rfl) dX8_uses_69 (go_lv (lv2 := [(0, .ref 70), (1, .int l1), (2, .int l2), (4, .int l4), (5, .long l5), (7, .long v14), (9, .int l9), (10, .int v11)]) rfl ?_)
            refine go_lload (pc := 71) rfl dX8_uses_71 ?_
            refine go_lconst (pc := 73) (v := 1) (by decide) dX8_uses_73 ?_
            refine go_iload (pc := 74) rfl dX8_uses_74 ?_
            refine gx_lshl (pc := 76) dX8_uses_76 (fun v15 v15x => ?_)
            refine gx_lor (pc := 77) dX8_uses_77 (fun v16 v16x => ?_)
            have dl := DJ.low (n := v11) x0 lb.2 (by omega) (by omega)
            rw [← v15x, ← v16x] at dl
            rw [← v13x, ← v14x] at dl
            have dl2 := dl.2
            refine go_lstore (pc := 78) (Nat.le_of_ble_eq_true rfl) dX8_uses_78 (go_lv (lv2 := [(0, .ref 70), (1, .int l1), (2, .int l2), (4, .int l4), (5, .long v16), (7, .long v14), (9, .int l9), (10, .int v11)]) rfl ?_)
            refine go_iconst (pc := 80) (v := 0) (by decide) dX8_uses_80 ?_
            refine go_istore (pc := 81) (Nat.le_of_ble_eq_true rfl) dX8_uses_81 (go_lv (lv2 := [(0, .ref 70), (1, .int l1), (2, .int l2), (4, .int l4), (5, .long v16), (7, .long v14), (9, .int 0), (10, .int v11)]) rfl ?_)
            have z17 : (0 : Int32).toInt = 0 := (ti_c (v := 0) (a := 0) (by decide))
            exact go_lv rfl (ih.2.1 l1 l2 l4 v16 v14 0 v11 hx hvx (by omega) (by omega) (by omega) (by omega) (by omega) (by omega) (by omega) (by omega) (by omega) (by omega) dl.1 ⟨un_lo _, un_hi _⟩ fxx (by omega))
      ·
        intro l1 l2 l4 l5 l7 l9 l10 hx hvx l1l l1u l2l l2u l4l l4u l9l l9u l10l l10u x0 x1 fxx hm
        refine go_aload_n (pc := 83) rfl dX8_uses_83 ?_
        refine gi_getF (pc := 84) (q := 100) hvx fL_X8_98 rfl (Nat.le_of_ble_eq_true rfl) rfl (hvx.rf (by decide)) dX8_uses_84 ?_
        refine go_iconst (pc := 87) (v := 5) (by decide) dX8_uses_87 ?_
        refine go_aload_n (pc := 88) rfl dX8_uses_88 ?_
        refine gi_get (pc := 89) (lo := 0) (hi := 1) hvx fL_X8_187 rfl (Nat.le_of_ble_eq_true rfl) rfl rfl dX8_uses_89 (fun v18 v18l v18u v18w => ?_)
        have v18S : v18.toInt = S := by rw [v18w, hvx.fy (j := 6) (by omega), ← hv.fy (j := 6) (by omega)]; exact hS.symm
        refine gf_imul (pc := 92) (ti_c (v := 5) (a := 5) (by decide)) (ti_rfl v18) (by omega) (by omega) dX8_uses_92 (fun v19 e20 => ?_)
        refine go_iload_n (pc := 93) rfl dX8_uses_93 ?_
        refine gf_iadd (pc := 94) e20 (ti_rfl l2) (by omega) (by omega) dX8_uses_94 (fun v21 e22 => ?_)
        refine gi_iald (pc := 95) (lo := -1) (hi := 39) (len := 10) hvx e22 rfl (by omega) (by omega) (fun _ => rfl) dX8_uses_95 (fun v23 v23l v23u v23w => ?_)
        have v23V : v23.toInt = V h.2.1 100 (((5 * S) + l2.toInt)) := by rw [v23w, v18S, hvx.fz (c := 100) (by omega) (by omega), ← hv.fz (c := 100) (by omega) (by omega)]; rfl
        refine go_iload (pc := 96) rfl dX8_uses_96 ?_
        refine gf_icmp_ne (pc := 98) (tgt := 140) (ti_rfl v23) (ti_rfl l10) (by decide) dX8_uses_98 (fun q24 => ?_) (fun q24 => ?_)
        ·
          exact go_lv rfl (ih.2.2.1 l1 l2 l4 l5 l7 l9 l10 hx hvx (by omega) (by omega) (by omega) (by omega) (by omega) (by omega) (by omega) (by omega) (by omega) (by omega) x0 ⟨un_lo _, un_hi _⟩ fxx (by omega))
        ·
          refine go_iload (pc := 101) rfl dX8_uses_101 ?_
          refine go_iconst (pc := 103) (v := 2) (by decide) dX8_uses_103 ?_
          refine gf_icmp_lt (pc := 104) (tgt := 114) (ti_rfl l4) (ti_c (v := 2) (a := 2) (by decide)) (by decide) dX8_uses_104 (fun q25 => ?_) (fun q25 => ?_)
          ·
            refine go_aload_n (pc := 114) rfl dX8_uses_114 ?_
            refine go_iload_n (pc := 115) rfl dX8_uses_115 ?_
            refine go_iload_n (pc := 116) rfl dX8_uses_116 ?_
            refine go_iconst (pc := 117) (v := 1) (by decide) dX8_uses_117 ?_
            refine go_iload (pc := 118) rfl dX8_uses_118 ?_
            refine go_iconst (pc := 120) (v := 2) (by decide) dX8_uses_120 ?_
            refine gf_icmp_ge (pc := 121) (tgt := 129) (ti_rfl l4) (ti_c (v := 2) (a := 2) (by decide)) (by decide) dX8_uses_121 (fun q26 => False.elim (by omega)) (fun q26 => ?_)
            refine go_iload (pc := 124) rfl dX8_uses_124 ?_
            refine go_goto (pc := 126) (tgt := 133) (by decide) dX8_uses_126 ?_
            refine gf_iadd (pc := 133) (ti_c (v := 1) (a := 1) (by decide)) (ti_rfl l4) (by omega) (by omega) dX8_uses_133 (fun v27 e28 => ?_)
            refine go_invS (pc := 134) (sl := 0) (s_X8_procedurePlace l (d + 3) hvx l2 (by rw [show (l2 : Int32).toInt = l2.toInt from (ti_rfl l2)]; omega) (by rw [show (l2 : Int32).toInt = l2.toInt from (ti_rfl l2)]; omega) v27 (by rw [show (v27 : Int32).toInt = (1 + l4.toInt) from e28]; omega) (by rw [show (v27 : Int32).toInt = (1 + l4.toInt) from e28]; omega)) mL_X8_300 iM_X8_procedurePlace rfl rfl (Nat.le_of_ble_eq_true rfl) (show d + 3 + 1 + 1 ≤ d + 5 by omega) (show 8 + (2 + 11) + 40 * (d + 3 + 1) ≤ 40 * (d + 5) by omega) (g_c0 hvx.ln) (Nat.le_of_ble_eq_true rfl) dX8_uses_134 ?_
            intro r h29 hq _
            obtain ⟨v30, rfl, v30l, v30u, rfl⟩ := hq
            refine go_invV (pc := 137) (sl := 0) (s_X8_hang_f l (d + 3) hvx l1 (by rw [show (l1 : Int32).toInt = l1.toInt from (ti_rfl l1)]; omega) (by rw [show (l1 : Int32).toInt = l1.toInt from (ti_rfl l1)]; omega) v30 (by rw [show (v30 : Int32).toInt = v30.toInt from (ti_rfl v30)]; omega) (by rw [show (v30 : Int32).toInt = v30.toInt from (ti_rfl v30)]; omega)) mL_X8_303 iM_X8_hang sM_X8_hang (hvx.sh rfl) rfl rfl rfl (Nat.le_of_ble_eq_true rfl) (show d + 3 + 1 + 1 ≤ d + 5 by omega) (show 8 + (3 + 11) + 40 * (d + 3 + 1) ≤ 40 * (d + 5) by omega) (g_c0 hvx.ln) (Nat.le_of_ble_eq_true rfl) dX8_uses_137 ?_
            intro r h31 hq _
            obtain ⟨rfl, hv31, f32⟩ := hq
            have fx31 : FX KAr h h31 := FX.tr fxx f32
            exact go_lv rfl (ih.2.2.1 l1 l2 l4 l5 l7 l9 l10 h31 hv31 (by omega) (by omega) (by omega) (by omega) (by omega) (by omega) (by omega) (by omega) (by omega) (by omega) x0 ⟨un_lo _, un_hi _⟩ fx31 (by omega))
          ·
            refine go_iload (pc := 107) rfl dX8_uses_107 ?_
            refine go_bipush (pc := 109) (v := 6) (by decide) dX8_uses_109 ?_
            refine gf_icmp_lt (pc := 111) (tgt := 140) (ti_rfl l4) (ti_c (v := 6) (a := 6) (by decide)) (by decide) dX8_uses_111 (fun q33 => ?_) (fun q33 => ?_)
            ·
              exact go_lv rfl (ih.2.2.1 l1 l2 l4 l5 l7 l9 l10 hx hvx (by omega) (by omega) (by omega) (by omega) (by omega) (by omega) (by omega) (by omega) (by omega) (by omega) x0 ⟨un_lo _, un_hi _⟩ fxx (by omega))
            ·
              refine go_aload_n (pc := 114) rfl dX8_uses_114 ?_
              refine go_iload_n (pc := 115) rfl dX8_uses_115 ?_
              refine go_iload_n (pc := 116) rfl dX8_uses_116 ?_
              refine go_iconst (pc := 117) (v := 1) (by decide) dX8_uses_117 ?_
              refine go_iload (pc := 118) rfl dX8_uses_118 ?_
              refine go_iconst (pc := 120) (v := 2) (by decide) dX8_uses_120 ?_
              refine gf_icmp_ge (pc := 121) (tgt := 129) (ti_rfl l4) (ti_c (v := 2) (a := 2) (by decide)) (by decide) dX8_uses_121 (fun q34 => ?_) (fun q34 => False.elim (by omega))
              refine go_iload (pc := 129) rfl dX8_uses_129 ?_
              refine go_iconst (pc := 131) (v := 4) (by decide) dX8_uses_131 ?_
              refine gf_isub (pc := 132) (ti_rfl l4) (ti_c (v := 4) (a := 4) (by decide)) (by omega) (by omega) dX8_uses_132 (fun v35 e36 => ?_)
              refine gf_iadd (pc := 133) (ti_c (v := 1) (a := 1) (by decide)) e36 (by omega) (by omega) dX8_uses_133 (fun v37 e38 => ?_)
              refine go_invS (pc := 134) (sl := 0) (s_X8_procedurePlace l (d + 3) hvx l2 (by rw [show (l2 : Int32).toInt = l2.toInt from (ti_rfl l2)]; omega) (by rw [show (l2 : Int32).toInt = l2.toInt from (ti_rfl l2)]; omega) v37 (by rw [show (v37 : Int32).toInt = (1 + (l4.toInt - 4)) from e38]; omega) (by rw [show (v37 : Int32).toInt = (1 + (l4.toInt - 4)) from e38]; omega)) mL_X8_300 iM_X8_procedurePlace rfl rfl (Nat.le_of_ble_eq_true rfl) (show d + 3 + 1 + 1 ≤ d + 5 by omega) (show 8 + (2 + 11) + 40 * (d + 3 + 1) ≤ 40 * (d + 5) by omega) (g_c0 hvx.ln) (Nat.le_of_ble_eq_true rfl) dX8_uses_134 ?_
              intro r h39 hq _
              obtain ⟨v40, rfl, v40l, v40u, rfl⟩ := hq
              refine go_invV (pc := 137) (sl := 0) (s_X8_hang_f l (d + 3) hvx l1 (by rw [show (l1 : Int32).toInt = l1.toInt from (ti_rfl l1)]; omega) (by rw [show (l1 : Int32).toInt = l1.toInt from (ti_rfl l1)]; omega) v40 (by rw [show (v40 : Int32).toInt = v40.toInt from (ti_rfl v40)]; omega) (by rw [show (v40 : Int32).toInt = v40.toInt from (ti_rfl v40)]; omega)) mL_X8_303 iM_X8_hang sM_X8_hang (hvx.sh rfl) rfl rfl rfl (Nat.le_of_ble_eq_true rfl) (show d + 3 + 1 + 1 ≤ d + 5 by omega) (show 8 + (3 + 11) + 40 * (d + 3 + 1) ≤ 40 * (d + 5) by omega) (g_c0 hvx.ln) (Nat.le_of_ble_eq_true rfl) dX8_uses_137 ?_
              intro r h41 hq _
              obtain ⟨rfl, hv41, f42⟩ := hq
              have fx41 : FX KAr h h41 := FX.tr fxx f42
              exact go_lv rfl (ih.2.2.1 l1 l2 l4 l5 l7 l9 l10 h41 hv41 (by omega) (by omega) (by omega) (by omega) (by omega) (by omega) (by omega) (by omega) (by omega) (by omega) x0 ⟨un_lo _, un_hi _⟩ fx41 (by omega))
      ·
        intro l1 l2 l4 l5 l7 l9 l10 hx hvx l1l l1u l2l l2u l4l l4u l9l l9u l10l l10u x0 x1 fxx hm
        refine go_iconst (pc := 140) (v := 0) (by decide) dX8_uses_140 ?_
        refine go_istore (pc := 141) (Nat.le_of_ble_eq_true rfl) dX8_uses_141 (go_lv (lv2 := [(0, .ref 70), (1, .int l1), (2, .int l2), (4, .int l4), (5, .long l5), (7, .long l7), (9, .int l9), (10, .int l10), (11, .int 0)]) rfl ?_)
        have z43 : (0 : Int32).toInt = 0 := (ti_c (v := 0) (a := 0) (by decide))
        exact go_lv rfl (ih.2.2.2.1 l1 l2 l4 l5 l7 l9 l10 0 hx hvx (by omega) (by omega) (by omega) (by omega) (by omega) (by omega) (by omega) (by omega) (by omega) (by omega) (by omega) (by omega) x0 ⟨un_lo _, un_hi _⟩ fxx (by omega))
      ·
        intro l1 l2 l4 l5 l7 l9 l10 l11 hx hvx l1l l1u l2l l2u l4l l4u l9l l9u l10l l10u l11l l11u x0 x1 fxx hm
        refine go_iload (pc := 143) rfl dX8_uses_143 ?_
        refine go_aload_n (pc := 145) rfl dX8_uses_145 ?_
        refine gi_getF (pc := 146) (q := 75) hvx fL_X8_23 rfl (Nat.le_of_ble_eq_true rfl) rfl (hvx.rf (by decide)) dX8_uses_146 ?_
        refine go_aload_n (pc := 149) rfl dX8_uses_149 ?_
        refine gi_get (pc := 150) (lo := 0) (hi := 1) hvx fL_X8_187 rfl (Nat.le_of_ble_eq_true rfl) rfl rfl dX8_uses_150 (fun v44 v44l v44u v44w => ?_)
        have v44S : v44.toInt = S := by rw [v44w, hvx.fy (j := 6) (by omega), ← hv.fy (j := 6) (by omega)]; exact hS.symm
        refine gi_iald (pc := 153) (lo := 0) (hi := 40) (len := 2) hvx (ti_rfl v44) rfl (by omega) (by omega) (fun _ => rfl) dX8_uses_153 (fun v45 v45l v45u v45w => ?_)
        have v45V : v45.toInt = V h.2.1 75 S := by rw [v45w, v44S, hvx.fz (c := 75) (by omega) (by omega), ← hv.fz (c := 75) (by omega) (by omega)]; rfl
        refine gf_icmp_ge (pc := 154) (tgt := 251) (ti_rfl l11) (ti_rfl v45) (by decide) dX8_uses_154 (fun q46 => ?_) (fun q46 => ?_)
        ·
          refine go_goto (pc := 251) (tgt := 29) (by decide) dX8_uses_251 ?_
          exact go_lv rfl (ih.1 l1 l2 l4 l5 l7 l9 hx hvx (by omega) (by omega) (by omega) (by omega) (by omega) (by omega) (by omega) (by omega) x0 ⟨un_lo _, un_hi _⟩ fxx (by omega))
        ·
          refine go_iconst (pc := 157) (v := 0) (by decide) dX8_uses_157 ?_
          refine go_istore (pc := 158) (Nat.le_of_ble_eq_true rfl) dX8_uses_158 (go_lv (lv2 := [(0, .ref 70), (1, .int l1), (2, .int l2), (4, .int l4), (5, .long l5), (7, .long l7), (9, .int l9), (10, .int l10), (11, .int l11), (12, .int 0)]) rfl ?_)
          have z47 : (0 : Int32).toInt = 0 := (ti_c (v := 0) (a := 0) (by decide))
          exact go_lv rfl (ih.2.2.2.2 l1 l2 l4 l5 l7 l9 l10 l11 0 hx hvx (by omega) (by omega) (by omega) (by omega) (by omega) (by omega) (by omega) (by omega) (by omega) (by omega) (by omega) (by omega) (by omega) (by omega) x0 ⟨un_lo _, un_hi _⟩ fxx (by omega))
      ·
        intro l1 l2 l4 l5 l7 l9 l10 l11 l12 hx hvx l1l l1u l2l l2u l4l l4u l9l l9u l10l l10u l11l l11u l12l l12u x0 x1 fxx hm
        refine go_iload (pc := 160) rfl dX8_uses_160 ?_
        refine go_iconst (pc := 162) (v := 2) (by decide) dX8_uses_162 ?_
        refine gf_icmp_ge (pc := 163) (tgt := 245) (ti_rfl l12) (ti_c (v := 2) (a := 2) (by decide)) (by decide) dX8_uses_163 (fun q48 => ?_) (fun q48 => ?_)
        ·
          refine gf_iinc (pc := 245) (Nat.le_of_ble_eq_true rfl) rfl (ti_rfl l11) (ti_c (by decide)) (by omega) (by omega) dX8_uses_245 (fun v49 e50 => ?_)
          refine go_lv (lv2 := [(0, .ref 70), (1, .int l1), (2, .int l2), (4, .int l4), (5, .long l5), (7, .long l7), (9, .int l9), (10, .int l10), (11, .int v49), (12, .int l12)]) rfl ?_
          refine go_goto (pc := 248) (tgt := 143) (by decide) dX8_uses_248 ?_
          have z51 : (v49 : Int32).toInt = (l11.toInt + 1) := e50
          exact go_lv rfl (ih.2.2.2.1 l1 l2 l4 l5 l7 l9 l10 v49 hx hvx (by omega) (by omega) (by omega) (by omega) (by omega) (by omega) (by omega) (by omega) (by omega) (by omega) (by omega) (by omega) x0 ⟨un_lo _, un_hi _⟩ fxx (by omega))
        ·
          refine go_aload_n (pc := 166) rfl dX8_uses_166 ?_
          refine go_iload (pc := 167) rfl dX8_uses_167 ?_
          refine go_invV (pc := 169) (sl := 0) (s_X8_procedureOf l (d + 2) hvx l11 (by rw [show (l11 : Int32).toInt = l11.toInt from (ti_rfl l11)]; omega) (by rw [show (l11 : Int32).toInt = l11.toInt from (ti_rfl l11)]; omega)) mL_X8_306 iM_X8_procedureOf sM_X8_procedureOf (hvx.sh rfl) rfl rfl rfl (Nat.le_of_ble_eq_true rfl) (show d + 2 + 2 + 1 ≤ d + 5 by omega) (show 8 + (2 + 11) + 40 * (d + 2 + 2) ≤ 40 * (d + 5) by omega) (g_c0 hvx.ln) (Nat.le_of_ble_eq_true rfl) dX8_uses_169 ?_
          intro r h52 hq _
          obtain ⟨v53, rfl, v53l, v53u, rfl⟩ := hq
          refine go_iload_n (pc := 172) rfl dX8_uses_172 ?_
          refine gf_icmp_ne (pc := 173) (tgt := 245) (ti_rfl v53) (ti_rfl l2) (by decide) dX8_uses_173 (fun q54 => ?_) (fun q54 => ?_)
          ·
            refine gf_iinc (pc := 245) (Nat.le_of_ble_eq_true rfl) rfl (ti_rfl l11) (ti_c (by decide)) (by omega) (by omega) dX8_uses_245 (fun v55 e56 => ?_)
            refine go_lv (lv2 := [(0, .ref 70), (1, .int l1), (2, .int l2), (4, .int l4), (5, .long l5), (7, .long l7), (9, .int l9), (10, .int l10), (11, .int v55), (12, .int l12)]) rfl ?_
            refine go_goto (pc := 248) (tgt := 143) (by decide) dX8_uses_248 ?_
            have z57 : (v55 : Int32).toInt = (l11.toInt + 1) := e56
            exact go_lv rfl (ih.2.2.2.1 l1 l2 l4 l5 l7 l9 l10 v55 hx hvx (by omega) (by omega) (by omega) (by omega) (by omega) (by omega) (by omega) (by omega) (by omega) (by omega) (by omega) (by omega) x0 ⟨un_lo _, un_hi _⟩ fxx (by omega))
          ·
            refine go_aload_n (pc := 176) rfl dX8_uses_176 ?_
            refine go_iload (pc := 177) rfl dX8_uses_177 ?_
            refine go_iload (pc := 179) rfl dX8_uses_179 ?_
            have sM58 : (hx.2.1 70 6).toInt = S := by rw [hvx.fy (j := 6) (by omega), ← hv.fy (j := 6) (by omega)]; exact hS.symm
            refine go_invV (pc := 181) (sl := 0) (s_X8_way_x l (d + 0) hvx l11 (by rw [show (l11 : Int32).toInt = l11.toInt from (ti_rfl l11)]; omega) (by rw [show (l11 : Int32).toInt = l11.toInt from (ti_rfl l11)]; omega) l12 (by rw [show (l12 : Int32).toInt = l12.toInt from (ti_rfl l12)]; omega) (by rw [show (l12 : Int32).toInt = l12.toInt from (ti_rfl l12)]; omega) (CKF.ve (VE.of hv hvx) ckf)) mL_X8_284 iM_X8_way sM_X8_way (hvx.sh rfl) rfl rfl rfl (Nat.le_of_ble_eq_true rfl) (show d + 0 + 4 + 1 ≤ d + 5 by omega) (show 8 + (4 + 11) + 40 * (d + 0 + 4) ≤ 40 * (d + 5) by omega) (g_c0 hvx.ln) (Nat.le_of_ble_eq_true rfl) dX8_uses_181 ?_
            intro r h59 hq _
            obtain ⟨v61, rfl, v61l, v61u, rfl, f60⟩ := hq
            rw [sM58] at f60
            refine go_iload (pc := 184) rfl dX8_uses_184 ?_
            refine gf_icmp_eq (pc := 186) (tgt := 192) (ti_rfl v61) (ti_rfl l10) (by decide) dX8_uses_186 (fun q62 => ?_) (fun q62 => ?_)
            ·
              refine go_aload_n (pc := 192) rfl dX8_uses_192 ?_
              refine go_iload (pc := 193) rfl dX8_uses_193 ?_
              refine go_iload (pc := 195) rfl dX8_uses_195 ?_
              refine go_iload (pc := 197) rfl dX8_uses_197 ?_
              refine go_invV (pc := 199) (sl := 0) (s_X8_tells l (d + 2) hvx l11 (by rw [show (l11 : Int32).toInt = l11.toInt from (ti_rfl l11)]; omega) (by rw [show (l11 : Int32).toInt = l11.toInt from (ti_rfl l11)]; omega) l12 l4 (by rw [show (l4 : Int32).toInt = l4.toInt from (ti_rfl l4)]; omega) (by rw [show (l4 : Int32).toInt = l4.toInt from (ti_rfl l4)]; omega)) mL_X8_309 iM_X8_tells sM_X8_tells (hvx.sh rfl) rfl rfl rfl (Nat.le_of_ble_eq_true rfl) (show d + 2 + 2 + 1 ≤ d + 5 by omega) (show 8 + (6 + 11) + 40 * (d + 2 + 2) ≤ 40 * (d + 5) by omega) (g_c0 hvx.ln) (Nat.le_of_ble_eq_true rfl) dX8_uses_199 ?_
              intro r h63 hq _
              obtain ⟨v64, rfl, v64l, v64u, rfl⟩ := hq
              refine go_istore (pc := 202) (Nat.le_of_ble_eq_true rfl) dX8_uses_202 (go_lv (lv2 := [(0, .ref 70), (1, .int l1), (2, .int l2), (4, .int l4), (5, .long l5), (7, .long l7), (9, .int l9), (10, .int l10), (11, .int l11), (12, .int l12), (13, .int v64)]) rfl ?_)
              refine go_iload (pc := 204) rfl dX8_uses_204 ?_
              refine go_iconst (pc := 206) (v := (-1)) (by decide) dX8_uses_206 ?_
              refine gf_icmp_eq (pc := 207) (tgt := 220) (ti_rfl v64) (ti_c (v := (-1)) (a := (-1)) (by decide)) (by decide) dX8_uses_207 (fun q65 => ?_) (fun q65 => ?_)
              ·
                refine go_lload (pc := 220) rfl dX8_uses_220 ?_
                refine go_iload (pc := 222) rfl dX8_uses_222 ?_
                refine go_invS (pc := 224) (sl := 0) (s_X8_has_x l (d + 3) hvx l5 l11 (by rw [show (l11 : Int32).toInt = l11.toInt from (ti_rfl l11)]; omega) (by rw [show (l11 : Int32).toInt = l11.toInt from (ti_rfl l11)]; omega)) mL_X8_280 iM_X8_has rfl rfl (Nat.le_of_ble_eq_true rfl) (show d + 3 + 1 + 1 ≤ d + 5 by omega) (show 8 + (3 + 11) + 40 * (d + 3 + 1) ≤ 40 * (d + 5) by omega) (g_c0 hvx.ln) (Nat.le_of_ble_eq_true rfl) dX8_uses_224 ?_
                intro r h66 hq _
                obtain ⟨v68, rfl, v68l, v68u, rfl, f67⟩ := hq
                refine gf_if_ne (pc := 227) (tgt := 239) (ti_rfl v68) (by decide) dX8_uses_227 (fun q69 => ?_) (fun q69 => ?_)
                ·
                  refine gf_iinc (pc := 239) (Nat.le_of_ble_eq_true rfl) rfl (ti_rfl l12) (ti_c (by decide)) (by omega) (by omega) dX8_uses_239 (fun v70 e71 => ?_)
                  refine go_lv (lv2 := [(0, .ref 70), (1, .int l1), (2, .int l2), (4, .int l4), (5, .long l5), (7, .long l7), (9, .int l9), (10, .int l10), (11, .int l11), (12, .int v70), (13, .int v64)]) rfl ?_
                  refine go_goto (pc := 242) (tgt := 160) (by decide) dX8_uses_242 ?_
                  have z72 : (v70 : Int32).toInt = (l12.toInt + 1) := e71
                  exact go_lv rfl (ih.2.2.2.2 l1 l2 l4 l5 l7 l9 l10 l11 v70 hx hvx (by omega) (by omega) (by omega) (by omega) (by omega) (by omega) (by omega) (by omega) (by omega) (by omega) (by omega) (by omega) (by omega) (by omega) x0 ⟨un_lo _, un_hi _⟩ fxx (by omega))
                ·
                  refine go_lload (pc := 230) rfl dX8_uses_230 ?_
                  refine go_lconst (pc := 232) (v := 1) (by decide) dX8_uses_232 ?_
                  refine go_iload (pc := 233) rfl dX8_uses_233 ?_
                  refine gx_lshl (pc := 235) dX8_uses_235 (fun v73 v73x => ?_)
                  refine gx_lor (pc := 236) dX8_uses_236 (fun v74 v74x => ?_)
                  refine go_lstore (pc := 237) (Nat.le_of_ble_eq_true rfl) dX8_uses_237 (go_lv (lv2 := [(0, .ref 70), (1, .int l1), (2, .int l2), (4, .int l4), (5, .long l5), (7, .long v74), (9, .int l9), (10, .int l10), (11, .int l11), (12, .int l12), (13, .int v64)]) rfl ?_)
                  refine gf_iinc (pc := 239) (Nat.le_of_ble_eq_true rfl) rfl (ti_rfl l12) (ti_c (by decide)) (by omega) (by omega) dX8_uses_239 (fun v75 e76 => ?_)
                  refine go_lv (lv2 := [(0, .ref 70), (1, .int l1), (2, .int l2), (4, .int l4), (5, .long l5), (7, .long v74), (9, .int l9), (10, .int l10), (11, .int l11), (12, .int v75), (13, .int v64)]) rfl ?_
                  refine go_goto (pc := 242) (tgt := 160) (by decide) dX8_uses_242 ?_
                  have z77 : (v75 : Int32).toInt = (l12.toInt + 1) := e76
                  exact go_lv rfl (ih.2.2.2.2 l1 l2 l4 l5 v74 l9 l10 l11 v75 hx hvx (by omega) (by omega) (by omega) (by omega) (by omega) (by omega) (by omega) (by omega) (by omega) (by omega) (by omega) (by omega) (by omega) (by omega) (by rw [v74x, v73x]; exact DJ.add x0 (by omega) (by omega) (f67.2 (by omega))) ⟨un_lo _, un_hi _⟩ fxx (by omega))
              ·
                refine go_aload_n (pc := 210) rfl dX8_uses_210 ?_
                refine go_iload_n (pc := 211) rfl dX8_uses_211 ?_
                refine go_iload (pc := 212) rfl dX8_uses_212 ?_
                refine go_invV (pc := 214) (sl := 0) (s_X8_hang_f l (d + 3) hvx l1 (by rw [show (l1 : Int32).toInt = l1.toInt from (ti_rfl l1)]; omega) (by rw [show (l1 : Int32).toInt = l1.toInt from (ti_rfl l1)]; omega) v64 (by rw [show (v64 : Int32).toInt = v64.toInt from (ti_rfl v64)]; omega) (by rw [show (v64 : Int32).toInt = v64.toInt from (ti_rfl v64)]; omega)) mL_X8_303 iM_X8_hang sM_X8_hang (hvx.sh rfl) rfl rfl rfl (Nat.le_of_ble_eq_true rfl) (show d + 3 + 1 + 1 ≤ d + 5 by omega) (show 8 + (3 + 11) + 40 * (d + 3 + 1) ≤ 40 * (d + 5) by omega) (g_c0 hvx.ln) (Nat.le_of_ble_eq_true rfl) dX8_uses_214 ?_
                intro r h78 hq _
                obtain ⟨rfl, hv78, f79⟩ := hq
                have fx78 : FX KAr h h78 := FX.tr fxx f79
                refine go_goto (pc := 217) (tgt := 239) (by decide) dX8_uses_217 ?_
                refine gf_iinc (pc := 239) (Nat.le_of_ble_eq_true rfl) rfl (ti_rfl l12) (ti_c (by decide)) (by omega) (by omega) dX8_uses_239 (fun v80 e81 => ?_)
                refine go_lv (lv2 := [(0, .ref 70), (1, .int l1), (2, .int l2), (4, .int l4), (5, .long l5), (7, .long l7), (9, .int l9), (10, .int l10), (11, .int l11), (12, .int v80), (13, .int v64)]) rfl ?_
                refine go_goto (pc := 242) (tgt := 160) (by decide) dX8_uses_242 ?_
                have z82 : (v80 : Int32).toInt = (l12.toInt + 1) := e81
                exact go_lv rfl (ih.2.2.2.2 l1 l2 l4 l5 l7 l9 l10 l11 v80 h78 hv78 (by omega) (by omega) (by omega) (by omega) (by omega) (by omega) (by omega) (by omega) (by omega) (by omega) (by omega) (by omega) (by omega) (by omega) x0 ⟨un_lo _, un_hi _⟩ fx78 (by omega))
            ·
              refine go_goto (pc := 189) (tgt := 239) (by decide) dX8_uses_189 ?_
              refine gf_iinc (pc := 239) (Nat.le_of_ble_eq_true rfl) rfl (ti_rfl l12) (ti_c (by decide)) (by omega) (by omega) dX8_uses_239 (fun v83 e84 => ?_)
              refine go_lv (lv2 := [(0, .ref 70), (1, .int l1), (2, .int l2), (4, .int l4), (5, .long l5), (7, .long l7), (9, .int l9), (10, .int l10), (11, .int l11), (12, .int v83)]) rfl ?_
              refine go_goto (pc := 242) (tgt := 160) (by decide) dX8_uses_242 ?_
              have z85 : (v83 : Int32).toInt = (l12.toInt + 1) := e84
              exact go_lv rfl (ih.2.2.2.2 l1 l2 l4 l5 l7 l9 l10 l11 v83 hx hvx (by omega) (by omega) (by omega) (by omega) (by omega) (by omega) (by omega) (by omega) (by omega) (by omega) (by omega) (by omega) (by omega) (by omega) x0 ⟨un_lo _, un_hi _⟩ fxx (by omega))
  have uz := un_lo 0
  refine go_lconst (pc := 0) (v := 0) (by decide) dX8_uses_0 ?_
  refine go_lstore (pc := 1) (Nat.le_of_ble_eq_true rfl) dX8_uses_1 (go_lv (lv2 := [(0, .ref 70), (1, .int a2), (2, .int a3), (3, .int a4), (4, .int a5), (5, .long 0)]) rfl ?_)
  refine go_iload_n (pc := 3) rfl dX8_uses_3 ?_
  refine go_iconst (pc := 4) (v := (-1)) (by decide) dX8_uses_4 ?_
  refine gf_icmp_ne (pc := 5) (tgt := 12) (ti_rfl a4) (ti_c (v := (-1)) (a := (-1)) (by decide)) (by decide) dX8_uses_5 (fun q86 => ?_) (fun q86 => ?_)
  ·
    refine go_lconst (pc := 12) (v := 1) (by decide) dX8_uses_12 ?_
    refine go_iload_n (pc := 13) rfl dX8_uses_13 ?_
    refine gx_lshl (pc := 14) dX8_uses_14 (fun v87 v87x => ?_)
    refine go_lstore (pc := 15) (Nat.le_of_ble_eq_true rfl) dX8_uses_15 (go_lv (lv2 := [(0, .ref 70), (1, .int a2), (2, .int a3), (3, .int a4), (4, .int a5), (5, .long 0), (7, .long v87)]) rfl ?_)
    refine go_iload_n (pc := 17) rfl dX8_uses_17 ?_
    refine go_iconst (pc := 18) (v := (-1)) (by decide) dX8_uses_18 ?_
    refine gf_icmp_ne (pc := 19) (tgt := 26) (ti_rfl a4) (ti_c (v := (-1)) (a := (-1)) (by decide)) (by decide) dX8_uses_19 (fun q88 => ?_) (fun q88 => False.elim (by omega))
    refine go_iconst (pc := 26) (v := 0) (by decide) dX8_uses_26 ?_
    refine go_istore (pc := 27) (Nat.le_of_ble_eq_true rfl) dX8_uses_27 (go_lv (lv2 := [(0, .ref 70), (1, .int a2), (2, .int a3), (3, .int a4), (4, .int a5), (5, .long 0), (7, .long v87), (9, .int 0)]) rfl ?_)
    have z89 : (0 : Int32).toInt = 0 := (ti_c (v := 0) (a := 0) (by decide))
    exact go_lv rfl ((key 184467440737095516170001).1 a2 a3 a5 0 v87 0 h hv (by omega) (by omega) (by omega) (by omega) (by omega) (by omega) (by omega) (by omega) (DJ.zero _) ⟨un_lo _, un_hi _⟩ fx (by omega))
  ·
    refine go_lconst (pc := 8) (v := 0) (by decide) dX8_uses_8 ?_
    refine go_goto (pc := 9) (tgt := 15) (by decide) dX8_uses_9 ?_
    refine go_lstore (pc := 15) (Nat.le_of_ble_eq_true rfl) dX8_uses_15 (go_lv (lv2 := [(0, .ref 70), (1, .int a2), (2, .int a3), (3, .int a4), (4, .int a5), (5, .long 0), (7, .long 0)]) rfl ?_)
    refine go_iload_n (pc := 17) rfl dX8_uses_17 ?_
    refine go_iconst (pc := 18) (v := (-1)) (by decide) dX8_uses_18 ?_
    refine gf_icmp_ne (pc := 19) (tgt := 26) (ti_rfl a4) (ti_c (v := (-1)) (a := (-1)) (by decide)) (by decide) dX8_uses_19 (fun q90 => False.elim (by omega)) (fun q90 => ?_)
    refine go_iconst (pc := 22) (v := 1) (by decide) dX8_uses_22 ?_
    refine go_goto (pc := 23) (tgt := 27) (by decide) dX8_uses_23 ?_
    refine go_istore (pc := 27) (Nat.le_of_ble_eq_true rfl) dX8_uses_27 (go_lv (lv2 := [(0, .ref 70), (1, .int a2), (2, .int a3), (3, .int a4), (4, .int a5), (5, .long 0), (7, .long 0), (9, .int 1)]) rfl ?_)
    have z91 : (1 : Int32).toInt = 1 := (ti_c (v := 1) (a := 1) (by decide))
    exact go_lv rfl ((key 184467440737095516170001).1 a2 a3 a5 0 0 1 h hv (by omega) (by omega) (by omega) (by omega) (by omega) (by omega) (by omega) (by omega) (DJ.zero _) ⟨un_lo _, un_hi _⟩ fx (by omega))
set_option maxHeartbeats 4000000 in
set_option maxRecDepth 100000 in
theorem s_X8_usesOperand_f (l : Launch) (d : Nat) {P : PP} {h : HP} (hv : Iv P h) (a2 : Int32) (a2l : 0 ≤ a2.toInt) (a2u : a2.toInt ≤ 584) (a3 : Int32) (a3l : 0 ≤ a3.toInt) (a3u : a3.toInt ≤ 39) (a4 : Int32) (a4l : 0 ≤ a4.toInt) (a4u : a4.toInt ≤ 1) (ckf : CKF h.2.1) (ht : TR h.2.1 (h.2.1 70 6).toInt) (hs : a3.toInt < V h.2.1 75 (h.2.1 70 6).toInt) : Mt l yX8_usesOperand cX8_usesOperand 5 none (d + 6) [.ref 70, .int a2, .int a3, .int a4] h 0 0 (fun r h' => r = none ∧ Iv P h' ∧ (FX KAr h h')) := by
  refine Mt_iv hv (by decide) (Nat.le_of_ble_eq_true rfl) ?_
  show Go l RX8 cX8_usesOperand 5 (g_rm (d + 6) 0 0) "usesOperand" none 117 0 0 (fun _ _ => True) (fun r h' => r = none ∧ Iv P h' ∧ (FX KAr h h')) 0 0 [(0, .ref 70), (1, .int a2), (2, .int a3), (3, .int a4)] [] h
  obtain ⟨S, hS⟩ : ∃ S : Int, S = (h.2.1 70 6).toInt := ⟨_, rfl⟩
  have S0 : 0 ≤ S := by rw [hS]; exact (hv.2.1 70 6).1
  have S1 : S ≤ 1 := by rw [hS]; exact (hv.2.1 70 6).2
  rw [← hS] at ht
  rw [← hS] at hs
  have fx : FX KAr h h := FX.rfl
  refine go_aload_n (pc := 0) rfl dX8_usesOperand_0 ?_
  refine gi_getF (pc := 1) (q := 89) hv fL_X8_65 rfl (Nat.le_of_ble_eq_true rfl) rfl (hv.rf (by decide)) dX8_usesOperand_1 ?_
  refine go_iconst (pc := 4) (v := 2) (by decide) dX8_usesOperand_4 ?_
  refine go_aload_n (pc := 5) rfl dX8_usesOperand_5 ?_
  refine go_iload_n (pc := 6) rfl dX8_usesOperand_6 ?_
  refine go_invV (pc := 7) (sl := 0) (s_X8_item l (d + 4) hv a3 (by rw [show (a3 : Int32).toInt = a3.toInt from (ti_rfl a3)]; omega) (by rw [show (a3 : Int32).toInt = a3.toInt from (ti_rfl a3)]; omega)) mL_X8_268 iM_X8_item sM_X8_item (hv.sh rfl) rfl rfl rfl (Nat.le_of_ble_eq_true rfl) (show d + 4 + 1 + 1 ≤ d + 6 by omega) (show 8 + (2 + 11) + 40 * (d + 4 + 1) ≤ 40 * (d + 6) by omega) (g_c0 hv.ln) (Nat.le_of_ble_eq_true rfl) dX8_usesOperand_7 ?_
  intro r h1 hq _
  obtain ⟨v3, rfl, v3l, v3u, rfl, f2⟩ := hq
  have v3K : v3.toInt = V h.2.1 93 (40 * S + a3.toInt) := by rw [f2]; unfold g_it; rw [← hS]; rfl
  refine gf_imul (pc := 10) (ti_c (v := 2) (a := 2) (by decide)) (ti_rfl v3) (by omega) (by omega) dX8_usesOperand_10 (fun v4 e5 => ?_)
  refine go_iload_n (pc := 11) rfl dX8_usesOperand_11 ?_
  refine gf_iadd (pc := 12) e5 (ti_rfl a4) (by omega) (by omega) dX8_usesOperand_12 (fun v6 e7 => ?_)
  refine gi_iald (pc := 13) (lo := 0) (hi := 9999) (len := 520) hv e7 rfl (by omega) (by omega) (fun _ => rfl) dX8_usesOperand_13 (fun v8 v8l v8u v8w => ?_)
  have v8V : v8.toInt = V h.2.1 89 (((2 * v3.toInt) + a4.toInt)) := by rw [v8w]; rfl
  have ii : II h.2.1 S v3.toInt := by rw [v3K]; exact ht.2.2.2.2.2.2 a3.toInt (by omega) hs
  have t3 := (ht.2.2.2.1 v3.toInt ii).2.2.2
  have k9 : v8.toInt ≤ 1009 := by
    have e : a4.toInt = 0 ∨ a4.toInt = 1 := by omega
    rcases e with e | e
    · rw [v8V, e, Int.add_zero]; exact t3.1
    · rw [v8V, e]; exact t3.2
  refine go_istore (pc := 14) (Nat.le_of_ble_eq_true rfl) dX8_usesOperand_14 (go_lv (lv2 := [(0, .ref 70), (1, .int a2), (2, .int a3), (3, .int a4), (4, .int v8)]) rfl ?_)
  refine go_iload (pc := 16) rfl dX8_usesOperand_16 ?_
  refine go_sipush (pc := 18) (v := 1000) (by decide) dX8_usesOperand_18 ?_
  refine gf_icmp_lt (pc := 21) (tgt := 41) (ti_rfl v8) (ti_c (v := 1000) (a := 1000) (by decide)) (by decide) dX8_usesOperand_21 (fun q9 => ?_) (fun q9 => ?_)
  ·
    exact gi_vret (pc := 41) ⟨rfl, hv, fx⟩ hv dX8_usesOperand_41
  ·
    refine go_aload_n (pc := 24) rfl dX8_usesOperand_24 ?_
    refine go_iload_n (pc := 25) rfl dX8_usesOperand_25 ?_
    refine go_aload_n (pc := 26) rfl dX8_usesOperand_26 ?_
    refine go_iload_n (pc := 27) rfl dX8_usesOperand_27 ?_
    refine go_invV (pc := 28) (sl := 0) (s_X8_procedureOf l (d + 3) hv a3 (by rw [show (a3 : Int32).toInt = a3.toInt from (ti_rfl a3)]; omega) (by rw [show (a3 : Int32).toInt = a3.toInt from (ti_rfl a3)]; omega)) mL_X8_306 iM_X8_procedureOf sM_X8_procedureOf (hv.sh rfl) rfl rfl rfl (Nat.le_of_ble_eq_true rfl) (show d + 3 + 2 + 1 ≤ d + 6 by omega) (show 8 + (2 + 11) + 40 * (d + 3 + 2) ≤ 40 * (d + 6) by omega) (g_c0 hv.ln) (Nat.le_of_ble_eq_true rfl) dX8_usesOperand_28 ?_
    intro r h10 hq _
    obtain ⟨v11, rfl, v11l, v11u, rfl⟩ := hq
    refine go_iload_n (pc := 31) rfl dX8_usesOperand_31 ?_
    refine go_iload (pc := 32) rfl dX8_usesOperand_32 ?_
    refine go_sipush (pc := 34) (v := 1000) (by decide) dX8_usesOperand_34 ?_
    refine gf_isub (pc := 37) (ti_rfl v8) (ti_c (v := 1000) (a := 1000) (by decide)) (by omega) (by omega) dX8_usesOperand_37 (fun v12 e13 => ?_)
    refine go_invV (pc := 38) (sl := 0) (s_X8_uses_f l (d + 0) hv a2 (by rw [show (a2 : Int32).toInt = a2.toInt from (ti_rfl a2)]; omega) (by rw [show (a2 : Int32).toInt = a2.toInt from (ti_rfl a2)]; omega) v11 (by rw [show (v11 : Int32).toInt = v11.toInt from (ti_rfl v11)]; omega) (by rw [show (v11 : Int32).toInt = v11.toInt from (ti_rfl v11)]; omega) a3 (by rw [show (a3 : Int32).toInt = a3.toInt from (ti_rfl a3)]; omega) (by rw [show (a3 : Int32).toInt = a3.toInt from (ti_rfl a3)]; omega) v12 (by rw [show (v12 : Int32).toInt = (v8.toInt - 1000) from e13]; omega) (by rw [show (v12 : Int32).toInt = (v8.toInt - 1000) from e13]; omega) (CKF.ve (VE.of hv hv) ckf)) mL_X8_312 iM_X8_uses sM_X8_uses (hv.sh rfl) rfl rfl rfl (Nat.le_of_ble_eq_true rfl) (show d + 0 + 5 + 1 ≤ d + 6 by omega) (show 8 + (14 + 11) + 40 * (d + 0 + 5) ≤ 40 * (d + 6) by omega) (g_c0 hv.ln) (Nat.le_of_ble_eq_true rfl) dX8_usesOperand_38 ?_
    intro r h14 hq _
    obtain ⟨rfl, hv14, f15⟩ := hq
    try rw [show (v12 : Int32).toInt = (v8.toInt - 1000) from e13] at f15
    have fx14 : FX KAr h h14 := FX.tr fx f15
    exact gi_vret (pc := 41) ⟨rfl, hv14, fx14⟩ hv14 dX8_usesOperand_41
set_option maxHeartbeats 4000000 in
set_option maxRecDepth 100000 in
theorem s_X8_laysValues_f (l : Launch) (d : Nat) {P : PP} {h : HP} (hv : Iv P h) (ckf : CKF h.2.1) (ht : TR h.2.1 (h.2.1 70 6).toInt) : Mt l yX8_laysValues cX8_laysValues 4 none (d + 7) [.ref 70] h 0 0 (fun r h' => r = none ∧ Iv P h' ∧ (FX KAr h h')) := by
  refine Mt_iv hv (by decide) (Nat.le_of_ble_eq_true rfl) ?_
  show Go l RX8 cX8_laysValues 4 (g_rm (d + 7) 0 0) "laysValues" none 117 0 0 (fun _ _ => True) (fun r h' => r = none ∧ Iv P h' ∧ (FX KAr h h')) 0 0 [(0, .ref 70)] [] h
  obtain ⟨S, hS⟩ : ∃ S : Int, S = (h.2.1 70 6).toInt := ⟨_, rfl⟩
  have S0 : 0 ≤ S := by rw [hS]; exact (hv.2.1 70 6).1
  have S1 : S ≤ 1 := by rw [hS]; exact (hv.2.1 70 6).2
  rw [← hS] at ht
  have fx : FX KAr h h := FX.rfl
  have key : ∀ n : Nat, (∀ (l1 : Int32) (hx : HP), Iv P hx → 0 ≤ l1.toInt → l1.toInt ≤ 40 → FX KAr h hx → (33 * (40 - l1.toInt) + 5723 : Int) < n → Go l RX8 cX8_laysValues 4 (g_rm (d + 7) 0 0) "laysValues" none 117 0 0 (fun _ _ => True) (fun r h' => r = none ∧ Iv P h' ∧ (FX KAr h h')) 0 2 [(0, .ref 70), (1, .int l1)] [] hx) ∧ (∀ (l1 : Int32) (l2 : Int32) (l3 : Int32) (hx : HP), Iv P hx → 0 ≤ l1.toInt → l1.toInt ≤ 39 → 0 ≤ l2.toInt → l2.toInt ≤ 1 → 0 ≤ l3.toInt → l3.toInt ≤ 2 → (l1.toInt < V h.2.1 75 S) → FX KAr h hx → (3 * (2 - l3.toInt) + 33 * (40 - l1.toInt) + 5712 : Int) < n → Go l RX8 cX8_laysValues 4 (g_rm (d + 7) 0 0) "laysValues" none 117 0 0 (fun _ _ => True) (fun r h' => r = none ∧ Iv P h' ∧ (FX KAr h h')) 0 32 [(0, .ref 70), (1, .int l1), (2, .int l2), (3, .int l3)] [] hx) ∧ (∀ (l1 : Int32) (l2 : Int32) (l3 : Int32) (hx : HP), Iv P hx → 0 ≤ l1.toInt → l1.toInt ≤ 39 → 0 ≤ l2.toInt → l2.toInt ≤ 1 → 0 ≤ l3.toInt → l3.toInt ≤ 4 → (l1.toInt < V h.2.1 75 S) → FX KAr h hx → (3 * (4 - l3.toInt) + 33 * (40 - l1.toInt) + 5694 : Int) < n → Go l RX8 cX8_laysValues 4 (g_rm (d + 7) 0 0) "laysValues" none 117 0 0 (fun _ _ => True) (fun r h' => r = none ∧ Iv P h' ∧ (FX KAr h h')) 0 66 [(0, .ref 70), (1, .int l1), (2, .int l2), (3, .int l3)] [] hx) ∧ (∀ (l1 : Int32) (hx : HP), Iv P hx → 0 ≤ l1.toInt → l1.toInt ≤ 5 → FX KAr h hx → (21 * (5 - l1.toInt) + 5564 : Int) < n → Go l RX8 cX8_laysValues 4 (g_rm (d + 7) 0 0) "laysValues" none 117 0 0 (fun _ _ => True) (fun r h' => r = none ∧ Iv P h' ∧ (FX KAr h h')) 0 110 [(0, .ref 70), (1, .int l1)] [] hx) ∧ (∀ (l1 : Int32) (l2 : Int32) (hx : HP), Iv P hx → 0 ≤ l1.toInt → l1.toInt ≤ 4 → 0 ≤ l2.toInt → l2.toInt ≤ 4 → FX KAr h hx → (3 * (4 - l2.toInt) + 21 * (5 - l1.toInt) + 5547 : Int) < n → Go l RX8 cX8_laysValues 4 (g_rm (d + 7) 0 0) "laysValues" none 117 0 0 (fun _ _ => True) (fun r h' => r = none ∧ Iv P h' ∧ (FX KAr h h')) 0 125 [(0, .ref 70), (1, .int l1), (2, .int l2)] [] hx) ∧ (∀ (l1 : Int32) (hx : HP), Iv P hx → 0 ≤ l1.toInt → l1.toInt ≤ 40 → FX KAr h hx → (129 * (40 - l1.toInt) + 254 : Int) < n → Go l RX8 cX8_laysValues 4 (g_rm (d + 7) 0 0) "laysValues" none 117 0 0 (fun _ _ => True) (fun r h' => r = none ∧ Iv P h' ∧ (FX KAr h h')) 0 162 [(0, .ref 70), (1, .int l1)] [] hx) ∧ (∀ (l1 : Int32) (l2 : Int32) (hx : HP), Iv P hx → 0 ≤ l1.toInt → l1.toInt ≤ 39 → 0 ≤ l2.toInt → l2.toInt ≤ 40 → FX KAr h hx → (3 * (40 - l2.toInt) + 129 * (40 - l1.toInt) + 129 : Int) < n → Go l RX8 cX8_laysValues 4 (g_rm (d + 7) 0 0) "laysValues" none 117 0 0 (fun _ _ => True) (fun r h' => r = none ∧ Iv P h' ∧ (FX KAr h h')) 0 184 [(0, .ref 70), (1, .int l1), (2, .int l2)] [] hx) ∧ (∀ (l1 : Int32) (hx : HP), Iv P hx → 0 ≤ l1.toInt → l1.toInt ≤ 40 → FX KAr h hx → (3 * (40 - l1.toInt) + 2 : Int) < n → Go l RX8 cX8_laysValues 4 (g_rm (d + 7) 0 0) "laysValues" none 117 0 0 (fun _ _ => True) (fun r h' => r = none ∧ Iv P h' ∧ (FX KAr h h')) 0 236 [(0, .ref 70), (1, .int l1)] [] hx) := by
    intro n
    induction n with
    | zero => exact ⟨(by intros; omega), (by intros; omega), (by intros; omega), (by intros; omega), (by intros; omega), (by intros; omega), (by intros; omega), (by intros; omega)⟩
    | succ n ih =>
      refine ⟨?_, ?_, ?_, ?_, ?_, ?_, ?_, ?_⟩
      ·
        intro l1 hx hvx l1l l1u fxx hm
        refine go_iload_n (pc := 2) rfl dX8_laysValues_2 ?_
        refine go_aload_n (pc := 3) rfl dX8_laysValues_3 ?_
        refine gi_getF (pc := 4) (q := 75) hvx fL_X8_23 rfl (Nat.le_of_ble_eq_true rfl) rfl (hvx.rf (by decide)) dX8_laysValues_4 ?_
        refine go_aload_n (pc := 7) rfl dX8_laysValues_7 ?_
        refine gi_get (pc := 8) (lo := 0) (hi := 1) hvx fL_X8_187 rfl (Nat.le_of_ble_eq_true rfl) rfl rfl dX8_laysValues_8 (fun v1 v1l v1u v1w => ?_)
        have v1S : v1.toInt = S := by rw [v1w, hvx.fy (j := 6) (by omega), ← hv.fy (j := 6) (by omega)]; exact hS.symm
        refine gi_iald (pc := 11) (lo := 0) (hi := 40) (len := 2) hvx (ti_rfl v1) rfl (by omega) (by omega) (fun _ => rfl) dX8_laysValues_11 (fun v2 v2l v2u v2w => ?_)
        have v2V : v2.toInt = V h.2.1 75 S := by rw [v2w, v1S, hvx.fz (c := 75) (by omega) (by omega), ← hv.fz (c := 75) (by omega) (by omega)]; rfl
        refine gf_icmp_ge (pc := 12) (tgt := 108) (ti_rfl l1) (ti_rfl v2) (by decide) dX8_laysValues_12 (fun q3 => ?_) (fun q3 => ?_)
        ·
          refine go_iconst (pc := 108) (v := 0) (by decide) dX8_laysValues_108 ?_
          refine go_istore_n (pc := 109) (Nat.le_of_ble_eq_true rfl) dX8_laysValues_109 (go_lv (lv2 := [(0, .ref 70), (1, .int 0)]) rfl ?_)
          have z4 : (0 : Int32).toInt = 0 := (ti_c (v := 0) (a := 0) (by decide))
          exact go_lv rfl (ih.2.2.2.1 0 hx hvx (by omega) (by omega) fxx (by omega))
        ·
          refine go_aload_n (pc := 15) rfl dX8_laysValues_15 ?_
          refine go_iload_n (pc := 16) rfl dX8_laysValues_16 ?_
          refine go_invV (pc := 17) (sl := 0) (s_X8_kindAt l (d + 4) hvx l1 (by rw [show (l1 : Int32).toInt = l1.toInt from (ti_rfl l1)]; omega) (by rw [show (l1 : Int32).toInt = l1.toInt from (ti_rfl l1)]; omega)) mL_X8_271 iM_X8_kindAt sM_X8_kindAt (hvx.sh rfl) rfl rfl rfl (Nat.le_of_ble_eq_true rfl) (show d + 4 + 2 + 1 ≤ d + 7 by omega) (show 8 + (2 + 11) + 40 * (d + 4 + 2) ≤ 40 * (d + 7) by omega) (g_c0 hvx.ln) (Nat.le_of_ble_eq_true rfl) dX8_laysValues_17 ?_
          intro r h5 hq _
          obtain ⟨v7, rfl, v7l, v7u, rfl, f6⟩ := hq
          have v7K : v7.toInt = V h.2.1 77 (V h.2.1 93 (40 * S + l1.toInt)) := by rw [f6]; unfold g_kd g_it; rw [hvx.fy (j := 6) (by omega), ← hv.fy (j := 6) (by omega), ← hS, hvx.fz (c := 93) (by omega) (by omega), ← hv.fz (c := 93) (by omega) (by omega), hvx.fz (c := 77) (by omega) (by omega), ← hv.fz (c := 77) (by omega) (by omega)]; rfl
          refine go_iconst (pc := 20) (v := 1) (by decide) dX8_laysValues_20 ?_
          refine gf_icmp_ne (pc := 21) (tgt := 28) (ti_rfl v7) (ti_c (v := 1) (a := 1) (by decide)) (by decide) dX8_laysValues_21 (fun q8 => ?_) (fun q8 => ?_)
          ·
            refine go_iconst (pc := 28) (v := 0) (by decide) dX8_laysValues_28 ?_
            refine go_istore_n (pc := 29) (Nat.le_of_ble_eq_true rfl) dX8_laysValues_29 (go_lv (lv2 := [(0, .ref 70), (1, .int l1), (2, .int 0)]) rfl ?_)
            refine go_iconst (pc := 30) (v := 0) (by decide) dX8_laysValues_30 ?_
            refine go_istore_n (pc := 31) (Nat.le_of_ble_eq_true rfl) dX8_laysValues_31 (go_lv (lv2 := [(0, .ref 70), (1, .int l1), (2, .int 0), (3, .int 0)]) rfl ?_)
            have z9 : (0 : Int32).toInt = 0 := (ti_c (v := 0) (a := 0) (by decide))
            have z10 : (0 : Int32).toInt = 0 := (ti_c (v := 0) (a := 0) (by decide))
            exact go_lv rfl (ih.2.1 l1 0 0 hx hvx (by omega) (by omega) (by omega) (by omega) (by omega) (by omega) (by omega) fxx (by omega))
          ·
            refine go_iconst (pc := 24) (v := 1) (by decide) dX8_laysValues_24 ?_
            refine go_goto (pc := 25) (tgt := 29) (by decide) dX8_laysValues_25 ?_
            refine go_istore_n (pc := 29) (Nat.le_of_ble_eq_true rfl) dX8_laysValues_29 (go_lv (lv2 := [(0, .ref 70), (1, .int l1), (2, .int 1)]) rfl ?_)
            refine go_iconst (pc := 30) (v := 0) (by decide) dX8_laysValues_30 ?_
            refine go_istore_n (pc := 31) (Nat.le_of_ble_eq_true rfl) dX8_laysValues_31 (go_lv (lv2 := [(0, .ref 70), (1, .int l1), (2, .int 1), (3, .int 0)]) rfl ?_)
            have z11 : (1 : Int32).toInt = 1 := (ti_c (v := 1) (a := 1) (by decide))
            have z12 : (0 : Int32).toInt = 0 := (ti_c (v := 0) (a := 0) (by decide))
            exact go_lv rfl (ih.2.1 l1 1 0 hx hvx (by omega) (by omega) (by omega) (by omega) (by omega) (by omega) (by omega) fxx (by omega))
      ·
        intro l1 l2 l3 hx hvx l1l l1u l2l l2u l3l l3u x0 fxx hm
        refine go_iload_n (pc := 32) rfl dX8_laysValues_32 ?_
        refine go_iconst (pc := 33) (v := 2) (by decide) dX8_laysValues_33 ?_
        refine gf_icmp_ge (pc := 34) (tgt := 64) (ti_rfl l3) (ti_c (v := 2) (a := 2) (by decide)) (by decide) dX8_laysValues_34 (fun q13 => ?_) (fun q13 => ?_)
        ·
          refine go_iconst (pc := 64) (v := 0) (by decide) dX8_laysValues_64 ?_
          refine go_istore_n (pc := 65) (Nat.le_of_ble_eq_true rfl) dX8_laysValues_65 (go_lv (lv2 := [(0, .ref 70), (1, .int l1), (2, .int l2), (3, .int 0)]) rfl ?_)
          have z14 : (0 : Int32).toInt = 0 := (ti_c (v := 0) (a := 0) (by decide))
          exact go_lv rfl (ih.2.2.1 l1 l2 0 hx hvx (by omega) (by omega) (by omega) (by omega) (by omega) (by omega) (by omega) fxx (by omega))
        ·
          refine go_aload_n (pc := 37) rfl dX8_laysValues_37 ?_
          refine go_iload_n (pc := 38) rfl dX8_laysValues_38 ?_
          refine go_iload_n (pc := 39) rfl dX8_laysValues_39 ?_
          refine gf_if_eq (pc := 40) (tgt := 49) (ti_rfl l2) (by decide) dX8_laysValues_40 (fun q15 => ?_) (fun q15 => ?_)
          ·
            refine go_iconst (pc := 49) (v := 0) (by decide) dX8_laysValues_49 ?_
            refine go_invS (pc := 50) (sl := 0) (s_X8_statementPlace l (d + 5) hvx l1 (by rw [show (l1 : Int32).toInt = l1.toInt from (ti_rfl l1)]; omega) (by rw [show (l1 : Int32).toInt = l1.toInt from (ti_rfl l1)]; omega) 0 (by rw [show (0 : Int32).toInt = 0 from (ti_c (v := 0) (a := 0) (by decide))]; omega) (by rw [show (0 : Int32).toInt = 0 from (ti_c (v := 0) (a := 0) (by decide))]; omega)) mL_X8_291 iM_X8_statementPlace rfl rfl (Nat.le_of_ble_eq_true rfl) (show d + 5 + 1 + 1 ≤ d + 7 by omega) (show 8 + (2 + 11) + 40 * (d + 5 + 1) ≤ 40 * (d + 7) by omega) (g_c0 hvx.ln) (Nat.le_of_ble_eq_true rfl) dX8_laysValues_50 ?_
            intro r h16 hq _
            obtain ⟨v17, rfl, v17l, v17u, rfl⟩ := hq
            refine go_iload_n (pc := 53) rfl dX8_laysValues_53 ?_
            refine go_iload_n (pc := 54) rfl dX8_laysValues_54 ?_
            have sM18 : (hx.2.1 70 6).toInt = S := by rw [hvx.fy (j := 6) (by omega), ← hv.fy (j := 6) (by omega)]; exact hS.symm
            refine go_invV (pc := 55) (sl := 0) (s_X8_usesOperand_f l (d + 0) hvx v17 (by rw [show (v17 : Int32).toInt = v17.toInt from (ti_rfl v17)]; omega) (by rw [show (v17 : Int32).toInt = v17.toInt from (ti_rfl v17)]; omega) l1 (by rw [show (l1 : Int32).toInt = l1.toInt from (ti_rfl l1)]; omega) (by rw [show (l1 : Int32).toInt = l1.toInt from (ti_rfl l1)]; omega) l3 (by rw [show (l3 : Int32).toInt = l3.toInt from (ti_rfl l3)]; omega) (by rw [show (l3 : Int32).toInt = l3.toInt from (ti_rfl l3)]; omega) (CKF.ve (VE.of hv hvx) ckf) (by rw [sM18]; exact (TR.ve (VE.of hv hvx) ht)) (by rw [sM18]; exact (by rw [VE.v (VE.of hv hvx) (c := 75) (by omega) (by omega)]; omega))) mL_X8_316 iM_X8_usesOperand sM_X8_usesOperand (hvx.sh rfl) rfl rfl rfl (Nat.le_of_ble_eq_true rfl) (show d + 0 + 6 + 1 ≤ d + 7 by omega) (show 8 + (5 + 11) + 40 * (d + 0 + 6) ≤ 40 * (d + 7) by omega) (g_c0 hvx.ln) (Nat.le_of_ble_eq_true rfl) dX8_laysValues_55 ?_
            intro r h19 hq _
            obtain ⟨rfl, hv19, f20⟩ := hq
            have fx19 : FX KAr h h19 := FX.tr fxx f20
            refine gf_iinc (pc := 58) (Nat.le_of_ble_eq_true rfl) rfl (ti_rfl l3) (ti_c (by decide)) (by omega) (by omega) dX8_laysValues_58 (fun v21 e22 => ?_)
            refine go_lv (lv2 := [(0, .ref 70), (1, .int l1), (2, .int l2), (3, .int v21)]) rfl ?_
            refine go_goto (pc := 61) (tgt := 32) (by decide) dX8_laysValues_61 ?_
            have z23 : (v21 : Int32).toInt = (l3.toInt + 1) := e22
            exact go_lv rfl (ih.2.1 l1 l2 v21 h19 hv19 (by omega) (by omega) (by omega) (by omega) (by omega) (by omega) (by omega) fx19 (by omega))
          ·
            refine go_iconst (pc := 43) (v := 1) (by decide) dX8_laysValues_43 ?_
            refine go_iload_n (pc := 44) rfl dX8_laysValues_44 ?_
            refine gf_iadd (pc := 45) (ti_c (v := 1) (a := 1) (by decide)) (ti_rfl l3) (by omega) (by omega) dX8_laysValues_45 (fun v24 e25 => ?_)
            refine go_goto (pc := 46) (tgt := 50) (by decide) dX8_laysValues_46 ?_
            refine go_invS (pc := 50) (sl := 0) (s_X8_statementPlace l (d + 5) hvx l1 (by rw [show (l1 : Int32).toInt = l1.toInt from (ti_rfl l1)]; omega) (by rw [show (l1 : Int32).toInt = l1.toInt from (ti_rfl l1)]; omega) v24 (by rw [show (v24 : Int32).toInt = (1 + l3.toInt) from e25]; omega) (by rw [show (v24 : Int32).toInt = (1 + l3.toInt) from e25]; omega)) mL_X8_291 iM_X8_statementPlace rfl rfl (Nat.le_of_ble_eq_true rfl) (show d + 5 + 1 + 1 ≤ d + 7 by omega) (show 8 + (2 + 11) + 40 * (d + 5 + 1) ≤ 40 * (d + 7) by omega) (g_c0 hvx.ln) (Nat.le_of_ble_eq_true rfl) dX8_laysValues_50 ?_
            intro r h26 hq _
            obtain ⟨v27, rfl, v27l, v27u, rfl⟩ := hq
            refine go_iload_n (pc := 53) rfl dX8_laysValues_53 ?_
            refine go_iload_n (pc := 54) rfl dX8_laysValues_54 ?_
            have sM28 : (hx.2.1 70 6).toInt = S := by rw [hvx.fy (j := 6) (by omega), ← hv.fy (j := 6) (by omega)]; exact hS.symm
            refine go_invV (pc := 55) (sl := 0) (s_X8_usesOperand_f l (d + 0) hvx v27 (by rw [show (v27 : Int32).toInt = v27.toInt from (ti_rfl v27)]; omega) (by rw [show (v27 : Int32).toInt = v27.toInt from (ti_rfl v27)]; omega) l1 (by rw [show (l1 : Int32).toInt = l1.toInt from (ti_rfl l1)]; omega) (by rw [show (l1 : Int32).toInt = l1.toInt from (ti_rfl l1)]; omega) l3 (by rw [show (l3 : Int32).toInt = l3.toInt from (ti_rfl l3)]; omega) (by rw [show (l3 : Int32).toInt = l3.toInt from (ti_rfl l3)]; omega) (CKF.ve (VE.of hv hvx) ckf) (by rw [sM28]; exact (TR.ve (VE.of hv hvx) ht)) (by rw [sM28]; exact (by rw [VE.v (VE.of hv hvx) (c := 75) (by omega) (by omega)]; omega))) mL_X8_316 iM_X8_usesOperand sM_X8_usesOperand (hvx.sh rfl) rfl rfl rfl (Nat.le_of_ble_eq_true rfl) (show d + 0 + 6 + 1 ≤ d + 7 by omega) (show 8 + (5 + 11) + 40 * (d + 0 + 6) ≤ 40 * (d + 7) by omega) (g_c0 hvx.ln) (Nat.le_of_ble_eq_true rfl) dX8_laysValues_55 ?_
            intro r h29 hq _
            obtain ⟨rfl, hv29, f30⟩ := hq
            have fx29 : FX KAr h h29 := FX.tr fxx f30
            refine gf_iinc (pc := 58) (Nat.le_of_ble_eq_true rfl) rfl (ti_rfl l3) (ti_c (by decide)) (by omega) (by omega) dX8_laysValues_58 (fun v31 e32 => ?_)
            refine go_lv (lv2 := [(0, .ref 70), (1, .int l1), (2, .int l2), (3, .int v31)]) rfl ?_
            refine go_goto (pc := 61) (tgt := 32) (by decide) dX8_laysValues_61 ?_
            have z33 : (v31 : Int32).toInt = (l3.toInt + 1) := e32
            exact go_lv rfl (ih.2.1 l1 l2 v31 h29 hv29 (by omega) (by omega) (by omega) (by omega) (by omega) (by omega) (by omega) fx29 (by omega))
      ·
        intro l1 l2 l3 hx hvx l1l l1u l2l l2u l3l l3u x0 fxx hm
        refine go_iload_n (pc := 66) rfl dX8_laysValues_66 ?_
        refine go_iconst (pc := 67) (v := 4) (by decide) dX8_laysValues_67 ?_
        refine gf_icmp_ge (pc := 68) (tgt := 102) (ti_rfl l3) (ti_c (v := 4) (a := 4) (by decide)) (by decide) dX8_laysValues_68 (fun q34 => ?_) (fun q34 => ?_)
        ·
          refine gf_iinc (pc := 102) (Nat.le_of_ble_eq_true rfl) rfl (ti_rfl l1) (ti_c (by decide)) (by omega) (by omega) dX8_laysValues_102 (fun v35 e36 => ?_)
          refine go_lv (lv2 := [(0, .ref 70), (1, .int v35), (2, .int l2), (3, .int l3)]) rfl ?_
          refine go_goto (pc := 105) (tgt := 2) (by decide) dX8_laysValues_105 ?_
          have z37 : (v35 : Int32).toInt = (l1.toInt + 1) := e36
          exact go_lv rfl (ih.1 v35 hx hvx (by omega) (by omega) fxx (by omega))
        ·
          refine go_iload_n (pc := 71) rfl dX8_laysValues_71 ?_
          refine gf_if_eq (pc := 72) (tgt := 102) (ti_rfl l2) (by decide) dX8_laysValues_72 (fun q38 => ?_) (fun q38 => ?_)
          ·
            refine gf_iinc (pc := 102) (Nat.le_of_ble_eq_true rfl) rfl (ti_rfl l1) (ti_c (by decide)) (by omega) (by omega) dX8_laysValues_102 (fun v39 e40 => ?_)
            refine go_lv (lv2 := [(0, .ref 70), (1, .int v39), (2, .int l2), (3, .int l3)]) rfl ?_
            refine go_goto (pc := 105) (tgt := 2) (by decide) dX8_laysValues_105 ?_
            have z41 : (v39 : Int32).toInt = (l1.toInt + 1) := e40
            exact go_lv rfl (ih.1 v39 hx hvx (by omega) (by omega) fxx (by omega))
          ·
            refine go_aload_n (pc := 75) rfl dX8_laysValues_75 ?_
            refine go_iload_n (pc := 76) rfl dX8_laysValues_76 ?_
            refine go_iconst (pc := 77) (v := 3) (by decide) dX8_laysValues_77 ?_
            refine go_iload_n (pc := 78) rfl dX8_laysValues_78 ?_
            refine gf_iadd (pc := 79) (ti_c (v := 3) (a := 3) (by decide)) (ti_rfl l3) (by omega) (by omega) dX8_laysValues_79 (fun v42 e43 => ?_)
            refine go_invS (pc := 80) (sl := 0) (s_X8_statementPlace l (d + 5) hvx l1 (by rw [show (l1 : Int32).toInt = l1.toInt from (ti_rfl l1)]; omega) (by rw [show (l1 : Int32).toInt = l1.toInt from (ti_rfl l1)]; omega) v42 (by rw [show (v42 : Int32).toInt = (3 + l3.toInt) from e43]; omega) (by rw [show (v42 : Int32).toInt = (3 + l3.toInt) from e43]; omega)) mL_X8_291 iM_X8_statementPlace rfl rfl (Nat.le_of_ble_eq_true rfl) (show d + 5 + 1 + 1 ≤ d + 7 by omega) (show 8 + (2 + 11) + 40 * (d + 5 + 1) ≤ 40 * (d + 7) by omega) (g_c0 hvx.ln) (Nat.le_of_ble_eq_true rfl) dX8_laysValues_80 ?_
            intro r h44 hq _
            obtain ⟨v45, rfl, v45l, v45u, rfl⟩ := hq
            refine go_aload_n (pc := 83) rfl dX8_laysValues_83 ?_
            refine go_iload_n (pc := 84) rfl dX8_laysValues_84 ?_
            refine go_invV (pc := 85) (sl := 0) (s_X8_procedureOf l (d + 4) hvx l1 (by rw [show (l1 : Int32).toInt = l1.toInt from (ti_rfl l1)]; omega) (by rw [show (l1 : Int32).toInt = l1.toInt from (ti_rfl l1)]; omega)) mL_X8_306 iM_X8_procedureOf sM_X8_procedureOf (hvx.sh rfl) rfl rfl rfl (Nat.le_of_ble_eq_true rfl) (show d + 4 + 2 + 1 ≤ d + 7 by omega) (show 8 + (2 + 11) + 40 * (d + 4 + 2) ≤ 40 * (d + 7) by omega) (g_c0 hvx.ln) (Nat.le_of_ble_eq_true rfl) dX8_laysValues_85 ?_
            intro r h46 hq _
            obtain ⟨v47, rfl, v47l, v47u, rfl⟩ := hq
            refine go_iload_n (pc := 88) rfl dX8_laysValues_88 ?_
            refine go_bipush (pc := 89) (v := 6) (by decide) dX8_laysValues_89 ?_
            refine go_iload_n (pc := 91) rfl dX8_laysValues_91 ?_
            refine gf_iadd (pc := 92) (ti_c (v := 6) (a := 6) (by decide)) (ti_rfl l3) (by omega) (by omega) dX8_laysValues_92 (fun v48 e49 => ?_)
            refine go_invV (pc := 93) (sl := 0) (s_X8_uses_f l (d + 1) hvx v45 (by rw [show (v45 : Int32).toInt = v45.toInt from (ti_rfl v45)]; omega) (by rw [show (v45 : Int32).toInt = v45.toInt from (ti_rfl v45)]; omega) v47 (by rw [show (v47 : Int32).toInt = v47.toInt from (ti_rfl v47)]; omega) (by rw [show (v47 : Int32).toInt = v47.toInt from (ti_rfl v47)]; omega) l1 (by rw [show (l1 : Int32).toInt = l1.toInt from (ti_rfl l1)]; omega) (by rw [show (l1 : Int32).toInt = l1.toInt from (ti_rfl l1)]; omega) v48 (by rw [show (v48 : Int32).toInt = (6 + l3.toInt) from e49]; omega) (by rw [show (v48 : Int32).toInt = (6 + l3.toInt) from e49]; omega) (CKF.ve (VE.of hv hvx) ckf)) mL_X8_312 iM_X8_uses sM_X8_uses (hvx.sh rfl) rfl rfl rfl (Nat.le_of_ble_eq_true rfl) (show d + 1 + 5 + 1 ≤ d + 7 by omega) (show 8 + (14 + 11) + 40 * (d + 1 + 5) ≤ 40 * (d + 7) by omega) (g_c0 hvx.ln) (Nat.le_of_ble_eq_true rfl) dX8_laysValues_93 ?_
            intro r h50 hq _
            obtain ⟨rfl, hv50, f51⟩ := hq
            try rw [show (v48 : Int32).toInt = (6 + l3.toInt) from e49] at f51
            have fx50 : FX KAr h h50 := FX.tr fxx f51
            refine gf_iinc (pc := 96) (Nat.le_of_ble_eq_true rfl) rfl (ti_rfl l3) (ti_c (by decide)) (by omega) (by omega) dX8_laysValues_96 (fun v52 e53 => ?_)
            refine go_lv (lv2 := [(0, .ref 70), (1, .int l1), (2, .int l2), (3, .int v52)]) rfl ?_
            refine go_goto (pc := 99) (tgt := 66) (by decide) dX8_laysValues_99 ?_
            have z54 : (v52 : Int32).toInt = (l3.toInt + 1) := e53
            exact go_lv rfl (ih.2.2.1 l1 l2 v52 h50 hv50 (by omega) (by omega) (by omega) (by omega) (by omega) (by omega) (by omega) fx50 (by omega))
      ·
        intro l1 hx hvx l1l l1u fxx hm
        refine go_iload_n (pc := 110) rfl dX8_laysValues_110 ?_
        refine go_aload_n (pc := 111) rfl dX8_laysValues_111 ?_
        refine gi_getF (pc := 112) (q := 76) hvx fL_X8_26 rfl (Nat.le_of_ble_eq_true rfl) rfl (hvx.rf (by decide)) dX8_laysValues_112 ?_
        refine go_aload_n (pc := 115) rfl dX8_laysValues_115 ?_
        refine gi_get (pc := 116) (lo := 0) (hi := 1) hvx fL_X8_187 rfl (Nat.le_of_ble_eq_true rfl) rfl rfl dX8_laysValues_116 (fun v55 v55l v55u v55w => ?_)
        have v55S : v55.toInt = S := by rw [v55w, hvx.fy (j := 6) (by omega), ← hv.fy (j := 6) (by omega)]; exact hS.symm
        refine gi_iald (pc := 119) (lo := 0) (hi := 5) (len := 2) hvx (ti_rfl v55) rfl (by omega) (by omega) (fun _ => rfl) dX8_laysValues_119 (fun v56 v56l v56u v56w => ?_)
        have v56V : v56.toInt = V h.2.1 76 S := by rw [v56w, v55S, hvx.fz (c := 76) (by omega) (by omega), ← hv.fz (c := 76) (by omega) (by omega)]; rfl
        refine gf_icmp_ge (pc := 120) (tgt := 160) (ti_rfl l1) (ti_rfl v56) (by decide) dX8_laysValues_120 (fun q57 => ?_) (fun q57 => ?_)
        ·
          refine go_iconst (pc := 160) (v := 0) (by decide) dX8_laysValues_160 ?_
          refine go_istore_n (pc := 161) (Nat.le_of_ble_eq_true rfl) dX8_laysValues_161 (go_lv (lv2 := [(0, .ref 70), (1, .int 0)]) rfl ?_)
          have z58 : (0 : Int32).toInt = 0 := (ti_c (v := 0) (a := 0) (by decide))
          exact go_lv rfl (ih.2.2.2.2.2.1 0 hx hvx (by omega) (by omega) fxx (by omega))
        ·
          refine go_iconst (pc := 123) (v := 0) (by decide) dX8_laysValues_123 ?_
          refine go_istore_n (pc := 124) (Nat.le_of_ble_eq_true rfl) dX8_laysValues_124 (go_lv (lv2 := [(0, .ref 70), (1, .int l1), (2, .int 0)]) rfl ?_)
          have z59 : (0 : Int32).toInt = 0 := (ti_c (v := 0) (a := 0) (by decide))
          exact go_lv rfl (ih.2.2.2.2.1 l1 0 hx hvx (by omega) (by omega) (by omega) (by omega) fxx (by omega))
      ·
        intro l1 l2 hx hvx l1l l1u l2l l2u fxx hm
        refine go_iload_n (pc := 125) rfl dX8_laysValues_125 ?_
        refine go_iconst (pc := 126) (v := 4) (by decide) dX8_laysValues_126 ?_
        refine gf_icmp_ge (pc := 127) (tgt := 154) (ti_rfl l2) (ti_c (v := 4) (a := 4) (by decide)) (by decide) dX8_laysValues_127 (fun q60 => ?_) (fun q60 => ?_)
        ·
          refine gf_iinc (pc := 154) (Nat.le_of_ble_eq_true rfl) rfl (ti_rfl l1) (ti_c (by decide)) (by omega) (by omega) dX8_laysValues_154 (fun v61 e62 => ?_)
          refine go_lv (lv2 := [(0, .ref 70), (1, .int v61), (2, .int l2)]) rfl ?_
          refine go_goto (pc := 157) (tgt := 110) (by decide) dX8_laysValues_157 ?_
          have z63 : (v61 : Int32).toInt = (l1.toInt + 1) := e62
          exact go_lv rfl (ih.2.2.2.1 v61 hx hvx (by omega) (by omega) fxx (by omega))
        ·
          refine go_aload_n (pc := 130) rfl dX8_laysValues_130 ?_
          refine go_iload_n (pc := 131) rfl dX8_laysValues_131 ?_
          refine go_bipush (pc := 132) (v := 9) (by decide) dX8_laysValues_132 ?_
          refine go_iload_n (pc := 134) rfl dX8_laysValues_134 ?_
          refine gf_iadd (pc := 135) (ti_c (v := 9) (a := 9) (by decide)) (ti_rfl l2) (by omega) (by omega) dX8_laysValues_135 (fun v64 e65 => ?_)
          refine go_invS (pc := 136) (sl := 0) (s_X8_procedurePlace l (d + 5) hvx l1 (by rw [show (l1 : Int32).toInt = l1.toInt from (ti_rfl l1)]; omega) (by rw [show (l1 : Int32).toInt = l1.toInt from (ti_rfl l1)]; omega) v64 (by rw [show (v64 : Int32).toInt = (9 + l2.toInt) from e65]; omega) (by rw [show (v64 : Int32).toInt = (9 + l2.toInt) from e65]; omega)) mL_X8_300 iM_X8_procedurePlace rfl rfl (Nat.le_of_ble_eq_true rfl) (show d + 5 + 1 + 1 ≤ d + 7 by omega) (show 8 + (2 + 11) + 40 * (d + 5 + 1) ≤ 40 * (d + 7) by omega) (g_c0 hvx.ln) (Nat.le_of_ble_eq_true rfl) dX8_laysValues_136 ?_
          intro r h66 hq _
          obtain ⟨v67, rfl, v67l, v67u, rfl⟩ := hq
          refine go_iload_n (pc := 139) rfl dX8_laysValues_139 ?_
          refine go_iconst (pc := 140) (v := (-1)) (by decide) dX8_laysValues_140 ?_
          refine go_bipush (pc := 141) (v := 6) (by decide) dX8_laysValues_141 ?_
          refine go_iload_n (pc := 143) rfl dX8_laysValues_143 ?_
          refine gf_iadd (pc := 144) (ti_c (v := 6) (a := 6) (by decide)) (ti_rfl l2) (by omega) (by omega) dX8_laysValues_144 (fun v68 e69 => ?_)
          refine go_invV (pc := 145) (sl := 0) (s_X8_uses_f l (d + 1) hvx v67 (by rw [show (v67 : Int32).toInt = v67.toInt from (ti_rfl v67)]; omega) (by rw [show (v67 : Int32).toInt = v67.toInt from (ti_rfl v67)]; omega) l1 (by rw [show (l1 : Int32).toInt = l1.toInt from (ti_rfl l1)]; omega) (by rw [show (l1 : Int32).toInt = l1.toInt from (ti_rfl l1)]; omega) (-1) (by rw [show ((-1) : Int32).toInt = (-1) from (ti_c (v := (-1)) (a := (-1)) (by decide))]; omega) (by rw [show ((-1) : Int32).toInt = (-1) from (ti_c (v := (-1)) (a := (-1)) (by decide))]; omega) v68 (by rw [show (v68 : Int32).toInt = (6 + l2.toInt) from e69]; omega) (by rw [show (v68 : Int32).toInt = (6 + l2.toInt) from e69]; omega) (CKF.ve (VE.of hv hvx) ckf)) mL_X8_312 iM_X8_uses sM_X8_uses (hvx.sh rfl) rfl rfl rfl (Nat.le_of_ble_eq_true rfl) (show d + 1 + 5 + 1 ≤ d + 7 by omega) (show 8 + (14 + 11) + 40 * (d + 1 + 5) ≤ 40 * (d + 7) by omega) (g_c0 hvx.ln) (Nat.le_of_ble_eq_true rfl) dX8_laysValues_145 ?_
          intro r h70 hq _
          obtain ⟨rfl, hv70, f71⟩ := hq
          try rw [show ((-1) : Int32).toInt = (-1) from (ti_c (v := (-1)) (a := (-1)) (by decide))] at f71
          try rw [show (v68 : Int32).toInt = (6 + l2.toInt) from e69] at f71
          have fx70 : FX KAr h h70 := FX.tr fxx f71
          refine gf_iinc (pc := 148) (Nat.le_of_ble_eq_true rfl) rfl (ti_rfl l2) (ti_c (by decide)) (by omega) (by omega) dX8_laysValues_148 (fun v72 e73 => ?_)
          refine go_lv (lv2 := [(0, .ref 70), (1, .int l1), (2, .int v72)]) rfl ?_
          refine go_goto (pc := 151) (tgt := 125) (by decide) dX8_laysValues_151 ?_
          have z74 : (v72 : Int32).toInt = (l2.toInt + 1) := e73
          exact go_lv rfl (ih.2.2.2.2.1 l1 v72 h70 hv70 (by omega) (by omega) (by omega) (by omega) fx70 (by omega))
      ·
        intro l1 hx hvx l1l l1u fxx hm
        refine go_iload_n (pc := 162) rfl dX8_laysValues_162 ?_
        refine go_aload_n (pc := 163) rfl dX8_laysValues_163 ?_
        refine gi_getF (pc := 164) (q := 75) hvx fL_X8_23 rfl (Nat.le_of_ble_eq_true rfl) rfl (hvx.rf (by decide)) dX8_laysValues_164 ?_
        refine go_aload_n (pc := 167) rfl dX8_laysValues_167 ?_
        refine gi_get (pc := 168) (lo := 0) (hi := 1) hvx fL_X8_187 rfl (Nat.le_of_ble_eq_true rfl) rfl rfl dX8_laysValues_168 (fun v75 v75l v75u v75w => ?_)
        have v75S : v75.toInt = S := by rw [v75w, hvx.fy (j := 6) (by omega), ← hv.fy (j := 6) (by omega)]; exact hS.symm
        refine gi_iald (pc := 171) (lo := 0) (hi := 40) (len := 2) hvx (ti_rfl v75) rfl (by omega) (by omega) (fun _ => rfl) dX8_laysValues_171 (fun v76 v76l v76u v76w => ?_)
        have v76V : v76.toInt = V h.2.1 75 S := by rw [v76w, v75S, hvx.fz (c := 75) (by omega) (by omega), ← hv.fz (c := 75) (by omega) (by omega)]; rfl
        refine gf_icmp_ge (pc := 172) (tgt := 234) (ti_rfl l1) (ti_rfl v76) (by decide) dX8_laysValues_172 (fun q77 => ?_) (fun q77 => ?_)
        ·
          refine go_iconst (pc := 234) (v := 0) (by decide) dX8_laysValues_234 ?_
          refine go_istore_n (pc := 235) (Nat.le_of_ble_eq_true rfl) dX8_laysValues_235 (go_lv (lv2 := [(0, .ref 70), (1, .int 0)]) rfl ?_)
          have z78 : (0 : Int32).toInt = 0 := (ti_c (v := 0) (a := 0) (by decide))
          exact go_lv rfl (ih.2.2.2.2.2.2.2 0 hx hvx (by omega) (by omega) fxx (by omega))
        ·
          refine go_aload_n (pc := 175) rfl dX8_laysValues_175 ?_
          refine gi_getF (pc := 176) (q := 104) hvx fL_X8_111 rfl (Nat.le_of_ble_eq_true rfl) rfl (hvx.rf (by decide)) dX8_laysValues_176 ?_
          refine go_iload_n (pc := 179) rfl dX8_laysValues_179 ?_
          refine go_lconst (pc := 180) (v := 0) (by decide) dX8_laysValues_180 ?_
          refine gi_last (pc := 181) (len := 40) hvx (ti_rfl l1) rfl (by omega) (by omega) dX8_laysValues_181 (fun h79 hv79 hv79e => ?_)
          have fx79 : FX KAr h h79 := FX.pL fxx hv79e (by unfold KAr; omega)
          refine go_iconst (pc := 182) (v := 0) (by decide) dX8_laysValues_182 ?_
          refine go_istore_n (pc := 183) (Nat.le_of_ble_eq_true rfl) dX8_laysValues_183 (go_lv (lv2 := [(0, .ref 70), (1, .int l1), (2, .int 0)]) rfl ?_)
          have z80 : (0 : Int32).toInt = 0 := (ti_c (v := 0) (a := 0) (by decide))
          exact go_lv rfl (ih.2.2.2.2.2.2.1 l1 0 h79 hv79 (by omega) (by omega) (by omega) (by omega) fx79 (by omega))
      ·
        intro l1 l2 hx hvx l1l l1u l2l l2u fxx hm
        refine go_iload_n (pc := 184) rfl dX8_laysValues_184 ?_
        refine go_aload_n (pc := 185) rfl dX8_laysValues_185 ?_
        refine gi_getF (pc := 186) (q := 75) hvx fL_X8_23 rfl (Nat.le_of_ble_eq_true rfl) rfl (hvx.rf (by decide)) dX8_laysValues_186 ?_
        refine go_aload_n (pc := 189) rfl dX8_laysValues_189 ?_
        refine gi_get (pc := 190) (lo := 0) (hi := 1) hvx fL_X8_187 rfl (Nat.le_of_ble_eq_true rfl) rfl rfl dX8_laysValues_190 (fun v81 v81l v81u v81w => ?_)
        have v81S : v81.toInt = S := by rw [v81w, hvx.fy (j := 6) (by omega), ← hv.fy (j := 6) (by omega)]; exact hS.symm
        refine gi_iald (pc := 193) (lo := 0) (hi := 40) (len := 2) hvx (ti_rfl v81) rfl (by omega) (by omega) (fun _ => rfl) dX8_laysValues_193 (fun v82 v82l v82u v82w => ?_)
        have v82V : v82.toInt = V h.2.1 75 S := by rw [v82w, v81S, hvx.fz (c := 75) (by omega) (by omega), ← hv.fz (c := 75) (by omega) (by omega)]; rfl
        refine gf_icmp_ge (pc := 194) (tgt := 228) (ti_rfl l2) (ti_rfl v82) (by decide) dX8_laysValues_194 (fun q83 => ?_) (fun q83 => ?_)
        ·
          refine gf_iinc (pc := 228) (Nat.le_of_ble_eq_true rfl) rfl (ti_rfl l1) (ti_c (by decide)) (by omega) (by omega) dX8_laysValues_228 (fun v84 e85 => ?_)
          refine go_lv (lv2 := [(0, .ref 70), (1, .int v84), (2, .int l2)]) rfl ?_
          refine go_goto (pc := 231) (tgt := 162) (by decide) dX8_laysValues_231 ?_
          have z86 : (v84 : Int32).toInt = (l1.toInt + 1) := e85
          exact go_lv rfl (ih.2.2.2.2.2.1 v84 hx hvx (by omega) (by omega) fxx (by omega))
        ·
          refine go_aload_n (pc := 197) rfl dX8_laysValues_197 ?_
          refine gi_getF (pc := 198) (q := 104) hvx fL_X8_111 rfl (Nat.le_of_ble_eq_true rfl) rfl (hvx.rf (by decide)) dX8_laysValues_198 ?_
          refine go_iload_n (pc := 201) rfl dX8_laysValues_201 ?_
          refine go_dup2 (pc := 202) rfl rfl dX8_laysValues_202 ?_
          refine gi_lald (pc := 203) (len := 40) hvx (ti_rfl l1) rfl (by omega) (by omega) dX8_laysValues_203 (fun v87 v87w => ?_)
          refine go_aload_n (pc := 204) rfl dX8_laysValues_204 ?_
          refine go_iload_n (pc := 205) rfl dX8_laysValues_205 ?_
          refine go_iload_n (pc := 206) rfl dX8_laysValues_206 ?_
          refine go_invV (pc := 207) (sl := 0) (s_X8_isAnyHung l (d + 4) hvx l1 (by rw [show (l1 : Int32).toInt = l1.toInt from (ti_rfl l1)]; omega) (by rw [show (l1 : Int32).toInt = l1.toInt from (ti_rfl l1)]; omega) l2 (by rw [show (l2 : Int32).toInt = l2.toInt from (ti_rfl l2)]; omega) (by rw [show (l2 : Int32).toInt = l2.toInt from (ti_rfl l2)]; omega)) mL_X8_319 iM_X8_isAnyHung sM_X8_isAnyHung (hvx.sh rfl) rfl rfl rfl (Nat.le_of_ble_eq_true rfl) (show d + 4 + 2 + 1 ≤ d + 7 by omega) (show 8 + (5 + 11) + 40 * (d + 4 + 2) ≤ 40 * (d + 7) by omega) (g_c0 hvx.ln) (Nat.le_of_ble_eq_true rfl) dX8_laysValues_207 ?_
          intro r h88 hq _
          obtain ⟨v89, rfl, v89l, v89u, rfl⟩ := hq
          refine gf_if_eq (pc := 210) (tgt := 219) (ti_rfl v89) (by decide) dX8_laysValues_210 (fun q90 => ?_) (fun q90 => ?_)
          ·
            refine go_lconst (pc := 219) (v := 0) (by decide) dX8_laysValues_219 ?_
            refine gu_lor (pc := 220) dX8_laysValues_220 (fun v91 => ?_)
            refine gi_last (pc := 221) (len := 40) hvx (ti_rfl l1) rfl (by omega) (by omega) dX8_laysValues_221 (fun h92 hv92 hv92e => ?_)
            have fx92 : FX KAr h h92 := FX.pL fxx hv92e (by unfold KAr; omega)
            refine gf_iinc (pc := 222) (Nat.le_of_ble_eq_true rfl) rfl (ti_rfl l2) (ti_c (by decide)) (by omega) (by omega) dX8_laysValues_222 (fun v93 e94 => ?_)
            refine go_lv (lv2 := [(0, .ref 70), (1, .int l1), (2, .int v93)]) rfl ?_
            refine go_goto (pc := 225) (tgt := 184) (by decide) dX8_laysValues_225 ?_
            have z95 : (v93 : Int32).toInt = (l2.toInt + 1) := e94
            exact go_lv rfl (ih.2.2.2.2.2.2.1 l1 v93 h92 hv92 (by omega) (by omega) (by omega) (by omega) fx92 (by omega))
          ·
            refine go_lconst (pc := 213) (v := 1) (by decide) dX8_laysValues_213 ?_
            refine go_iload_n (pc := 214) rfl dX8_laysValues_214 ?_
            refine gu_lshl (pc := 215) dX8_laysValues_215 (fun v96 => ?_)
            refine go_goto (pc := 216) (tgt := 220) (by decide) dX8_laysValues_216 ?_
            refine gu_lor (pc := 220) dX8_laysValues_220 (fun v97 => ?_)
            refine gi_last (pc := 221) (len := 40) hvx (ti_rfl l1) rfl (by omega) (by omega) dX8_laysValues_221 (fun h98 hv98 hv98e => ?_)
            have fx98 : FX KAr h h98 := FX.pL fxx hv98e (by unfold KAr; omega)
            refine gf_iinc (pc := 222) (Nat.le_of_ble_eq_true rfl) rfl (ti_rfl l2) (ti_c (by decide)) (by omega) (by omega) dX8_laysValues_222 (fun v99 e100 => ?_)
            refine go_lv (lv2 := [(0, .ref 70), (1, .int l1), (2, .int v99)]) rfl ?_
            refine go_goto (pc := 225) (tgt := 184) (by decide) dX8_laysValues_225 ?_
            have z101 : (v99 : Int32).toInt = (l2.toInt + 1) := e100
            exact go_lv rfl (ih.2.2.2.2.2.2.1 l1 v99 h98 hv98 (by omega) (by omega) (by omega) (by omega) fx98 (by omega))
      ·
        intro l1 hx hvx l1l l1u fxx hm
        refine go_iload_n (pc := 236) rfl dX8_laysValues_236 ?_
        refine go_aload_n (pc := 237) rfl dX8_laysValues_237 ?_
        refine gi_getF (pc := 238) (q := 75) hvx fL_X8_23 rfl (Nat.le_of_ble_eq_true rfl) rfl (hvx.rf (by decide)) dX8_laysValues_238 ?_
        refine go_aload_n (pc := 241) rfl dX8_laysValues_241 ?_
        refine gi_get (pc := 242) (lo := 0) (hi := 1) hvx fL_X8_187 rfl (Nat.le_of_ble_eq_true rfl) rfl rfl dX8_laysValues_242 (fun v102 v102l v102u v102w => ?_)
        have v102S : v102.toInt = S := by rw [v102w, hvx.fy (j := 6) (by omega), ← hv.fy (j := 6) (by omega)]; exact hS.symm
        refine gi_iald (pc := 245) (lo := 0) (hi := 40) (len := 2) hvx (ti_rfl v102) rfl (by omega) (by omega) (fun _ => rfl) dX8_laysValues_245 (fun v103 v103l v103u v103w => ?_)
        have v103V : v103.toInt = V h.2.1 75 S := by rw [v103w, v102S, hvx.fz (c := 75) (by omega) (by omega), ← hv.fz (c := 75) (by omega) (by omega)]; rfl
        refine gf_icmp_ge (pc := 246) (tgt := 260) (ti_rfl l1) (ti_rfl v103) (by decide) dX8_laysValues_246 (fun q104 => ?_) (fun q104 => ?_)
        ·
          exact gi_vret (pc := 260) ⟨rfl, hvx, fxx⟩ hvx dX8_laysValues_260
        ·
          refine go_aload_n (pc := 249) rfl dX8_laysValues_249 ?_
          refine go_iload_n (pc := 250) rfl dX8_laysValues_250 ?_
          refine go_invV (pc := 251) (sl := 0) (s_X8_ends_x_f l (d + 2) hvx l1 (by rw [show (l1 : Int32).toInt = l1.toInt from (ti_rfl l1)]; omega) (by rw [show (l1 : Int32).toInt = l1.toInt from (ti_rfl l1)]; omega) (CKF.ve (VE.of hv hvx) ckf)) mL_X8_323 iM_X8_ends sM_X8_ends (hvx.sh rfl) rfl rfl rfl (Nat.le_of_ble_eq_true rfl) (show d + 2 + 4 + 1 ≤ d + 7 by omega) (show 8 + (6 + 11) + 40 * (d + 2 + 4) ≤ 40 * (d + 7) by omega) (g_c0 hvx.ln) (Nat.le_of_ble_eq_true rfl) dX8_laysValues_251 ?_
          intro r h105 hq _
          obtain ⟨rfl, hv105, f106⟩ := hq
          have fx105 : FX KAr h h105 := FX.tr fxx f106
          refine gf_iinc (pc := 254) (Nat.le_of_ble_eq_true rfl) rfl (ti_rfl l1) (ti_c (by decide)) (by omega) (by omega) dX8_laysValues_254 (fun v107 e108 => ?_)
          refine go_lv (lv2 := [(0, .ref 70), (1, .int v107)]) rfl ?_
          refine go_goto (pc := 257) (tgt := 236) (by decide) dX8_laysValues_257 ?_
          have z109 : (v107 : Int32).toInt = (l1.toInt + 1) := e108
          exact go_lv rfl (ih.2.2.2.2.2.2.2 v107 h105 hv105 (by omega) (by omega) fx105 (by omega))
  refine go_iconst (pc := 0) (v := 0) (by decide) dX8_laysValues_0 ?_
  refine go_istore_n (pc := 1) (Nat.le_of_ble_eq_true rfl) dX8_laysValues_1 (go_lv (lv2 := [(0, .ref 70), (1, .int 0)]) rfl ?_)
  have z110 : (0 : Int32).toInt = 0 := (ti_c (v := 0) (a := 0) (by decide))
  exact go_lv rfl ((key 7090).1 0 h hv (by omega) (by omega) fx (by omega))
set_option maxHeartbeats 4000000 in
set_option maxRecDepth 100000 in
theorem s_X8_laysAll_f (l : Launch) (d : Nat) {P : PP} {h : HP} (hv : Iv P h) (ckf : CKF h.2.1) (ht : TR h.2.1 (h.2.1 70 6).toInt) (hwi : WI h.2.1 (h.2.1 70 6).toInt) : Mt l yX8_laysAll cX8_laysAll 2 none (d + 8) [.ref 70] h 0 0 (fun r h' => r = none ∧ Iv P h' ∧ (FX KAr h h')) := by
  refine Mt_iv hv (by decide) (Nat.le_of_ble_eq_true rfl) ?_
  show Go l RX8 cX8_laysAll 2 (g_rm (d + 8) 0 0) "laysAll" none 117 0 0 (fun _ _ => True) (fun r h' => r = none ∧ Iv P h' ∧ (FX KAr h h')) 0 0 [(0, .ref 70)] [] h
  obtain ⟨S, hS⟩ : ∃ S : Int, S = (h.2.1 70 6).toInt := ⟨_, rfl⟩
  have S0 : 0 ≤ S := by rw [hS]; exact (hv.2.1 70 6).1
  have S1 : S ≤ 1 := by rw [hS]; exact (hv.2.1 70 6).2
  rw [← hS] at ht
  rw [← hS] at hwi
  have fx : FX KAr h h := FX.rfl
  have key : ∀ n : Nat, (∀ (l1 : Int32) (hx : HP), Iv P hx → 0 ≤ l1.toInt → l1.toInt ≤ 11115 → FX KAr h hx → (3 * (11115 - l1.toInt) + 128 : Int) < n → Go l RX8 cX8_laysAll 2 (g_rm (d + 8) 0 0) "laysAll" none 117 0 0 (fun _ _ => True) (fun r h' => r = none ∧ Iv P h' ∧ (FX KAr h h')) 0 2 [(0, .ref 70), (1, .int l1)] [] hx) ∧ (∀ (l1 : Int32) (hx : HP), Iv P hx → 0 ≤ l1.toInt → l1.toInt ≤ 40 → FX KAr h hx → (3 * (40 - l1.toInt) + 2 : Int) < n → Go l RX8 cX8_laysAll 2 (g_rm (d + 8) 0 0) "laysAll" none 117 0 0 (fun _ _ => True) (fun r h' => r = none ∧ Iv P h' ∧ (FX KAr h h')) 0 36 [(0, .ref 70), (1, .int l1)] [] hx) := by
    intro n
    induction n with
    | zero => exact ⟨(by intros; omega), (by intros; omega)⟩
    | succ n ih =>
      refine ⟨?_, ?_⟩
      ·
        intro l1 hx hvx l1l l1u fxx hm
        refine go_iload_n (pc := 2) rfl dX8_laysAll_2 ?_
        refine go_sipush (pc := 3) (v := 11115) (by decide) dX8_laysAll_3 ?_
        refine gf_icmp_ge (pc := 6) (tgt := 22) (ti_rfl l1) (ti_c (v := 11115) (a := 11115) (by decide)) (by decide) dX8_laysAll_6 (fun q1 => ?_) (fun q1 => ?_)
        ·
          refine go_aload_n (pc := 22) rfl dX8_laysAll_22 ?_
          have sM2 : (hx.2.1 70 6).toInt = S := by rw [hvx.fy (j := 6) (by omega), ← hv.fy (j := 6) (by omega)]; exact hS.symm
          refine go_invV (pc := 23) (sl := 0) (s_X8_laysValues_f l (d + 0) hvx (CKF.ve (VE.of hv hvx) ckf) (by rw [sM2]; exact (TR.ve (VE.of hv hvx) ht))) mL_X8_363 iM_X8_laysValues sM_X8_laysValues (hvx.sh rfl) rfl rfl rfl (Nat.le_of_ble_eq_true rfl) (show d + 0 + 7 + 1 ≤ d + 8 by omega) (show 8 + (4 + 11) + 40 * (d + 0 + 7) ≤ 40 * (d + 8) by omega) (g_c0 hvx.ln) (Nat.le_of_ble_eq_true rfl) dX8_laysAll_23 ?_
          intro r h3 hq _
          obtain ⟨rfl, hv3, f4⟩ := hq
          have fx3 : FX KAr h h3 := FX.tr fxx f4
          refine go_aload_n (pc := 26) rfl dX8_laysAll_26 ?_
          have sM5 : (h3.2.1 70 6).toInt = S := by rw [hv3.fy (j := 6) (by omega), ← hv.fy (j := 6) (by omega)]; exact hS.symm
          refine go_invV (pc := 27) (sl := 0) (s_X8_laysWay_f l (d + 1) hv3 (CKF.ve (VE.of hv hv3) ckf) (by rw [sM5]; exact (WI.ve (VE.of hv hv3) hwi))) mL_X8_366 iM_X8_laysWay sM_X8_laysWay (hv3.sh rfl) rfl rfl rfl (Nat.le_of_ble_eq_true rfl) (show d + 1 + 6 + 1 ≤ d + 8 by omega) (show 8 + (6 + 11) + 40 * (d + 1 + 6) ≤ 40 * (d + 8) by omega) (g_c0 hv3.ln) (Nat.le_of_ble_eq_true rfl) dX8_laysAll_27 ?_
          intro r h6 hq _
          obtain ⟨rfl, hv6, f7⟩ := hq
          have fx6 : FX KAr h h6 := FX.tr fx3 f7
          refine go_aload_n (pc := 30) rfl dX8_laysAll_30 ?_
          refine go_invV (pc := 31) (sl := 0) (s_X8_laysThrough_f l (d + 2) hv6 (CKF.ve (VE.of hv hv6) ckf)) mL_X8_369 iM_X8_laysThrough sM_X8_laysThrough (hv6.sh rfl) rfl rfl rfl (Nat.le_of_ble_eq_true rfl) (show d + 2 + 5 + 1 ≤ d + 8 by omega) (show 8 + (5 + 11) + 40 * (d + 2 + 5) ≤ 40 * (d + 8) by omega) (g_c0 hv6.ln) (Nat.le_of_ble_eq_true rfl) dX8_laysAll_31 ?_
          intro r h8 hq _
          obtain ⟨rfl, hv8, f9, f10⟩ := hq
          have fx8 : FX KAr h h8 := FX.tr fx6 f10
          refine go_iconst (pc := 34) (v := 0) (by decide) dX8_laysAll_34 ?_
          refine go_istore_n (pc := 35) (Nat.le_of_ble_eq_true rfl) dX8_laysAll_35 (go_lv (lv2 := [(0, .ref 70), (1, .int 0)]) rfl ?_)
          have z11 : (0 : Int32).toInt = 0 := (ti_c (v := 0) (a := 0) (by decide))
          exact go_lv rfl (ih.2 0 h8 hv8 (by omega) (by omega) fx8 (by omega))
        ·
          refine go_aload_n (pc := 9) rfl dX8_laysAll_9 ?_
          refine gi_getF (pc := 10) (q := 103) hvx fL_X8_108 rfl (Nat.le_of_ble_eq_true rfl) rfl (hvx.rf (by decide)) dX8_laysAll_10 ?_
          refine go_iload_n (pc := 13) rfl dX8_laysAll_13 ?_
          refine go_iconst (pc := 14) (v := 0) (by decide) dX8_laysAll_14 ?_
          refine gi_iast (pc := 15) (lo := -2147483648) (hi := 2147483647) (len := 11115) hvx (ti_rfl l1) (ti_c (v := 0) (a := 0) (by decide)) rfl (by omega) (by omega) (fun _ => rfl) (ti_ge (ti_c (v := 0) (a := 0) (by decide))) (ti_le2 (ti_c (v := 0) (a := 0) (by decide))) (by decide) dX8_laysAll_15 (fun h12 hv12 hv12e => ?_)
          have fx12 : FX KAr h h12 := FX.pI fxx hv12e (by unfold KAr; omega)
          refine gf_iinc (pc := 16) (Nat.le_of_ble_eq_true rfl) rfl (ti_rfl l1) (ti_c (by decide)) (by omega) (by omega) dX8_laysAll_16 (fun v13 e14 => ?_)
          refine go_lv (lv2 := [(0, .ref 70), (1, .int v13)]) rfl ?_
          refine go_goto (pc := 19) (tgt := 2) (by decide) dX8_laysAll_19 ?_
          have z15 : (v13 : Int32).toInt = (l1.toInt + 1) := e14
          exact go_lv rfl (ih.1 v13 h12 hv12 (by omega) (by omega) fx12 (by omega))
      ·
        intro l1 hx hvx l1l l1u fxx hm
        refine go_iload_n (pc := 36) rfl dX8_laysAll_36 ?_
        refine go_aload_n (pc := 37) rfl dX8_laysAll_37 ?_
        refine gi_getF (pc := 38) (q := 75) hvx fL_X8_23 rfl (Nat.le_of_ble_eq_true rfl) rfl (hvx.rf (by decide)) dX8_laysAll_38 ?_
        refine go_aload_n (pc := 41) rfl dX8_laysAll_41 ?_
        refine gi_get (pc := 42) (lo := 0) (hi := 1) hvx fL_X8_187 rfl (Nat.le_of_ble_eq_true rfl) rfl rfl dX8_laysAll_42 (fun v16 v16l v16u v16w => ?_)
        have v16S : v16.toInt = S := by rw [v16w, hvx.fy (j := 6) (by omega), ← hv.fy (j := 6) (by omega)]; exact hS.symm
        refine gi_iald (pc := 45) (lo := 0) (hi := 40) (len := 2) hvx (ti_rfl v16) rfl (by omega) (by omega) (fun _ => rfl) dX8_laysAll_45 (fun v17 v17l v17u v17w => ?_)
        have v17V : v17.toInt = V h.2.1 75 S := by rw [v17w, v16S, hvx.fz (c := 75) (by omega) (by omega), ← hv.fz (c := 75) (by omega) (by omega)]; rfl
        refine gf_icmp_ge (pc := 46) (tgt := 78) (ti_rfl l1) (ti_rfl v17) (by decide) dX8_laysAll_46 (fun q18 => ?_) (fun q18 => ?_)
        ·
          exact gi_vret (pc := 78) ⟨rfl, hvx, fxx⟩ hvx dX8_laysAll_78
        ·
          refine go_aload_n (pc := 49) rfl dX8_laysAll_49 ?_
          refine go_invV (pc := 50) (sl := 0) (s_X8_empties_x_f l (d + 6) hvx ) mL_X8_356 iM_X8_empties sM_X8_empties (hvx.sh rfl) rfl rfl rfl (Nat.le_of_ble_eq_true rfl) (show d + 6 + 1 + 1 ≤ d + 8 by omega) (show 8 + (2 + 11) + 40 * (d + 6 + 1) ≤ 40 * (d + 8) by omega) (g_c0 hvx.ln) (Nat.le_of_ble_eq_true rfl) dX8_laysAll_50 ?_
          intro r h19 hq _
          obtain ⟨rfl, hv19, f20, f21, f22⟩ := hq
          have fx19 : FX KAr h h19 := FX.tr fxx f22
          refine go_aload_n (pc := 53) rfl dX8_laysAll_53 ?_
          refine go_iload_n (pc := 54) rfl dX8_laysAll_54 ?_
          refine go_invV (pc := 55) (sl := 0) (s_X8_reachAll_f l (d + 4) hv19 l1 (by rw [show (l1 : Int32).toInt = l1.toInt from (ti_rfl l1)]; omega) (by rw [show (l1 : Int32).toInt = l1.toInt from (ti_rfl l1)]; omega) (EM.hw f20)) mL_X8_372 iM_X8_reachAll sM_X8_reachAll (hv19.sh rfl) rfl rfl rfl (Nat.le_of_ble_eq_true rfl) (show d + 4 + 3 + 1 ≤ d + 8 by omega) (show 8 + (3 + 11) + 40 * (d + 4 + 3) ≤ 40 * (d + 8) by omega) (g_c0 hv19.ln) (Nat.le_of_ble_eq_true rfl) dX8_laysAll_55 ?_
          intro r h23 hq _
          obtain ⟨rfl, hv23, f24, f25⟩ := hq
          have fx23 : FX KAr h h23 := FX.tr fx19 f25
          refine go_aload_n (pc := 58) rfl dX8_laysAll_58 ?_
          refine go_invV (pc := 59) (sl := 0) (s_X8_goesBack_f l (d + 2) hv23 f24.1 (CKF.ve (VE.of hv hv23) ckf)) mL_X8_375 iM_X8_goesBack sM_X8_goesBack (hv23.sh rfl) rfl rfl rfl (Nat.le_of_ble_eq_true rfl) (show d + 2 + 5 + 1 ≤ d + 8 by omega) (show 8 + (2 + 11) + 40 * (d + 2 + 5) ≤ 40 * (d + 8) by omega) (g_c0 hv23.ln) (Nat.le_of_ble_eq_true rfl) dX8_laysAll_59 ?_
          intro r h26 hq _
          obtain ⟨rfl, hv26, f27, f28, f29⟩ := hq
          have fx26 : FX KAr h h26 := FX.tr fx23 f29
          refine go_aload_n (pc := 62) rfl dX8_laysAll_62 ?_
          refine gi_getF (pc := 63) (q := 111) hv26 fL_X8_133 rfl (Nat.le_of_ble_eq_true rfl) rfl (hv26.rf (by decide)) dX8_laysAll_63 ?_
          refine go_iload_n (pc := 66) rfl dX8_laysAll_66 ?_
          refine go_aload_n (pc := 67) rfl dX8_laysAll_67 ?_
          refine go_invV (pc := 68) (sl := 0) (s_X8_inSet l (d + 5) hv26 ) mL_X8_378 iM_X8_inSet sM_X8_inSet (hv26.sh rfl) rfl rfl rfl (Nat.le_of_ble_eq_true rfl) (show d + 5 + 2 + 1 ≤ d + 8 by omega) (show 8 + (5 + 11) + 40 * (d + 5 + 2) ≤ 40 * (d + 8) by omega) (g_c0 hv26.ln) (Nat.le_of_ble_eq_true rfl) dX8_laysAll_68 ?_
          intro r h30 hq _
          obtain ⟨v31, rfl, rfl⟩ := hq
          refine gi_last (pc := 71) (len := 40) hv26 (ti_rfl l1) rfl (by omega) (by omega) dX8_laysAll_71 (fun h32 hv32 hv32e => ?_)
          have fx32 : FX KAr h h32 := FX.pL fx26 hv32e (by unfold KAr; omega)
          refine gf_iinc (pc := 72) (Nat.le_of_ble_eq_true rfl) rfl (ti_rfl l1) (ti_c (by decide)) (by omega) (by omega) dX8_laysAll_72 (fun v33 e34 => ?_)
          refine go_lv (lv2 := [(0, .ref 70), (1, .int v33)]) rfl ?_
          refine go_goto (pc := 75) (tgt := 36) (by decide) dX8_laysAll_75 ?_
          have z35 : (v33 : Int32).toInt = (l1.toInt + 1) := e34
          exact go_lv rfl (ih.2 v33 h32 hv32 (by omega) (by omega) fx32 (by omega))
  refine go_iconst (pc := 0) (v := 0) (by decide) dX8_laysAll_0 ?_
  refine go_istore_n (pc := 1) (Nat.le_of_ble_eq_true rfl) dX8_laysAll_1 (go_lv (lv2 := [(0, .ref 70), (1, .int 0)]) rfl ?_)
  have z36 : (0 : Int32).toInt = 0 := (ti_c (v := 0) (a := 0) (by decide))
  exact go_lv rfl ((key 33490).1 0 h hv (by omega) (by omega) fx (by omega))
