
set_option maxHeartbeats 4000000 in
set_option maxRecDepth 100000 in
theorem s_X8_laysWay_f (l : Launch) (d : Nat) {P : PP} {h : HP} (hv : Iv P h) (ckf : CKF h.2.1) (hwi : WI h.2.1 (h.2.1 70 6).toInt) : Mt l yX8_laysWay cX8_laysWay 6 none (d + 6) [.ref 70] h 0 0 (fun r h' => r = none ∧ Iv P h' ∧ (FX KAr h h')) := by
  refine Mt_iv hv (by decide) (Nat.le_of_ble_eq_true rfl) ?_
  show Go l RX8 cX8_laysWay 6 (g_rm (d + 6) 0 0) "laysWay" none 117 0 0 (fun _ _ => True) (fun r h' => r = none ∧ Iv P h' ∧ (FX KAr h h')) 0 0 [(0, .ref 70)] [] h
  obtain ⟨S, hS⟩ : ∃ S : Int, S = (h.2.1 70 6).toInt := ⟨_, rfl⟩
  have S0 : 0 ≤ S := by rw [hS]; exact (hv.2.1 70 6).1
  have S1 : S ≤ 1 := by rw [hS]; exact (hv.2.1 70 6).2
  rw [← hS] at hwi
  have fx : FX KAr h h := FX.rfl
  have key : ∀ n : Nat, (∀ (l1 : Int32) (hx : HP), Iv P hx → 0 ≤ l1.toInt → l1.toInt ≤ 40 → (∀ j : Nat, (j : Int) < l1.toInt → hx.2.2.1 106 j = -1) → FX KAr h hx → (1000000000000000000000000 + (40 - l1.toInt) : Int) < n → Go l RX8 cX8_laysWay 6 (g_rm (d + 6) 0 0) "laysWay" none 117 0 0 (fun _ _ => True) (fun r h' => r = none ∧ Iv P h' ∧ (FX KAr h h')) 0 2 [(0, .ref 70), (1, .int l1)] [] hx) ∧ (∀ (l1 : Int32) (hx : HP), Iv P hx → 0 ≤ l1.toInt → l1.toInt ≤ 1 → (SH h.2.1 hx.2.2.1 S) → (0 ≤ uu hx.2.2.1 ∧ uu hx.2.2.1 ≤ 40 * 18446744073709551616) → FX KAr h hx → (1000 * uu hx.2.2.1 + 1000 * l1.toInt + 100000 : Int) < n → Go l RX8 cX8_laysWay 6 (g_rm (d + 6) 0 0) "laysWay" none 117 0 0 (fun _ _ => True) (fun r h' => r = none ∧ Iv P h' ∧ (FX KAr h h')) 0 25 [(0, .ref 70), (1, .int l1)] [] hx) ∧ (∀ (l1 : Int32) (l2 : Int32) (hx : HP), Iv P hx → 0 ≤ l1.toInt → l1.toInt ≤ 1 → 0 ≤ l2.toInt → l2.toInt ≤ 40 → (SH h.2.1 hx.2.2.1 S) → (0 ≤ uu hx.2.2.1 ∧ uu hx.2.2.1 ≤ 40 * 18446744073709551616) → FX KAr h hx → (1000 * uu hx.2.2.1 + 1000 * l1.toInt + 100100 + 10 * (40 - l2.toInt) : Int) < n → Go l RX8 cX8_laysWay 6 (g_rm (d + 6) 0 0) "laysWay" none 117 0 0 (fun _ _ => True) (fun r h' => r = none ∧ Iv P h' ∧ (FX KAr h h')) 0 33 [(0, .ref 70), (1, .int l1), (2, .int l2)] [] hx) ∧ (∀ (l2 : Int32) (hx : HP), Iv P hx → 0 ≤ l2.toInt → l2.toInt ≤ 40 → FX KAr h hx → (50000 + (40 - l2.toInt) : Int) < n → Go l RX8 cX8_laysWay 6 (g_rm (d + 6) 0 0) "laysWay" none 117 0 0 (fun _ _ => True) (fun r h' => r = none ∧ Iv P h' ∧ (FX KAr h h')) 0 126 [(0, .ref 70), (2, .int l2)] [] hx) ∧ (∀ (l2 : Int32) (hx : HP), Iv P hx → 0 ≤ l2.toInt → l2.toInt ≤ 40 → FX KAr h hx → (10000 + 100 * (40 - l2.toInt) + 50 : Int) < n → Go l RX8 cX8_laysWay 6 (g_rm (d + 6) 0 0) "laysWay" none 117 0 0 (fun _ _ => True) (fun r h' => r = none ∧ Iv P h' ∧ (FX KAr h h')) 0 154 [(0, .ref 70), (2, .int l2)] [] hx) ∧ (∀ (l2 : Int32) (l3 : Int64) (l5 : Int32) (hx : HP), Iv P hx → 0 ≤ l2.toInt → l2.toInt ≤ 39 → 0 ≤ l5.toInt → l5.toInt ≤ 40 → FX KAr h hx → (10000 + 100 * (40 - l2.toInt) + (40 - l5.toInt) : Int) < n → Go l RX8 cX8_laysWay 6 (g_rm (d + 6) 0 0) "laysWay" none 117 0 0 (fun _ _ => True) (fun r h' => r = none ∧ Iv P h' ∧ (FX KAr h h')) 0 203 [(0, .ref 70), (2, .int l2), (3, .long l3), (5, .int l5)] [] hx) ∧ (∀ (l2 : Int32) (hx : HP), Iv P hx → 0 ≤ l2.toInt → l2.toInt ≤ 5 → FX KAr h hx → (2000 + 100 * (5 - l2.toInt) + 50 : Int) < n → Go l RX8 cX8_laysWay 6 (g_rm (d + 6) 0 0) "laysWay" none 117 0 0 (fun _ _ => True) (fun r h' => r = none ∧ Iv P h' ∧ (FX KAr h h')) 0 285 [(0, .ref 70), (2, .int l2)] [] hx) ∧ (∀ (l2 : Int32) (l3 : Int32) (hx : HP), Iv P hx → 0 ≤ l2.toInt → l2.toInt ≤ 4 → 0 ≤ l3.toInt → l3.toInt ≤ 40 → FX KAr h hx → (2000 + 100 * (5 - l2.toInt) + (40 - l3.toInt) : Int) < n → Go l RX8 cX8_laysWay 6 (g_rm (d + 6) 0 0) "laysWay" none 117 0 0 (fun _ _ => True) (fun r h' => r = none ∧ Iv P h' ∧ (FX KAr h h')) 0 323 [(0, .ref 70), (2, .int l2), (3, .int l3)] [] hx) ∧ (∀ (l2 : Int32) (hx : HP), Iv P hx → 0 ≤ l2.toInt → l2.toInt ≤ 40 → FX KAr h hx → (20 * (40 - l2.toInt) + 19 : Int) < n → Go l RX8 cX8_laysWay 6 (g_rm (d + 6) 0 0) "laysWay" none 117 0 0 (fun _ _ => True) (fun r h' => r = none ∧ Iv P h' ∧ (FX KAr h h')) 0 377 [(0, .ref 70), (2, .int l2)] [] hx) ∧ (∀ (l2 : Int32) (l3 : Int32) (hx : HP), Iv P hx → 0 ≤ l2.toInt → l2.toInt ≤ 39 → 1 ≤ l3.toInt → l3.toInt ≤ 13 → FX KAr h hx → (20 * (40 - l2.toInt) + (13 - l3.toInt) : Int) < n → Go l RX8 cX8_laysWay 6 (g_rm (d + 6) 0 0) "laysWay" none 117 0 0 (fun _ _ => True) (fun r h' => r = none ∧ Iv P h' ∧ (FX KAr h h')) 0 392 [(0, .ref 70), (2, .int l2), (3, .int l3)] [] hx) := by
    intro n
    induction n with
    | zero => exact ⟨(by intros; omega), (by intros; omega), (by intros; omega), (by intros; omega), (by intros; omega), (by intros; omega), (by intros; omega), (by intros; omega), (by intros; omega), (by intros; omega)⟩
    | succ n ih =>
      refine ⟨?_, ?_, ?_, ?_, ?_, ?_, ?_, ?_, ?_, ?_⟩
      ·
        intro l1 hx hvx l1l l1u x0 fxx hm
        have n75 : V h.2.1 75 S ≤ 40 := (hv.2.1 75 _).2
        have uuz := uu_hi hx.2.2.1
        refine go_iload_n (pc := 2) rfl dX8_laysWay_2 ?_
        refine go_bipush (pc := 3) (v := 40) (by decide) dX8_laysWay_3 ?_
        refine gf_icmp_ge (pc := 5) (tgt := 23) (ti_rfl l1) (ti_c (v := 40) (a := 40) (by decide)) (by decide) dX8_laysWay_5 (fun q1 => ?_) (fun q1 => ?_)
        ·
          refine go_iconst (pc := 23) (v := 1) (by decide) dX8_laysWay_23 ?_
          refine go_istore_n (pc := 24) (Nat.le_of_ble_eq_true rfl) dX8_laysWay_24 (go_lv (lv2 := [(0, .ref 70), (1, .int 1)]) rfl ?_)
          have z2 : (1 : Int32).toInt = 1 := (ti_c (v := 1) (a := 1) (by decide))
          exact go_lv rfl (ih.2.1 1 hx hvx (by omega) (by omega) (SH.init (fun j q => x0 j (by omega)) n75) (uu_hi _) fxx (by omega))
        ·
          refine go_aload_n (pc := 8) rfl dX8_laysWay_8 ?_
          refine gi_getF (pc := 9) (q := 106) hvx fL_X8_118 rfl (Nat.le_of_ble_eq_true rfl) rfl (hvx.rf (by decide)) dX8_laysWay_9 ?_
          refine go_iload_n (pc := 12) rfl dX8_laysWay_12 ?_
          refine go_ldc2 (pc := 13) kL_X8_329 dX8_laysWay_13 ?_
          refine gi_last (pc := 16) (len := 40) hvx (ti_rfl l1) rfl (by omega) (by omega) dX8_laysWay_16 (fun h3 hv3 hv3e => ?_)
          have fx3 : FX KAr h h3 := FX.pL fxx hv3e (by unfold KAr; omega)
          refine gf_iinc (pc := 17) (Nat.le_of_ble_eq_true rfl) rfl (ti_rfl l1) (ti_c (by decide)) (by omega) (by omega) dX8_laysWay_17 (fun v4 e5 => ?_)
          refine go_lv (lv2 := [(0, .ref 70), (1, .int v4)]) rfl ?_
          refine go_goto (pc := 20) (tgt := 2) (by decide) dX8_laysWay_20 ?_
          have z6 : (v4 : Int32).toInt = (l1.toInt + 1) := e5
          exact go_lv rfl (ih.1 v4 h3 hv3 (by omega) (by omega) (fun j q => by rw [hv3e]; show (if 106 = 106 ∧ j = (l1.toInt).toNat then -1 else hx.2.2.1 106 j) = -1; by_cases w : j = (l1.toInt).toNat; (rw [if_pos ⟨rfl, w⟩]); (rw [if_neg (by omega)]; exact x0 j (by omega))) fx3 (by omega))
      ·
        intro l1 hx hvx l1l l1u x0 x1 fxx hm
        refine go_iload_n (pc := 25) rfl dX8_laysWay_25 ?_
        refine gf_if_eq (pc := 26) (tgt := 124) (ti_rfl l1) (by decide) dX8_laysWay_26 (fun q7 => ?_) (fun q7 => ?_)
        ·
          refine go_iconst (pc := 124) (v := 0) (by decide) dX8_laysWay_124 ?_
          refine go_istore_n (pc := 125) (Nat.le_of_ble_eq_true rfl) dX8_laysWay_125 (go_lv (lv2 := [(0, .ref 70), (1, .int l1), (2, .int 0)]) rfl ?_)
          have z8 : (0 : Int32).toInt = 0 := (ti_c (v := 0) (a := 0) (by decide))
          exact go_lv rfl (ih.2.2.2.1 0 hx hvx (by omega) (by omega) fxx (by omega))
        ·
          refine go_iconst (pc := 29) (v := 0) (by decide) dX8_laysWay_29 ?_
          refine go_istore_n (pc := 30) (Nat.le_of_ble_eq_true rfl) dX8_laysWay_30 (go_lv (lv2 := [(0, .ref 70), (1, .int 0)]) rfl ?_)
          refine go_iconst (pc := 31) (v := 0) (by decide) dX8_laysWay_31 ?_
          refine go_istore_n (pc := 32) (Nat.le_of_ble_eq_true rfl) dX8_laysWay_32 (go_lv (lv2 := [(0, .ref 70), (1, .int 0), (2, .int 0)]) rfl ?_)
          have z9 : (0 : Int32).toInt = 0 := (ti_c (v := 0) (a := 0) (by decide))
          have z10 : (0 : Int32).toInt = 0 := (ti_c (v := 0) (a := 0) (by decide))
          exact go_lv rfl (ih.2.2.1 0 0 hx hvx (by omega) (by omega) (by omega) (by omega) x0 (uu_hi _) fxx (by omega))
      ·
        intro l1 l2 hx hvx l1l l1u l2l l2u x0 x1 fxx hm
        refine go_iload_n (pc := 33) rfl dX8_laysWay_33 ?_
        refine go_aload_n (pc := 34) rfl dX8_laysWay_34 ?_
        refine gi_getF (pc := 35) (q := 75) hvx fL_X8_23 rfl (Nat.le_of_ble_eq_true rfl) rfl (hvx.rf (by decide)) dX8_laysWay_35 ?_
        refine go_aload_n (pc := 38) rfl dX8_laysWay_38 ?_
        refine gi_get (pc := 39) (lo := 0) (hi := 1) hvx fL_X8_187 rfl (Nat.le_of_ble_eq_true rfl) rfl rfl dX8_laysWay_39 (fun v11 v11l v11u v11w => ?_)
        have v11S : v11.toInt = S := by rw [v11w, hvx.fy (j := 6) (by omega), ← hv.fy (j := 6) (by omega)]; exact hS.symm
        refine gi_iald (pc := 42) (lo := 0) (hi := 40) (len := 2) hvx (ti_rfl v11) rfl (by omega) (by omega) (fun _ => rfl) dX8_laysWay_42 (fun v12 v12l v12u v12w => ?_)
        have v12V : v12.toInt = V h.2.1 75 S := by rw [v12w, v11S, hvx.fz (c := 75) (by omega) (by omega), ← hv.fz (c := 75) (by omega) (by omega)]; rfl
        refine gf_icmp_ge (pc := 43) (tgt := 121) (ti_rfl l2) (ti_rfl v12) (by decide) dX8_laysWay_43 (fun q13 => ?_) (fun q13 => ?_)
        ·
          refine go_goto (pc := 121) (tgt := 25) (by decide) dX8_laysWay_121 ?_
          exact go_lv rfl (ih.2.1 l1 hx hvx (by omega) (by omega) x0 (uu_hi _) fxx (by omega))
        ·
          refine go_aload_n (pc := 46) rfl dX8_laysWay_46 ?_
          refine go_aload_n (pc := 47) rfl dX8_laysWay_47 ?_
          refine go_iload_n (pc := 48) rfl dX8_laysWay_48 ?_
          refine go_iconst (pc := 49) (v := 0) (by decide) dX8_laysWay_49 ?_
          have sM14 : (hx.2.1 70 6).toInt = S := by rw [hvx.fy (j := 6) (by omega), ← hv.fy (j := 6) (by omega)]; exact hS.symm
          refine go_invV (pc := 50) (sl := 0) (s_X8_wayOf_x l (d + 0) hvx l2 (by rw [show (l2 : Int32).toInt = l2.toInt from (ti_rfl l2)]; omega) (by rw [show (l2 : Int32).toInt = l2.toInt from (ti_rfl l2)]; omega) 0 (by rw [show (0 : Int32).toInt = 0 from (ti_c (v := 0) (a := 0) (by decide))]; omega) (by rw [show (0 : Int32).toInt = 0 from (ti_c (v := 0) (a := 0) (by decide))]; omega) (CKF.ve (VE.of hv hvx) ckf)) mL_X8_331 iM_X8_wayOf sM_X8_wayOf (hvx.sh rfl) rfl rfl rfl (Nat.le_of_ble_eq_true rfl) (show d + 0 + 5 + 1 ≤ d + 6 by omega) (show 8 + (4 + 11) + 40 * (d + 0 + 5) ≤ 40 * (d + 6) by omega) (g_c0 hvx.ln) (Nat.le_of_ble_eq_true rfl) dX8_laysWay_50 ?_
          intro r h15 hq _
          obtain ⟨v17, rfl, v17l, v17u, rfl, f16⟩ := hq
          rw [sM14] at f16
          try rw [show (0 : Int32).toInt = 0 from (ti_c (v := 0) (a := 0) (by decide))] at f16
          have w0 : v17.toInt = wo h.2.1 S l2.toInt 0 := by rw [f16]; exact wo_ve (VE.of hv hvx) _ _ _
          have w0g := WI.wo0 hv hwi (k := l2.toInt) (by omega) (by omega)
          refine go_invV (pc := 53) (sl := 0) (s_X8_onAllFrom_x l (d + 4) hvx v17 (by rw [show (v17 : Int32).toInt = v17.toInt from (ti_rfl v17)]; omega) (by rw [show (v17 : Int32).toInt = v17.toInt from (ti_rfl v17)]; omega)) mL_X8_334 iM_X8_onAllFrom sM_X8_onAllFrom (hvx.sh rfl) rfl rfl rfl (Nat.le_of_ble_eq_true rfl) (show d + 4 + 1 + 1 ≤ d + 6 by omega) (show 8 + (2 + 11) + 40 * (d + 4 + 1) ≤ 40 * (d + 6) by omega) (g_c0 hvx.ln) (Nat.le_of_ble_eq_true rfl) dX8_laysWay_53 ?_
          intro r h18 hq _
          obtain ⟨v20, rfl, rfl, f19⟩ := hq
          refine go_lstore_n (pc := 56) (Nat.le_of_ble_eq_true rfl) dX8_laysWay_56 (go_lv (lv2 := [(0, .ref 70), (1, .int l1), (2, .int l2), (3, .long v20)]) rfl ?_)
          refine go_aload_n (pc := 57) rfl dX8_laysWay_57 ?_
          refine go_iload_n (pc := 58) rfl dX8_laysWay_58 ?_
          refine go_iconst (pc := 59) (v := 1) (by decide) dX8_laysWay_59 ?_
          have sM21 : (hx.2.1 70 6).toInt = S := by rw [hvx.fy (j := 6) (by omega), ← hv.fy (j := 6) (by omega)]; exact hS.symm
          refine go_invV (pc := 60) (sl := 0) (s_X8_wayOf_x l (d + 0) hvx l2 (by rw [show (l2 : Int32).toInt = l2.toInt from (ti_rfl l2)]; omega) (by rw [show (l2 : Int32).toInt = l2.toInt from (ti_rfl l2)]; omega) 1 (by rw [show (1 : Int32).toInt = 1 from (ti_c (v := 1) (a := 1) (by decide))]; omega) (by rw [show (1 : Int32).toInt = 1 from (ti_c (v := 1) (a := 1) (by decide))]; omega) (CKF.ve (VE.of hv hvx) ckf)) mL_X8_331 iM_X8_wayOf sM_X8_wayOf (hvx.sh rfl) rfl rfl rfl (Nat.le_of_ble_eq_true rfl) (show d + 0 + 5 + 1 ≤ d + 6 by omega) (show 8 + (4 + 11) + 40 * (d + 0 + 5) ≤ 40 * (d + 6) by omega) (g_c0 hvx.ln) (Nat.le_of_ble_eq_true rfl) dX8_laysWay_60 ?_
          intro r h22 hq _
          obtain ⟨v24, rfl, v24l, v24u, rfl, f23⟩ := hq
          rw [sM21] at f23
          try rw [show (1 : Int32).toInt = 1 from (ti_c (v := 1) (a := 1) (by decide))] at f23
          have w1 : v24.toInt = wo h.2.1 S l2.toInt 1 := by rw [f23]; exact wo_ve (VE.of hv hvx) _ _ _
          refine go_bipush (pc := 63) (v := (-2)) (by decide) dX8_laysWay_63 ?_
          refine gf_icmp_eq (pc := 65) (tgt := 81) (ti_rfl v24) (ti_c (v := (-2)) (a := (-2)) (by decide)) (by decide) dX8_laysWay_65 (fun q25 => ?_) (fun q25 => ?_)
          ·
            refine go_lload_n (pc := 81) rfl dX8_laysWay_81 ?_
            refine go_lconst (pc := 82) (v := 1) (by decide) dX8_laysWay_82 ?_
            refine go_iload_n (pc := 83) rfl dX8_laysWay_83 ?_
            refine gx_lshl (pc := 84) dX8_laysWay_84 (fun v26 v26x => ?_)
            refine gx_lor (pc := 85) dX8_laysWay_85 (fun v27 v27x => ?_)
            have l2o : Int32.ofNat l2.toInt.toNat = l2 := (i32_of (by omega)).symm
            have nwv : v27 = nw h.2.1 hx.2.2.1 S l2.toInt := by unfold nw; rw [if_pos (by omega), l2o, ← w0, ← f19, v27x, v26x]
            refine go_lstore_n (pc := 86) (Nat.le_of_ble_eq_true rfl) dX8_laysWay_86 (go_lv (lv2 := [(0, .ref 70), (1, .int l1), (2, .int l2), (3, .long v27)]) rfl ?_)
            refine go_iload_n (pc := 87) rfl dX8_laysWay_87 ?_
            refine gf_if_ne (pc := 88) (tgt := 102) (ti_rfl l1) (by decide) dX8_laysWay_88 (fun q28 => ?_) (fun q28 => ?_)
            ·
              refine go_iconst (pc := 102) (v := 1) (by decide) dX8_laysWay_102 ?_
              refine go_goto (pc := 103) (tgt := 107) (by decide) dX8_laysWay_103 ?_
              refine go_istore_n (pc := 107) (Nat.le_of_ble_eq_true rfl) dX8_laysWay_107 (go_lv (lv2 := [(0, .ref 70), (1, .int 1), (2, .int l2), (3, .long v27)]) rfl ?_)
              refine go_aload_n (pc := 108) rfl dX8_laysWay_108 ?_
              refine gi_getF (pc := 109) (q := 106) hvx fL_X8_118 rfl (Nat.le_of_ble_eq_true rfl) rfl (hvx.rf (by decide)) dX8_laysWay_109 ?_
              refine go_iload_n (pc := 112) rfl dX8_laysWay_112 ?_
              refine go_lload_n (pc := 113) rfl dX8_laysWay_113 ?_
              refine gi_last (pc := 114) (len := 40) hvx (ti_rfl l2) rfl (by omega) (by omega) dX8_laysWay_114 (fun h29 hv29 hv29e => ?_)
              have fx29 : FX KAr h h29 := FX.pL fxx hv29e (by unfold KAr; omega)
              obtain ⟨t1, t2, t3⟩ := SH.step (by omega) (by omega) (by omega) x0 nwv
              have eh : h29.2.2.1 = (fun p q => if p = 106 ∧ q = (l2.toInt).toNat then v27 else hx.2.2.1 p q) := by rw [hv29e]; rfl
              rw [← eh] at t1 t2 t3
              refine gf_iinc (pc := 115) (Nat.le_of_ble_eq_true rfl) rfl (ti_rfl l2) (ti_c (by decide)) (by omega) (by omega) dX8_laysWay_115 (fun v30 e31 => ?_)
              refine go_lv (lv2 := [(0, .ref 70), (1, .int 1), (2, .int v30), (3, .long v27)]) rfl ?_
              refine go_goto (pc := 118) (tgt := 33) (by decide) dX8_laysWay_118 ?_
              have z32 : (1 : Int32).toInt = 1 := (ti_c (v := 1) (a := 1) (by decide))
              have z33 : (v30 : Int32).toInt = (l2.toInt + 1) := e31
              exact go_lv rfl (ih.2.2.1 1 v30 h29 hv29 (by omega) (by omega) (by omega) (by omega) t1 (uu_hi _) fx29 (by omega))
            ·
              refine go_lload_n (pc := 91) rfl dX8_laysWay_91 ?_
              refine go_aload_n (pc := 92) rfl dX8_laysWay_92 ?_
              refine gi_getF (pc := 93) (q := 106) hvx fL_X8_118 rfl (Nat.le_of_ble_eq_true rfl) rfl (hvx.rf (by decide)) dX8_laysWay_93 ?_
              refine go_iload_n (pc := 96) rfl dX8_laysWay_96 ?_
              refine gi_lald (pc := 97) (len := 40) hvx (ti_rfl l2) rfl (by omega) (by omega) dX8_laysWay_97 (fun v34 v34w => ?_)
              refine gx_lcmp (pc := 98) dX8_laysWay_98 (fun v35 v35x => ?_)
              refine gf_if_eq (pc := 99) (tgt := 106) (ti_rfl v35) (by decide) dX8_laysWay_99 (fun q36 => ?_) (fun q36 => ?_)
              ·
                refine go_iconst (pc := 106) (v := 0) (by decide) dX8_laysWay_106 ?_
                refine go_istore_n (pc := 107) (Nat.le_of_ble_eq_true rfl) dX8_laysWay_107 (go_lv (lv2 := [(0, .ref 70), (1, .int 0), (2, .int l2), (3, .long v27)]) rfl ?_)
                refine go_aload_n (pc := 108) rfl dX8_laysWay_108 ?_
                refine gi_getF (pc := 109) (q := 106) hvx fL_X8_118 rfl (Nat.le_of_ble_eq_true rfl) rfl (hvx.rf (by decide)) dX8_laysWay_109 ?_
                refine go_iload_n (pc := 112) rfl dX8_laysWay_112 ?_
                refine go_lload_n (pc := 113) rfl dX8_laysWay_113 ?_
                refine gi_last (pc := 114) (len := 40) hvx (ti_rfl l2) rfl (by omega) (by omega) dX8_laysWay_114 (fun h37 hv37 hv37e => ?_)
                have fx37 : FX KAr h h37 := FX.pL fxx hv37e (by unfold KAr; omega)
                obtain ⟨t1, t2, t3⟩ := SH.step (by omega) (by omega) (by omega) x0 nwv
                have eh : h37.2.2.1 = (fun p q => if p = 106 ∧ q = (l2.toInt).toNat then v27 else hx.2.2.1 p q) := by rw [hv37e]; rfl
                rw [← eh] at t1 t2 t3
                have t6 : ¬ (v35 : Int32).toInt = 0 → uu h37.2.2.1 + 1 ≤ uu hx.2.2.1 := fun q => t3 (fun z => q (by rw [v35x]; exact (cmp_eq _ _).mpr (by rw [z, v34w])))
                refine gf_iinc (pc := 115) (Nat.le_of_ble_eq_true rfl) rfl (ti_rfl l2) (ti_c (by decide)) (by omega) (by omega) dX8_laysWay_115 (fun v38 e39 => ?_)
                refine go_lv (lv2 := [(0, .ref 70), (1, .int 0), (2, .int v38), (3, .long v27)]) rfl ?_
                refine go_goto (pc := 118) (tgt := 33) (by decide) dX8_laysWay_118 ?_
                have z40 : (0 : Int32).toInt = 0 := (ti_c (v := 0) (a := 0) (by decide))
                have z41 : (v38 : Int32).toInt = (l2.toInt + 1) := e39
                exact go_lv rfl (ih.2.2.1 0 v38 h37 hv37 (by omega) (by omega) (by omega) (by omega) t1 (uu_hi _) fx37 (by omega))
              ·
                refine go_iconst (pc := 102) (v := 1) (by decide) dX8_laysWay_102 ?_
                refine go_goto (pc := 103) (tgt := 107) (by decide) dX8_laysWay_103 ?_
                refine go_istore_n (pc := 107) (Nat.le_of_ble_eq_true rfl) dX8_laysWay_107 (go_lv (lv2 := [(0, .ref 70), (1, .int 1), (2, .int l2), (3, .long v27)]) rfl ?_)
                refine go_aload_n (pc := 108) rfl dX8_laysWay_108 ?_
                refine gi_getF (pc := 109) (q := 106) hvx fL_X8_118 rfl (Nat.le_of_ble_eq_true rfl) rfl (hvx.rf (by decide)) dX8_laysWay_109 ?_
                refine go_iload_n (pc := 112) rfl dX8_laysWay_112 ?_
                refine go_lload_n (pc := 113) rfl dX8_laysWay_113 ?_
                refine gi_last (pc := 114) (len := 40) hvx (ti_rfl l2) rfl (by omega) (by omega) dX8_laysWay_114 (fun h42 hv42 hv42e => ?_)
                have fx42 : FX KAr h h42 := FX.pL fxx hv42e (by unfold KAr; omega)
                obtain ⟨t1, t2, t3⟩ := SH.step (by omega) (by omega) (by omega) x0 nwv
                have eh : h42.2.2.1 = (fun p q => if p = 106 ∧ q = (l2.toInt).toNat then v27 else hx.2.2.1 p q) := by rw [hv42e]; rfl
                rw [← eh] at t1 t2 t3
                have t6 : ¬ (v35 : Int32).toInt = 0 → uu h42.2.2.1 + 1 ≤ uu hx.2.2.1 := fun q => t3 (fun z => q (by rw [v35x]; exact (cmp_eq _ _).mpr (by rw [z, v34w])))
                refine gf_iinc (pc := 115) (Nat.le_of_ble_eq_true rfl) rfl (ti_rfl l2) (ti_c (by decide)) (by omega) (by omega) dX8_laysWay_115 (fun v43 e44 => ?_)
                refine go_lv (lv2 := [(0, .ref 70), (1, .int 1), (2, .int v43), (3, .long v27)]) rfl ?_
                refine go_goto (pc := 118) (tgt := 33) (by decide) dX8_laysWay_118 ?_
                have z45 : (1 : Int32).toInt = 1 := (ti_c (v := 1) (a := 1) (by decide))
                have z46 : (v43 : Int32).toInt = (l2.toInt + 1) := e44
                exact go_lv rfl (ih.2.2.1 1 v43 h42 hv42 (by omega) (by omega) (by omega) (by omega) t1 (uu_hi _) fx42 (by omega))
          ·
            refine go_lload_n (pc := 68) rfl dX8_laysWay_68 ?_
            refine go_aload_n (pc := 69) rfl dX8_laysWay_69 ?_
            refine go_aload_n (pc := 70) rfl dX8_laysWay_70 ?_
            refine go_iload_n (pc := 71) rfl dX8_laysWay_71 ?_
            refine go_iconst (pc := 72) (v := 1) (by decide) dX8_laysWay_72 ?_
            have sM47 : (hx.2.1 70 6).toInt = S := by rw [hvx.fy (j := 6) (by omega), ← hv.fy (j := 6) (by omega)]; exact hS.symm
            refine go_invV (pc := 73) (sl := 0) (s_X8_wayOf_x l (d + 0) hvx l2 (by rw [show (l2 : Int32).toInt = l2.toInt from (ti_rfl l2)]; omega) (by rw [show (l2 : Int32).toInt = l2.toInt from (ti_rfl l2)]; omega) 1 (by rw [show (1 : Int32).toInt = 1 from (ti_c (v := 1) (a := 1) (by decide))]; omega) (by rw [show (1 : Int32).toInt = 1 from (ti_c (v := 1) (a := 1) (by decide))]; omega) (CKF.ve (VE.of hv hvx) ckf)) mL_X8_331 iM_X8_wayOf sM_X8_wayOf (hvx.sh rfl) rfl rfl rfl (Nat.le_of_ble_eq_true rfl) (show d + 0 + 5 + 1 ≤ d + 6 by omega) (show 8 + (4 + 11) + 40 * (d + 0 + 5) ≤ 40 * (d + 6) by omega) (g_c0 hvx.ln) (Nat.le_of_ble_eq_true rfl) dX8_laysWay_73 ?_
            intro r h48 hq _
            obtain ⟨v50, rfl, v50l, v50u, rfl, f49⟩ := hq
            rw [sM47] at f49
            try rw [show (1 : Int32).toInt = 1 from (ti_c (v := 1) (a := 1) (by decide))] at f49
            have w1b : v50.toInt = wo h.2.1 S l2.toInt 1 := by rw [f49]; exact wo_ve (VE.of hv hvx) _ _ _
            refine go_invV (pc := 76) (sl := 0) (s_X8_onAllFrom_x l (d + 4) hvx v50 (by rw [show (v50 : Int32).toInt = v50.toInt from (ti_rfl v50)]; omega) (by rw [show (v50 : Int32).toInt = v50.toInt from (ti_rfl v50)]; omega)) mL_X8_334 iM_X8_onAllFrom sM_X8_onAllFrom (hvx.sh rfl) rfl rfl rfl (Nat.le_of_ble_eq_true rfl) (show d + 4 + 1 + 1 ≤ d + 6 by omega) (show 8 + (2 + 11) + 40 * (d + 4 + 1) ≤ 40 * (d + 6) by omega) (g_c0 hvx.ln) (Nat.le_of_ble_eq_true rfl) dX8_laysWay_76 ?_
            intro r h51 hq _
            obtain ⟨v53, rfl, rfl, f52⟩ := hq
            refine gx_land (pc := 79) dX8_laysWay_79 (fun v54 v54x => ?_)
            refine go_lstore_n (pc := 80) (Nat.le_of_ble_eq_true rfl) dX8_laysWay_80 (go_lv (lv2 := [(0, .ref 70), (1, .int l1), (2, .int l2), (3, .long v54)]) rfl ?_)
            refine go_lload_n (pc := 81) rfl dX8_laysWay_81 ?_
            refine go_lconst (pc := 82) (v := 1) (by decide) dX8_laysWay_82 ?_
            refine go_iload_n (pc := 83) rfl dX8_laysWay_83 ?_
            refine gx_lshl (pc := 84) dX8_laysWay_84 (fun v55 v55x => ?_)
            refine gx_lor (pc := 85) dX8_laysWay_85 (fun v56 v56x => ?_)
            have l2o : Int32.ofNat l2.toInt.toNat = l2 := (i32_of (by omega)).symm
            have nwv : v56 = nw h.2.1 hx.2.2.1 S l2.toInt := by unfold nw; rw [if_neg (by omega), l2o, ← w0, ← w1b, ← f19, ← f52, v56x, v54x, v55x]
            refine go_lstore_n (pc := 86) (Nat.le_of_ble_eq_true rfl) dX8_laysWay_86 (go_lv (lv2 := [(0, .ref 70), (1, .int l1), (2, .int l2), (3, .long v56)]) rfl ?_)
            refine go_iload_n (pc := 87) rfl dX8_laysWay_87 ?_
            refine gf_if_ne (pc := 88) (tgt := 102) (ti_rfl l1) (by decide) dX8_laysWay_88 (fun q57 => ?_) (fun q57 => ?_)
            ·
              refine go_iconst (pc := 102) (v := 1) (by decide) dX8_laysWay_102 ?_
              refine go_goto (pc := 103) (tgt := 107) (by decide) dX8_laysWay_103 ?_
              refine go_istore_n (pc := 107) (Nat.le_of_ble_eq_true rfl) dX8_laysWay_107 (go_lv (lv2 := [(0, .ref 70), (1, .int 1), (2, .int l2), (3, .long v56)]) rfl ?_)
              refine go_aload_n (pc := 108) rfl dX8_laysWay_108 ?_
              refine gi_getF (pc := 109) (q := 106) hvx fL_X8_118 rfl (Nat.le_of_ble_eq_true rfl) rfl (hvx.rf (by decide)) dX8_laysWay_109 ?_
              refine go_iload_n (pc := 112) rfl dX8_laysWay_112 ?_
              refine go_lload_n (pc := 113) rfl dX8_laysWay_113 ?_
              refine gi_last (pc := 114) (len := 40) hvx (ti_rfl l2) rfl (by omega) (by omega) dX8_laysWay_114 (fun h58 hv58 hv58e => ?_)
              have fx58 : FX KAr h h58 := FX.pL fxx hv58e (by unfold KAr; omega)
              obtain ⟨t1, t2, t3⟩ := SH.step (by omega) (by omega) (by omega) x0 nwv
              have eh : h58.2.2.1 = (fun p q => if p = 106 ∧ q = (l2.toInt).toNat then v56 else hx.2.2.1 p q) := by rw [hv58e]; rfl
              rw [← eh] at t1 t2 t3
              refine gf_iinc (pc := 115) (Nat.le_of_ble_eq_true rfl) rfl (ti_rfl l2) (ti_c (by decide)) (by omega) (by omega) dX8_laysWay_115 (fun v59 e60 => ?_)
              refine go_lv (lv2 := [(0, .ref 70), (1, .int 1), (2, .int v59), (3, .long v56)]) rfl ?_
              refine go_goto (pc := 118) (tgt := 33) (by decide) dX8_laysWay_118 ?_
              have z61 : (1 : Int32).toInt = 1 := (ti_c (v := 1) (a := 1) (by decide))
              have z62 : (v59 : Int32).toInt = (l2.toInt + 1) := e60
              exact go_lv rfl (ih.2.2.1 1 v59 h58 hv58 (by omega) (by omega) (by omega) (by omega) t1 (uu_hi _) fx58 (by omega))
            ·
              refine go_lload_n (pc := 91) rfl dX8_laysWay_91 ?_
              refine go_aload_n (pc := 92) rfl dX8_laysWay_92 ?_
              refine gi_getF (pc := 93) (q := 106) hvx fL_X8_118 rfl (Nat.le_of_ble_eq_true rfl) rfl (hvx.rf (by decide)) dX8_laysWay_93 ?_
              refine go_iload_n (pc := 96) rfl dX8_laysWay_96 ?_
              refine gi_lald (pc := 97) (len := 40) hvx (ti_rfl l2) rfl (by omega) (by omega) dX8_laysWay_97 (fun v63 v63w => ?_)
              refine gx_lcmp (pc := 98) dX8_laysWay_98 (fun v64 v64x => ?_)
              refine gf_if_eq (pc := 99) (tgt := 106) (ti_rfl v64) (by decide) dX8_laysWay_99 (fun q65 => ?_) (fun q65 => ?_)
              ·
                refine go_iconst (pc := 106) (v := 0) (by decide) dX8_laysWay_106 ?_
                refine go_istore_n (pc := 107) (Nat.le_of_ble_eq_true rfl) dX8_laysWay_107 (go_lv (lv2 := [(0, .ref 70), (1, .int 0), (2, .int l2), (3, .long v56)]) rfl ?_)
                refine go_aload_n (pc := 108) rfl dX8_laysWay_108 ?_
                refine gi_getF (pc := 109) (q := 106) hvx fL_X8_118 rfl (Nat.le_of_ble_eq_true rfl) rfl (hvx.rf (by decide)) dX8_laysWay_109 ?_
                refine go_iload_n (pc := 112) rfl dX8_laysWay_112 ?_
                refine go_lload_n (pc := 113) rfl dX8_laysWay_113 ?_
                refine gi_last (pc := 114) (len := 40) hvx (ti_rfl l2) rfl (by omega) (by omega) dX8_laysWay_114 (fun h66 hv66 hv66e => ?_)
                have fx66 : FX KAr h h66 := FX.pL fxx hv66e (by unfold KAr; omega)
                obtain ⟨t1, t2, t3⟩ := SH.step (by omega) (by omega) (by omega) x0 nwv
                have eh : h66.2.2.1 = (fun p q => if p = 106 ∧ q = (l2.toInt).toNat then v56 else hx.2.2.1 p q) := by rw [hv66e]; rfl
                rw [← eh] at t1 t2 t3
                have t6 : ¬ (v64 : Int32).toInt = 0 → uu h66.2.2.1 + 1 ≤ uu hx.2.2.1 := fun q => t3 (fun z => q (by rw [v64x]; exact (cmp_eq _ _).mpr (by rw [z, v63w])))
                refine gf_iinc (pc := 115) (Nat.le_of_ble_eq_true rfl) rfl (ti_rfl l2) (ti_c (by decide)) (by omega) (by omega) dX8_laysWay_115 (fun v67 e68 => ?_)
                refine go_lv (lv2 := [(0, .ref 70), (1, .int 0), (2, .int v67), (3, .long v56)]) rfl ?_
                refine go_goto (pc := 118) (tgt := 33) (by decide) dX8_laysWay_118 ?_
                have z69 : (0 : Int32).toInt = 0 := (ti_c (v := 0) (a := 0) (by decide))
                have z70 : (v67 : Int32).toInt = (l2.toInt + 1) := e68
                exact go_lv rfl (ih.2.2.1 0 v67 h66 hv66 (by omega) (by omega) (by omega) (by omega) t1 (uu_hi _) fx66 (by omega))
              ·
                refine go_iconst (pc := 102) (v := 1) (by decide) dX8_laysWay_102 ?_
                refine go_goto (pc := 103) (tgt := 107) (by decide) dX8_laysWay_103 ?_
                refine go_istore_n (pc := 107) (Nat.le_of_ble_eq_true rfl) dX8_laysWay_107 (go_lv (lv2 := [(0, .ref 70), (1, .int 1), (2, .int l2), (3, .long v56)]) rfl ?_)
                refine go_aload_n (pc := 108) rfl dX8_laysWay_108 ?_
                refine gi_getF (pc := 109) (q := 106) hvx fL_X8_118 rfl (Nat.le_of_ble_eq_true rfl) rfl (hvx.rf (by decide)) dX8_laysWay_109 ?_
                refine go_iload_n (pc := 112) rfl dX8_laysWay_112 ?_
                refine go_lload_n (pc := 113) rfl dX8_laysWay_113 ?_
                refine gi_last (pc := 114) (len := 40) hvx (ti_rfl l2) rfl (by omega) (by omega) dX8_laysWay_114 (fun h71 hv71 hv71e => ?_)
                have fx71 : FX KAr h h71 := FX.pL fxx hv71e (by unfold KAr; omega)
                obtain ⟨t1, t2, t3⟩ := SH.step (by omega) (by omega) (by omega) x0 nwv
                have eh : h71.2.2.1 = (fun p q => if p = 106 ∧ q = (l2.toInt).toNat then v56 else hx.2.2.1 p q) := by rw [hv71e]; rfl
                rw [← eh] at t1 t2 t3
                have t6 : ¬ (v64 : Int32).toInt = 0 → uu h71.2.2.1 + 1 ≤ uu hx.2.2.1 := fun q => t3 (fun z => q (by rw [v64x]; exact (cmp_eq _ _).mpr (by rw [z, v63w])))
                refine gf_iinc (pc := 115) (Nat.le_of_ble_eq_true rfl) rfl (ti_rfl l2) (ti_c (by decide)) (by omega) (by omega) dX8_laysWay_115 (fun v72 e73 => ?_)
                refine go_lv (lv2 := [(0, .ref 70), (1, .int 1), (2, .int v72), (3, .long v56)]) rfl ?_
                refine go_goto (pc := 118) (tgt := 33) (by decide) dX8_laysWay_118 ?_
                have z74 : (1 : Int32).toInt = 1 := (ti_c (v := 1) (a := 1) (by decide))
                have z75 : (v72 : Int32).toInt = (l2.toInt + 1) := e73
                exact go_lv rfl (ih.2.2.1 1 v72 h71 hv71 (by omega) (by omega) (by omega) (by omega) t1 (uu_hi _) fx71 (by omega))
      ·
        intro l2 hx hvx l2l l2u fxx hm
        refine go_iload_n (pc := 126) rfl dX8_laysWay_126 ?_
        refine go_aload_n (pc := 127) rfl dX8_laysWay_127 ?_
        refine gi_getF (pc := 128) (q := 75) hvx fL_X8_23 rfl (Nat.le_of_ble_eq_true rfl) rfl (hvx.rf (by decide)) dX8_laysWay_128 ?_
        refine go_aload_n (pc := 131) rfl dX8_laysWay_131 ?_
        refine gi_get (pc := 132) (lo := 0) (hi := 1) hvx fL_X8_187 rfl (Nat.le_of_ble_eq_true rfl) rfl rfl dX8_laysWay_132 (fun v76 v76l v76u v76w => ?_)
        have v76S : v76.toInt = S := by rw [v76w, hvx.fy (j := 6) (by omega), ← hv.fy (j := 6) (by omega)]; exact hS.symm
        refine gi_iald (pc := 135) (lo := 0) (hi := 40) (len := 2) hvx (ti_rfl v76) rfl (by omega) (by omega) (fun _ => rfl) dX8_laysWay_135 (fun v77 v77l v77u v77w => ?_)
        have v77V : v77.toInt = V h.2.1 75 S := by rw [v77w, v76S, hvx.fz (c := 75) (by omega) (by omega), ← hv.fz (c := 75) (by omega) (by omega)]; rfl
        refine gf_icmp_ge (pc := 136) (tgt := 152) (ti_rfl l2) (ti_rfl v77) (by decide) dX8_laysWay_136 (fun q78 => ?_) (fun q78 => ?_)
        ·
          refine go_iconst (pc := 152) (v := 0) (by decide) dX8_laysWay_152 ?_
          refine go_istore_n (pc := 153) (Nat.le_of_ble_eq_true rfl) dX8_laysWay_153 (go_lv (lv2 := [(0, .ref 70), (2, .int 0)]) rfl ?_)
          have z79 : (0 : Int32).toInt = 0 := (ti_c (v := 0) (a := 0) (by decide))
          exact go_lv rfl (ih.2.2.2.2.1 0 hx hvx (by omega) (by omega) fxx (by omega))
        ·
          refine go_aload_n (pc := 139) rfl dX8_laysWay_139 ?_
          refine gi_getF (pc := 140) (q := 105) hvx fL_X8_115 rfl (Nat.le_of_ble_eq_true rfl) rfl (hvx.rf (by decide)) dX8_laysWay_140 ?_
          refine go_iload_n (pc := 143) rfl dX8_laysWay_143 ?_
          refine go_lconst (pc := 144) (v := 0) (by decide) dX8_laysWay_144 ?_
          refine gi_last (pc := 145) (len := 40) hvx (ti_rfl l2) rfl (by omega) (by omega) dX8_laysWay_145 (fun h80 hv80 hv80e => ?_)
          have fx80 : FX KAr h h80 := FX.pL fxx hv80e (by unfold KAr; omega)
          refine gf_iinc (pc := 146) (Nat.le_of_ble_eq_true rfl) rfl (ti_rfl l2) (ti_c (by decide)) (by omega) (by omega) dX8_laysWay_146 (fun v81 e82 => ?_)
          refine go_lv (lv2 := [(0, .ref 70), (2, .int v81)]) rfl ?_
          refine go_goto (pc := 149) (tgt := 126) (by decide) dX8_laysWay_149 ?_
          have z83 : (v81 : Int32).toInt = (l2.toInt + 1) := e82
          exact go_lv rfl (ih.2.2.2.1 v81 h80 hv80 (by omega) (by omega) fx80 (by omega))
      ·
        intro l2 hx hvx l2l l2u fxx hm
        refine go_iload_n (pc := 154) rfl dX8_laysWay_154 ?_
        refine go_aload_n (pc := 155) rfl dX8_laysWay_155 ?_
        refine gi_getF (pc := 156) (q := 75) hvx fL_X8_23 rfl (Nat.le_of_ble_eq_true rfl) rfl (hvx.rf (by decide)) dX8_laysWay_156 ?_
        refine go_aload_n (pc := 159) rfl dX8_laysWay_159 ?_
        refine gi_get (pc := 160) (lo := 0) (hi := 1) hvx fL_X8_187 rfl (Nat.le_of_ble_eq_true rfl) rfl rfl dX8_laysWay_160 (fun v84 v84l v84u v84w => ?_)
        have v84S : v84.toInt = S := by rw [v84w, hvx.fy (j := 6) (by omega), ← hv.fy (j := 6) (by omega)]; exact hS.symm
        refine gi_iald (pc := 163) (lo := 0) (hi := 40) (len := 2) hvx (ti_rfl v84) rfl (by omega) (by omega) (fun _ => rfl) dX8_laysWay_163 (fun v85 v85l v85u v85w => ?_)
        have v85V : v85.toInt = V h.2.1 75 S := by rw [v85w, v84S, hvx.fz (c := 75) (by omega) (by omega), ← hv.fz (c := 75) (by omega) (by omega)]; rfl
        refine gf_icmp_ge (pc := 164) (tgt := 283) (ti_rfl l2) (ti_rfl v85) (by decide) dX8_laysWay_164 (fun q86 => ?_) (fun q86 => ?_)
        ·
          refine go_iconst (pc := 283) (v := 0) (by decide) dX8_laysWay_283 ?_
          refine go_istore_n (pc := 284) (Nat.le_of_ble_eq_true rfl) dX8_laysWay_284 (go_lv (lv2 := [(0, .ref 70), (2, .int 0)]) rfl ?_)
          have z87 : (0 : Int32).toInt = 0 := (ti_c (v := 0) (a := 0) (by decide))
          exact go_lv rfl (ih.2.2.2.2.2.2.1 0 hx hvx (by omega) (by omega) fxx (by omega))
        ·
          refine go_aload_n (pc := 167) rfl dX8_laysWay_167 ?_
          refine go_iload_n (pc := 168) rfl dX8_laysWay_168 ?_
          have sM88 : (hx.2.1 70 6).toInt = S := by rw [hvx.fy (j := 6) (by omega), ← hv.fy (j := 6) (by omega)]; exact hS.symm
          refine go_invV (pc := 169) (sl := 0) (s_X8_decides_x l (d + 1) hvx l2 (by rw [show (l2 : Int32).toInt = l2.toInt from (ti_rfl l2)]; omega) (by rw [show (l2 : Int32).toInt = l2.toInt from (ti_rfl l2)]; omega) (CKF.ve (VE.of hv hvx) ckf)) mL_X8_338 iM_X8_decides sM_X8_decides (hvx.sh rfl) rfl rfl rfl (Nat.le_of_ble_eq_true rfl) (show d + 1 + 4 + 1 ≤ d + 6 by omega) (show 8 + (3 + 11) + 40 * (d + 1 + 4) ≤ 40 * (d + 6) by omega) (g_c0 hvx.ln) (Nat.le_of_ble_eq_true rfl) dX8_laysWay_169 ?_
          intro r h89 hq _
          obtain ⟨v91, rfl, v91l, v91u, rfl, f90⟩ := hq
          rw [sM88] at f90
          refine gf_if_ne (pc := 172) (tgt := 178) (ti_rfl v91) (by decide) dX8_laysWay_172 (fun q92 => ?_) (fun q92 => ?_)
          ·
            have dcd := f90 (by omega)
            have vee := VE.of hv hvx
            rw [vee.v (c := 77) (by omega) (by omega), vee.v (c := 93) (by omega) (by omega), vee.v (c := 102) (by omega) (by omega), vee.v (c := 84) (by omega) (by omega)] at dcd
            refine go_aload_n (pc := 178) rfl dX8_laysWay_178 ?_
            refine go_aload_n (pc := 179) rfl dX8_laysWay_179 ?_
            refine go_iload_n (pc := 180) rfl dX8_laysWay_180 ?_
            refine go_iconst (pc := 181) (v := 0) (by decide) dX8_laysWay_181 ?_
            have sM93 : (hx.2.1 70 6).toInt = S := by rw [hvx.fy (j := 6) (by omega), ← hv.fy (j := 6) (by omega)]; exact hS.symm
            refine go_invV (pc := 182) (sl := 0) (s_X8_wayOf_x l (d + 0) hvx l2 (by rw [show (l2 : Int32).toInt = l2.toInt from (ti_rfl l2)]; omega) (by rw [show (l2 : Int32).toInt = l2.toInt from (ti_rfl l2)]; omega) 0 (by rw [show (0 : Int32).toInt = 0 from (ti_c (v := 0) (a := 0) (by decide))]; omega) (by rw [show (0 : Int32).toInt = 0 from (ti_c (v := 0) (a := 0) (by decide))]; omega) (CKF.ve (VE.of hv hvx) ckf)) mL_X8_331 iM_X8_wayOf sM_X8_wayOf (hvx.sh rfl) rfl rfl rfl (Nat.le_of_ble_eq_true rfl) (show d + 0 + 5 + 1 ≤ d + 6 by omega) (show 8 + (4 + 11) + 40 * (d + 0 + 5) ≤ 40 * (d + 6) by omega) (g_c0 hvx.ln) (Nat.le_of_ble_eq_true rfl) dX8_laysWay_182 ?_
            intro r h94 hq _
            obtain ⟨v96, rfl, v96l, v96u, rfl, f95⟩ := hq
            rw [sM93] at f95
            try rw [show (0 : Int32).toInt = 0 from (ti_c (v := 0) (a := 0) (by decide))] at f95
            have w0d : v96.toInt = wo h.2.1 S l2.toInt 0 := by rw [f95]; exact wo_ve (VE.of hv hvx) _ _ _
            have w0dg := WI.wo0 hv hwi (k := l2.toInt) (by omega) (by omega)
            refine go_invV (pc := 185) (sl := 0) (s_X8_onAllFrom_x l (d + 4) hvx v96 (by rw [show (v96 : Int32).toInt = v96.toInt from (ti_rfl v96)]; omega) (by rw [show (v96 : Int32).toInt = v96.toInt from (ti_rfl v96)]; omega)) mL_X8_334 iM_X8_onAllFrom sM_X8_onAllFrom (hvx.sh rfl) rfl rfl rfl (Nat.le_of_ble_eq_true rfl) (show d + 4 + 1 + 1 ≤ d + 6 by omega) (show 8 + (2 + 11) + 40 * (d + 4 + 1) ≤ 40 * (d + 6) by omega) (g_c0 hvx.ln) (Nat.le_of_ble_eq_true rfl) dX8_laysWay_185 ?_
            intro r h97 hq _
            obtain ⟨v99, rfl, rfl, f98⟩ := hq
            refine go_aload_n (pc := 188) rfl dX8_laysWay_188 ?_
            refine go_aload_n (pc := 189) rfl dX8_laysWay_189 ?_
            refine go_iload_n (pc := 190) rfl dX8_laysWay_190 ?_
            refine go_iconst (pc := 191) (v := 1) (by decide) dX8_laysWay_191 ?_
            have sM100 : (hx.2.1 70 6).toInt = S := by rw [hvx.fy (j := 6) (by omega), ← hv.fy (j := 6) (by omega)]; exact hS.symm
            refine go_invV (pc := 192) (sl := 0) (s_X8_wayOf_x l (d + 0) hvx l2 (by rw [show (l2 : Int32).toInt = l2.toInt from (ti_rfl l2)]; omega) (by rw [show (l2 : Int32).toInt = l2.toInt from (ti_rfl l2)]; omega) 1 (by rw [show (1 : Int32).toInt = 1 from (ti_c (v := 1) (a := 1) (by decide))]; omega) (by rw [show (1 : Int32).toInt = 1 from (ti_c (v := 1) (a := 1) (by decide))]; omega) (CKF.ve (VE.of hv hvx) ckf)) mL_X8_331 iM_X8_wayOf sM_X8_wayOf (hvx.sh rfl) rfl rfl rfl (Nat.le_of_ble_eq_true rfl) (show d + 0 + 5 + 1 ≤ d + 6 by omega) (show 8 + (4 + 11) + 40 * (d + 0 + 5) ≤ 40 * (d + 6) by omega) (g_c0 hvx.ln) (Nat.le_of_ble_eq_true rfl) dX8_laysWay_192 ?_
            intro r h101 hq _
            obtain ⟨v103, rfl, v103l, v103u, rfl, f102⟩ := hq
            rw [sM100] at f102
            try rw [show (1 : Int32).toInt = 1 from (ti_c (v := 1) (a := 1) (by decide))] at f102
            have w1d : v103.toInt = wo h.2.1 S l2.toInt 1 := by rw [f102]; exact wo_ve (VE.of hv hvx) _ _ _
            have w1dg := wo1_ge hv (k := l2.toInt) dcd
            refine go_invV (pc := 195) (sl := 0) (s_X8_onAllFrom_x l (d + 4) hvx v103 (by rw [show (v103 : Int32).toInt = v103.toInt from (ti_rfl v103)]; omega) (by rw [show (v103 : Int32).toInt = v103.toInt from (ti_rfl v103)]; omega)) mL_X8_334 iM_X8_onAllFrom sM_X8_onAllFrom (hvx.sh rfl) rfl rfl rfl (Nat.le_of_ble_eq_true rfl) (show d + 4 + 1 + 1 ≤ d + 6 by omega) (show 8 + (2 + 11) + 40 * (d + 4 + 1) ≤ 40 * (d + 6) by omega) (g_c0 hvx.ln) (Nat.le_of_ble_eq_true rfl) dX8_laysWay_195 ?_
            intro r h104 hq _
            obtain ⟨v106, rfl, rfl, f105⟩ := hq
            refine gx_lxor (pc := 198) dX8_laysWay_198 (fun v107 v107x => ?_)
            refine go_lstore_n (pc := 199) (Nat.le_of_ble_eq_true rfl) dX8_laysWay_199 (go_lv (lv2 := [(0, .ref 70), (2, .int l2), (3, .long v107)]) rfl ?_)
            refine go_iconst (pc := 200) (v := 0) (by decide) dX8_laysWay_200 ?_
            refine go_istore (pc := 201) (Nat.le_of_ble_eq_true rfl) dX8_laysWay_201 (go_lv (lv2 := [(0, .ref 70), (2, .int l2), (3, .long v107), (5, .int 0)]) rfl ?_)
            have z108 : (0 : Int32).toInt = 0 := (ti_c (v := 0) (a := 0) (by decide))
            exact go_lv rfl (ih.2.2.2.2.2.1 l2 v107 0 hx hvx (by omega) (by omega) (by omega) (by omega) fxx (by omega))
          ·
            refine go_goto (pc := 175) (tgt := 277) (by decide) dX8_laysWay_175 ?_
            refine gf_iinc (pc := 277) (Nat.le_of_ble_eq_true rfl) rfl (ti_rfl l2) (ti_c (by decide)) (by omega) (by omega) dX8_laysWay_277 (fun v109 e110 => ?_)
            refine go_lv (lv2 := [(0, .ref 70), (2, .int v109)]) rfl ?_
            refine go_goto (pc := 280) (tgt := 154) (by decide) dX8_laysWay_280 ?_
            have z111 : (v109 : Int32).toInt = (l2.toInt + 1) := e110
            exact go_lv rfl (ih.2.2.2.2.1 v109 hx hvx (by omega) (by omega) fxx (by omega))
      ·
        intro l2 l3 l5 hx hvx l2l l2u l5l l5u fxx hm
        refine go_iload (pc := 203) rfl dX8_laysWay_203 ?_
        refine go_aload_n (pc := 205) rfl dX8_laysWay_205 ?_
        refine gi_getF (pc := 206) (q := 75) hvx fL_X8_23 rfl (Nat.le_of_ble_eq_true rfl) rfl (hvx.rf (by decide)) dX8_laysWay_206 ?_
        refine go_aload_n (pc := 209) rfl dX8_laysWay_209 ?_
        refine gi_get (pc := 210) (lo := 0) (hi := 1) hvx fL_X8_187 rfl (Nat.le_of_ble_eq_true rfl) rfl rfl dX8_laysWay_210 (fun v112 v112l v112u v112w => ?_)
        have v112S : v112.toInt = S := by rw [v112w, hvx.fy (j := 6) (by omega), ← hv.fy (j := 6) (by omega)]; exact hS.symm
        refine gi_iald (pc := 213) (lo := 0) (hi := 40) (len := 2) hvx (ti_rfl v112) rfl (by omega) (by omega) (fun _ => rfl) dX8_laysWay_213 (fun v113 v113l v113u v113w => ?_)
        have v113V : v113.toInt = V h.2.1 75 S := by rw [v113w, v112S, hvx.fz (c := 75) (by omega) (by omega), ← hv.fz (c := 75) (by omega) (by omega)]; rfl
        refine gf_icmp_ge (pc := 214) (tgt := 277) (ti_rfl l5) (ti_rfl v113) (by decide) dX8_laysWay_214 (fun q114 => ?_) (fun q114 => ?_)
        ·
          refine gf_iinc (pc := 277) (Nat.le_of_ble_eq_true rfl) rfl (ti_rfl l2) (ti_c (by decide)) (by omega) (by omega) dX8_laysWay_277 (fun v115 e116 => ?_)
          refine go_lv (lv2 := [(0, .ref 70), (2, .int v115), (3, .long l3), (5, .int l5)]) rfl ?_
          refine go_goto (pc := 280) (tgt := 154) (by decide) dX8_laysWay_280 ?_
          have z117 : (v115 : Int32).toInt = (l2.toInt + 1) := e116
          exact go_lv rfl (ih.2.2.2.2.1 v115 hx hvx (by omega) (by omega) fxx (by omega))
        ·
          refine go_lload_n (pc := 217) rfl dX8_laysWay_217 ?_
          refine go_iload (pc := 218) rfl dX8_laysWay_218 ?_
          refine go_invS (pc := 220) (sl := 0) (s_X8_has l (d + 4) hvx l3 l5) mL_X8_280 iM_X8_has rfl rfl (Nat.le_of_ble_eq_true rfl) (show d + 4 + 1 + 1 ≤ d + 6 by omega) (show 8 + (3 + 11) + 40 * (d + 4 + 1) ≤ 40 * (d + 6) by omega) (g_c0 hvx.ln) (Nat.le_of_ble_eq_true rfl) dX8_laysWay_220 ?_
          intro r h118 hq _
          obtain ⟨v119, rfl, v119l, v119u, rfl⟩ := hq
          refine gf_if_ne (pc := 223) (tgt := 229) (ti_rfl v119) (by decide) dX8_laysWay_223 (fun q120 => ?_) (fun q120 => ?_)
          ·
            refine go_aload_n (pc := 229) rfl dX8_laysWay_229 ?_
            refine gi_getF (pc := 230) (q := 105) hvx fL_X8_115 rfl (Nat.le_of_ble_eq_true rfl) rfl (hvx.rf (by decide)) dX8_laysWay_230 ?_
            refine go_iload (pc := 233) rfl dX8_laysWay_233 ?_
            refine go_dup2 (pc := 235) rfl rfl dX8_laysWay_235 ?_
            refine gi_lald (pc := 236) (len := 40) hvx (ti_rfl l5) rfl (by omega) (by omega) dX8_laysWay_236 (fun v121 v121w => ?_)
            refine go_lconst (pc := 237) (v := 1) (by decide) dX8_laysWay_237 ?_
            refine go_iload_n (pc := 238) rfl dX8_laysWay_238 ?_
            refine gx_lshl (pc := 239) dX8_laysWay_239 (fun v122 v122x => ?_)
            refine gx_lor (pc := 240) dX8_laysWay_240 (fun v123 v123x => ?_)
            refine gi_last (pc := 241) (len := 40) hvx (ti_rfl l5) rfl (by omega) (by omega) dX8_laysWay_241 (fun h124 hv124 hv124e => ?_)
            have fx124 : FX KAr h h124 := FX.pL fxx hv124e (by unfold KAr; omega)
            refine go_aload_n (pc := 242) rfl dX8_laysWay_242 ?_
            refine go_iload (pc := 243) rfl dX8_laysWay_243 ?_
            refine go_iconst (pc := 245) (v := 0) (by decide) dX8_laysWay_245 ?_
            refine go_invS (pc := 246) (sl := 0) (s_X8_statementPlace l (d + 4) hv124 l5 (by rw [show (l5 : Int32).toInt = l5.toInt from (ti_rfl l5)]; omega) (by rw [show (l5 : Int32).toInt = l5.toInt from (ti_rfl l5)]; omega) 0 (by rw [show (0 : Int32).toInt = 0 from (ti_c (v := 0) (a := 0) (by decide))]; omega) (by rw [show (0 : Int32).toInt = 0 from (ti_c (v := 0) (a := 0) (by decide))]; omega)) mL_X8_291 iM_X8_statementPlace rfl rfl (Nat.le_of_ble_eq_true rfl) (show d + 4 + 1 + 1 ≤ d + 6 by omega) (show 8 + (2 + 11) + 40 * (d + 4 + 1) ≤ 40 * (d + 6) by omega) (g_c0 hv124.ln) (Nat.le_of_ble_eq_true rfl) dX8_laysWay_246 ?_
            intro r h125 hq _
            obtain ⟨v126, rfl, v126l, v126u, rfl⟩ := hq
            refine go_iload_n (pc := 249) rfl dX8_laysWay_249 ?_
            refine go_aload_n (pc := 250) rfl dX8_laysWay_250 ?_
            refine go_iload_n (pc := 251) rfl dX8_laysWay_251 ?_
            refine go_invV (pc := 252) (sl := 0) (s_X8_kindAt l (d + 3) hv124 l2 (by rw [show (l2 : Int32).toInt = l2.toInt from (ti_rfl l2)]; omega) (by rw [show (l2 : Int32).toInt = l2.toInt from (ti_rfl l2)]; omega)) mL_X8_271 iM_X8_kindAt sM_X8_kindAt (hv124.sh rfl) rfl rfl rfl (Nat.le_of_ble_eq_true rfl) (show d + 3 + 2 + 1 ≤ d + 6 by omega) (show 8 + (2 + 11) + 40 * (d + 3 + 2) ≤ 40 * (d + 6) by omega) (g_c0 hv124.ln) (Nat.le_of_ble_eq_true rfl) dX8_laysWay_252 ?_
            intro r h127 hq _
            obtain ⟨v129, rfl, v129l, v129u, rfl, f128⟩ := hq
            have v129K : v129.toInt = V h.2.1 77 (V h.2.1 93 (40 * S + l2.toInt)) := by rw [f128]; unfold g_kd g_it; rw [hv124.fy (j := 6) (by omega), ← hv.fy (j := 6) (by omega), ← hS, hv124.fz (c := 93) (by omega) (by omega), ← hv.fz (c := 93) (by omega) (by omega), hv124.fz (c := 77) (by omega) (by omega), ← hv.fz (c := 77) (by omega) (by omega)]; rfl
            refine go_iconst (pc := 255) (v := 1) (by decide) dX8_laysWay_255 ?_
            refine gf_icmp_ne (pc := 256) (tgt := 264) (ti_rfl v129) (ti_c (v := 1) (a := 1) (by decide)) (by decide) dX8_laysWay_256 (fun q130 => ?_) (fun q130 => ?_)
            ·
              refine go_iconst (pc := 264) (v := 0) (by decide) dX8_laysWay_264 ?_
              refine go_invS (pc := 265) (sl := 0) (s_X8_statementPlace l (d + 4) hv124 l2 (by rw [show (l2 : Int32).toInt = l2.toInt from (ti_rfl l2)]; omega) (by rw [show (l2 : Int32).toInt = l2.toInt from (ti_rfl l2)]; omega) 0 (by rw [show (0 : Int32).toInt = 0 from (ti_c (v := 0) (a := 0) (by decide))]; omega) (by rw [show (0 : Int32).toInt = 0 from (ti_c (v := 0) (a := 0) (by decide))]; omega)) mL_X8_291 iM_X8_statementPlace rfl rfl (Nat.le_of_ble_eq_true rfl) (show d + 4 + 1 + 1 ≤ d + 6 by omega) (show 8 + (2 + 11) + 40 * (d + 4 + 1) ≤ 40 * (d + 6) by omega) (g_c0 hv124.ln) (Nat.le_of_ble_eq_true rfl) dX8_laysWay_265 ?_
              intro r h131 hq _
              obtain ⟨v132, rfl, v132l, v132u, rfl⟩ := hq
              refine go_invV (pc := 268) (sl := 0) (s_X8_hang_f l (d + 4) hv124 v126 (by rw [show (v126 : Int32).toInt = v126.toInt from (ti_rfl v126)]; omega) (by rw [show (v126 : Int32).toInt = v126.toInt from (ti_rfl v126)]; omega) v132 (by rw [show (v132 : Int32).toInt = v132.toInt from (ti_rfl v132)]; omega) (by rw [show (v132 : Int32).toInt = v132.toInt from (ti_rfl v132)]; omega)) mL_X8_303 iM_X8_hang sM_X8_hang (hv124.sh rfl) rfl rfl rfl (Nat.le_of_ble_eq_true rfl) (show d + 4 + 1 + 1 ≤ d + 6 by omega) (show 8 + (3 + 11) + 40 * (d + 4 + 1) ≤ 40 * (d + 6) by omega) (g_c0 hv124.ln) (Nat.le_of_ble_eq_true rfl) dX8_laysWay_268 ?_
              intro r h133 hq _
              obtain ⟨rfl, hv133, f134⟩ := hq
              have fx133 : FX KAr h h133 := FX.tr fx124 f134
              refine gf_iinc (pc := 271) (Nat.le_of_ble_eq_true rfl) rfl (ti_rfl l5) (ti_c (by decide)) (by omega) (by omega) dX8_laysWay_271 (fun v135 e136 => ?_)
              refine go_lv (lv2 := [(0, .ref 70), (2, .int l2), (3, .long l3), (5, .int v135)]) rfl ?_
              refine go_goto (pc := 274) (tgt := 203) (by decide) dX8_laysWay_274 ?_
              have z137 : (v135 : Int32).toInt = (l5.toInt + 1) := e136
              exact go_lv rfl (ih.2.2.2.2.2.1 l2 l3 v135 h133 hv133 (by omega) (by omega) (by omega) (by omega) fx133 (by omega))
            ·
              refine go_bipush (pc := 259) (v := 8) (by decide) dX8_laysWay_259 ?_
              refine go_goto (pc := 261) (tgt := 265) (by decide) dX8_laysWay_261 ?_
              refine go_invS (pc := 265) (sl := 0) (s_X8_statementPlace l (d + 4) hv124 l2 (by rw [show (l2 : Int32).toInt = l2.toInt from (ti_rfl l2)]; omega) (by rw [show (l2 : Int32).toInt = l2.toInt from (ti_rfl l2)]; omega) 8 (by rw [show (8 : Int32).toInt = 8 from (ti_c (v := 8) (a := 8) (by decide))]; omega) (by rw [show (8 : Int32).toInt = 8 from (ti_c (v := 8) (a := 8) (by decide))]; omega)) mL_X8_291 iM_X8_statementPlace rfl rfl (Nat.le_of_ble_eq_true rfl) (show d + 4 + 1 + 1 ≤ d + 6 by omega) (show 8 + (2 + 11) + 40 * (d + 4 + 1) ≤ 40 * (d + 6) by omega) (g_c0 hv124.ln) (Nat.le_of_ble_eq_true rfl) dX8_laysWay_265 ?_
              intro r h138 hq _
              obtain ⟨v139, rfl, v139l, v139u, rfl⟩ := hq
              refine go_invV (pc := 268) (sl := 0) (s_X8_hang_f l (d + 4) hv124 v126 (by rw [show (v126 : Int32).toInt = v126.toInt from (ti_rfl v126)]; omega) (by rw [show (v126 : Int32).toInt = v126.toInt from (ti_rfl v126)]; omega) v139 (by rw [show (v139 : Int32).toInt = v139.toInt from (ti_rfl v139)]; omega) (by rw [show (v139 : Int32).toInt = v139.toInt from (ti_rfl v139)]; omega)) mL_X8_303 iM_X8_hang sM_X8_hang (hv124.sh rfl) rfl rfl rfl (Nat.le_of_ble_eq_true rfl) (show d + 4 + 1 + 1 ≤ d + 6 by omega) (show 8 + (3 + 11) + 40 * (d + 4 + 1) ≤ 40 * (d + 6) by omega) (g_c0 hv124.ln) (Nat.le_of_ble_eq_true rfl) dX8_laysWay_268 ?_
              intro r h140 hq _
              obtain ⟨rfl, hv140, f141⟩ := hq
              have fx140 : FX KAr h h140 := FX.tr fx124 f141
              refine gf_iinc (pc := 271) (Nat.le_of_ble_eq_true rfl) rfl (ti_rfl l5) (ti_c (by decide)) (by omega) (by omega) dX8_laysWay_271 (fun v142 e143 => ?_)
              refine go_lv (lv2 := [(0, .ref 70), (2, .int l2), (3, .long l3), (5, .int v142)]) rfl ?_
              refine go_goto (pc := 274) (tgt := 203) (by decide) dX8_laysWay_274 ?_
              have z144 : (v142 : Int32).toInt = (l5.toInt + 1) := e143
              exact go_lv rfl (ih.2.2.2.2.2.1 l2 l3 v142 h140 hv140 (by omega) (by omega) (by omega) (by omega) fx140 (by omega))
          ·
            refine go_goto (pc := 226) (tgt := 271) (by decide) dX8_laysWay_226 ?_
            refine gf_iinc (pc := 271) (Nat.le_of_ble_eq_true rfl) rfl (ti_rfl l5) (ti_c (by decide)) (by omega) (by omega) dX8_laysWay_271 (fun v145 e146 => ?_)
            refine go_lv (lv2 := [(0, .ref 70), (2, .int l2), (3, .long l3), (5, .int v145)]) rfl ?_
            refine go_goto (pc := 274) (tgt := 203) (by decide) dX8_laysWay_274 ?_
            have z147 : (v145 : Int32).toInt = (l5.toInt + 1) := e146
            exact go_lv rfl (ih.2.2.2.2.2.1 l2 l3 v145 hx hvx (by omega) (by omega) (by omega) (by omega) fxx (by omega))
      ·
        intro l2 hx hvx l2l l2u fxx hm
        refine go_iload_n (pc := 285) rfl dX8_laysWay_285 ?_
        refine go_aload_n (pc := 286) rfl dX8_laysWay_286 ?_
        refine gi_getF (pc := 287) (q := 76) hvx fL_X8_26 rfl (Nat.le_of_ble_eq_true rfl) rfl (hvx.rf (by decide)) dX8_laysWay_287 ?_
        refine go_aload_n (pc := 290) rfl dX8_laysWay_290 ?_
        refine gi_get (pc := 291) (lo := 0) (hi := 1) hvx fL_X8_187 rfl (Nat.le_of_ble_eq_true rfl) rfl rfl dX8_laysWay_291 (fun v148 v148l v148u v148w => ?_)
        have v148S : v148.toInt = S := by rw [v148w, hvx.fy (j := 6) (by omega), ← hv.fy (j := 6) (by omega)]; exact hS.symm
        refine gi_iald (pc := 294) (lo := 0) (hi := 5) (len := 2) hvx (ti_rfl v148) rfl (by omega) (by omega) (fun _ => rfl) dX8_laysWay_294 (fun v149 v149l v149u v149w => ?_)
        have v149V : v149.toInt = V h.2.1 76 S := by rw [v149w, v148S, hvx.fz (c := 76) (by omega) (by omega), ← hv.fz (c := 76) (by omega) (by omega)]; rfl
        refine gf_icmp_ge (pc := 295) (tgt := 375) (ti_rfl l2) (ti_rfl v149) (by decide) dX8_laysWay_295 (fun q150 => ?_) (fun q150 => ?_)
        ·
          refine go_iconst (pc := 375) (v := 0) (by decide) dX8_laysWay_375 ?_
          refine go_istore_n (pc := 376) (Nat.le_of_ble_eq_true rfl) dX8_laysWay_376 (go_lv (lv2 := [(0, .ref 70), (2, .int 0)]) rfl ?_)
          have z151 : (0 : Int32).toInt = 0 := (ti_c (v := 0) (a := 0) (by decide))
          exact go_lv rfl (ih.2.2.2.2.2.2.2.2.1 0 hx hvx (by omega) (by omega) fxx (by omega))
        ·
          refine go_aload_n (pc := 298) rfl dX8_laysWay_298 ?_
          refine gi_getF (pc := 299) (q := 107) hvx fL_X8_121 rfl (Nat.le_of_ble_eq_true rfl) rfl (hvx.rf (by decide)) dX8_laysWay_299 ?_
          refine go_iload_n (pc := 302) rfl dX8_laysWay_302 ?_
          refine go_aload_n (pc := 303) rfl dX8_laysWay_303 ?_
          refine go_aload_n (pc := 304) rfl dX8_laysWay_304 ?_
          refine gi_getF (pc := 305) (q := 100) hvx fL_X8_98 rfl (Nat.le_of_ble_eq_true rfl) rfl (hvx.rf (by decide)) dX8_laysWay_305 ?_
          refine go_iconst (pc := 308) (v := 5) (by decide) dX8_laysWay_308 ?_
          refine go_aload_n (pc := 309) rfl dX8_laysWay_309 ?_
          refine gi_get (pc := 310) (lo := 0) (hi := 1) hvx fL_X8_187 rfl (Nat.le_of_ble_eq_true rfl) rfl rfl dX8_laysWay_310 (fun v152 v152l v152u v152w => ?_)
          have v152r : v148 = hx.2.1 70 6 := v148w
          have v152q : TI v152 v148.toInt := by rw [v152w.trans v152r.symm]; exact (ti_rfl v148)
          refine gf_imul (pc := 313) (ti_c (v := 5) (a := 5) (by decide)) v152q (by omega) (by omega) dX8_laysWay_313 (fun v153 e154 => ?_)
          refine go_iload_n (pc := 314) rfl dX8_laysWay_314 ?_
          refine gf_iadd (pc := 315) e154 (ti_rfl l2) (by omega) (by omega) dX8_laysWay_315 (fun v155 e156 => ?_)
          refine gi_iald (pc := 316) (lo := -1) (hi := 39) (len := 10) hvx e156 rfl (by omega) (by omega) (fun _ => rfl) dX8_laysWay_316 (fun v157 v157l v157u v157w => ?_)
          have v157V : v157.toInt = V h.2.1 100 (((5 * S) + l2.toInt)) := by rw [v157w, v148S, hvx.fz (c := 100) (by omega) (by omega), ← hv.fz (c := 100) (by omega) (by omega)]; rfl
          refine go_invV (pc := 317) (sl := 0) (s_X8_onAllFrom_x l (d + 4) hvx v157 (by rw [show (v157 : Int32).toInt = v157.toInt from (ti_rfl v157)]; omega) (by rw [show (v157 : Int32).toInt = v157.toInt from (ti_rfl v157)]; omega)) mL_X8_334 iM_X8_onAllFrom sM_X8_onAllFrom (hvx.sh rfl) rfl rfl rfl (Nat.le_of_ble_eq_true rfl) (show d + 4 + 1 + 1 ≤ d + 6 by omega) (show 8 + (2 + 11) + 40 * (d + 4 + 1) ≤ 40 * (d + 6) by omega) (g_c0 hvx.ln) (Nat.le_of_ble_eq_true rfl) dX8_laysWay_317 ?_
          intro r h158 hq _
          obtain ⟨v160, rfl, rfl, f159⟩ := hq
          refine gi_last (pc := 320) (len := 5) hvx (ti_rfl l2) rfl (by omega) (by omega) dX8_laysWay_320 (fun h161 hv161 hv161e => ?_)
          have fx161 : FX KAr h h161 := FX.pL fxx hv161e (by unfold KAr; omega)
          refine go_iconst (pc := 321) (v := 0) (by decide) dX8_laysWay_321 ?_
          refine go_istore_n (pc := 322) (Nat.le_of_ble_eq_true rfl) dX8_laysWay_322 (go_lv (lv2 := [(0, .ref 70), (2, .int l2), (3, .int 0)]) rfl ?_)
          have z162 : (0 : Int32).toInt = 0 := (ti_c (v := 0) (a := 0) (by decide))
          exact go_lv rfl (ih.2.2.2.2.2.2.2.1 l2 0 h161 hv161 (by omega) (by omega) (by omega) (by omega) fx161 (by omega))
      ·
        intro l2 l3 hx hvx l2l l2u l3l l3u fxx hm
        refine go_iload_n (pc := 323) rfl dX8_laysWay_323 ?_
        refine go_aload_n (pc := 324) rfl dX8_laysWay_324 ?_
        refine gi_getF (pc := 325) (q := 75) hvx fL_X8_23 rfl (Nat.le_of_ble_eq_true rfl) rfl (hvx.rf (by decide)) dX8_laysWay_325 ?_
        refine go_aload_n (pc := 328) rfl dX8_laysWay_328 ?_
        refine gi_get (pc := 329) (lo := 0) (hi := 1) hvx fL_X8_187 rfl (Nat.le_of_ble_eq_true rfl) rfl rfl dX8_laysWay_329 (fun v163 v163l v163u v163w => ?_)
        have v163S : v163.toInt = S := by rw [v163w, hvx.fy (j := 6) (by omega), ← hv.fy (j := 6) (by omega)]; exact hS.symm
        refine gi_iald (pc := 332) (lo := 0) (hi := 40) (len := 2) hvx (ti_rfl v163) rfl (by omega) (by omega) (fun _ => rfl) dX8_laysWay_332 (fun v164 v164l v164u v164w => ?_)
        have v164V : v164.toInt = V h.2.1 75 S := by rw [v164w, v163S, hvx.fz (c := 75) (by omega) (by omega), ← hv.fz (c := 75) (by omega) (by omega)]; rfl
        refine gf_icmp_ge (pc := 333) (tgt := 369) (ti_rfl l3) (ti_rfl v164) (by decide) dX8_laysWay_333 (fun q165 => ?_) (fun q165 => ?_)
        ·
          refine gf_iinc (pc := 369) (Nat.le_of_ble_eq_true rfl) rfl (ti_rfl l2) (ti_c (by decide)) (by omega) (by omega) dX8_laysWay_369 (fun v166 e167 => ?_)
          refine go_lv (lv2 := [(0, .ref 70), (2, .int v166), (3, .int l3)]) rfl ?_
          refine go_goto (pc := 372) (tgt := 285) (by decide) dX8_laysWay_372 ?_
          have z168 : (v166 : Int32).toInt = (l2.toInt + 1) := e167
          exact go_lv rfl (ih.2.2.2.2.2.2.1 v166 hx hvx (by omega) (by omega) fxx (by omega))
        ·
          refine go_aload_n (pc := 336) rfl dX8_laysWay_336 ?_
          refine gi_getF (pc := 337) (q := 107) hvx fL_X8_121 rfl (Nat.le_of_ble_eq_true rfl) rfl (hvx.rf (by decide)) dX8_laysWay_337 ?_
          refine go_iload_n (pc := 340) rfl dX8_laysWay_340 ?_
          refine gi_lald (pc := 341) (len := 5) hvx (ti_rfl l2) rfl (by omega) (by omega) dX8_laysWay_341 (fun v169 v169w => ?_)
          refine go_iload_n (pc := 342) rfl dX8_laysWay_342 ?_
          refine go_invS (pc := 343) (sl := 0) (s_X8_has l (d + 4) hvx v169 l3) mL_X8_280 iM_X8_has rfl rfl (Nat.le_of_ble_eq_true rfl) (show d + 4 + 1 + 1 ≤ d + 6 by omega) (show 8 + (3 + 11) + 40 * (d + 4 + 1) ≤ 40 * (d + 6) by omega) (g_c0 hvx.ln) (Nat.le_of_ble_eq_true rfl) dX8_laysWay_343 ?_
          intro r h170 hq _
          obtain ⟨v171, rfl, v171l, v171u, rfl⟩ := hq
          refine gf_if_eq (pc := 346) (tgt := 363) (ti_rfl v171) (by decide) dX8_laysWay_346 (fun q172 => ?_) (fun q172 => ?_)
          ·
            refine gf_iinc (pc := 363) (Nat.le_of_ble_eq_true rfl) rfl (ti_rfl l3) (ti_c (by decide)) (by omega) (by omega) dX8_laysWay_363 (fun v173 e174 => ?_)
            refine go_lv (lv2 := [(0, .ref 70), (2, .int l2), (3, .int v173)]) rfl ?_
            refine go_goto (pc := 366) (tgt := 323) (by decide) dX8_laysWay_366 ?_
            have z175 : (v173 : Int32).toInt = (l3.toInt + 1) := e174
            exact go_lv rfl (ih.2.2.2.2.2.2.2.1 l2 v173 hx hvx (by omega) (by omega) (by omega) (by omega) fxx (by omega))
          ·
            refine go_aload_n (pc := 349) rfl dX8_laysWay_349 ?_
            refine go_iload_n (pc := 350) rfl dX8_laysWay_350 ?_
            refine go_iconst (pc := 351) (v := 0) (by decide) dX8_laysWay_351 ?_
            refine go_invS (pc := 352) (sl := 0) (s_X8_statementPlace l (d + 4) hvx l3 (by rw [show (l3 : Int32).toInt = l3.toInt from (ti_rfl l3)]; omega) (by rw [show (l3 : Int32).toInt = l3.toInt from (ti_rfl l3)]; omega) 0 (by rw [show (0 : Int32).toInt = 0 from (ti_c (v := 0) (a := 0) (by decide))]; omega) (by rw [show (0 : Int32).toInt = 0 from (ti_c (v := 0) (a := 0) (by decide))]; omega)) mL_X8_291 iM_X8_statementPlace rfl rfl (Nat.le_of_ble_eq_true rfl) (show d + 4 + 1 + 1 ≤ d + 6 by omega) (show 8 + (2 + 11) + 40 * (d + 4 + 1) ≤ 40 * (d + 6) by omega) (g_c0 hvx.ln) (Nat.le_of_ble_eq_true rfl) dX8_laysWay_352 ?_
            intro r h176 hq _
            obtain ⟨v177, rfl, v177l, v177u, rfl⟩ := hq
            refine go_iload_n (pc := 355) rfl dX8_laysWay_355 ?_
            refine go_iconst (pc := 356) (v := 0) (by decide) dX8_laysWay_356 ?_
            refine go_invS (pc := 357) (sl := 0) (s_X8_procedurePlace l (d + 4) hvx l2 (by rw [show (l2 : Int32).toInt = l2.toInt from (ti_rfl l2)]; omega) (by rw [show (l2 : Int32).toInt = l2.toInt from (ti_rfl l2)]; omega) 0 (by rw [show (0 : Int32).toInt = 0 from (ti_c (v := 0) (a := 0) (by decide))]; omega) (by rw [show (0 : Int32).toInt = 0 from (ti_c (v := 0) (a := 0) (by decide))]; omega)) mL_X8_300 iM_X8_procedurePlace rfl rfl (Nat.le_of_ble_eq_true rfl) (show d + 4 + 1 + 1 ≤ d + 6 by omega) (show 8 + (2 + 11) + 40 * (d + 4 + 1) ≤ 40 * (d + 6) by omega) (g_c0 hvx.ln) (Nat.le_of_ble_eq_true rfl) dX8_laysWay_357 ?_
            intro r h178 hq _
            obtain ⟨v179, rfl, v179l, v179u, rfl⟩ := hq
            refine go_invV (pc := 360) (sl := 0) (s_X8_hang_f l (d + 4) hvx v177 (by rw [show (v177 : Int32).toInt = v177.toInt from (ti_rfl v177)]; omega) (by rw [show (v177 : Int32).toInt = v177.toInt from (ti_rfl v177)]; omega) v179 (by rw [show (v179 : Int32).toInt = v179.toInt from (ti_rfl v179)]; omega) (by rw [show (v179 : Int32).toInt = v179.toInt from (ti_rfl v179)]; omega)) mL_X8_303 iM_X8_hang sM_X8_hang (hvx.sh rfl) rfl rfl rfl (Nat.le_of_ble_eq_true rfl) (show d + 4 + 1 + 1 ≤ d + 6 by omega) (show 8 + (3 + 11) + 40 * (d + 4 + 1) ≤ 40 * (d + 6) by omega) (g_c0 hvx.ln) (Nat.le_of_ble_eq_true rfl) dX8_laysWay_360 ?_
            intro r h180 hq _
            obtain ⟨rfl, hv180, f181⟩ := hq
            have fx180 : FX KAr h h180 := FX.tr fxx f181
            refine gf_iinc (pc := 363) (Nat.le_of_ble_eq_true rfl) rfl (ti_rfl l3) (ti_c (by decide)) (by omega) (by omega) dX8_laysWay_363 (fun v182 e183 => ?_)
            refine go_lv (lv2 := [(0, .ref 70), (2, .int l2), (3, .int v182)]) rfl ?_
            refine go_goto (pc := 366) (tgt := 323) (by decide) dX8_laysWay_366 ?_
            have z184 : (v182 : Int32).toInt = (l3.toInt + 1) := e183
            exact go_lv rfl (ih.2.2.2.2.2.2.2.1 l2 v182 h180 hv180 (by omega) (by omega) (by omega) (by omega) fx180 (by omega))
      ·
        intro l2 hx hvx l2l l2u fxx hm
        refine go_iload_n (pc := 377) rfl dX8_laysWay_377 ?_
        refine go_aload_n (pc := 378) rfl dX8_laysWay_378 ?_
        refine gi_getF (pc := 379) (q := 75) hvx fL_X8_23 rfl (Nat.le_of_ble_eq_true rfl) rfl (hvx.rf (by decide)) dX8_laysWay_379 ?_
        refine go_aload_n (pc := 382) rfl dX8_laysWay_382 ?_
        refine gi_get (pc := 383) (lo := 0) (hi := 1) hvx fL_X8_187 rfl (Nat.le_of_ble_eq_true rfl) rfl rfl dX8_laysWay_383 (fun v185 v185l v185u v185w => ?_)
        have v185S : v185.toInt = S := by rw [v185w, hvx.fy (j := 6) (by omega), ← hv.fy (j := 6) (by omega)]; exact hS.symm
        refine gi_iald (pc := 386) (lo := 0) (hi := 40) (len := 2) hvx (ti_rfl v185) rfl (by omega) (by omega) (fun _ => rfl) dX8_laysWay_386 (fun v186 v186l v186u v186w => ?_)
        have v186V : v186.toInt = V h.2.1 75 S := by rw [v186w, v185S, hvx.fz (c := 75) (by omega) (by omega), ← hv.fz (c := 75) (by omega) (by omega)]; rfl
        refine gf_icmp_ge (pc := 387) (tgt := 433) (ti_rfl l2) (ti_rfl v186) (by decide) dX8_laysWay_387 (fun q187 => ?_) (fun q187 => ?_)
        ·
          exact gi_vret (pc := 433) ⟨rfl, hvx, fxx⟩ hvx dX8_laysWay_433
        ·
          refine go_iconst (pc := 390) (v := 1) (by decide) dX8_laysWay_390 ?_
          refine go_istore_n (pc := 391) (Nat.le_of_ble_eq_true rfl) dX8_laysWay_391 (go_lv (lv2 := [(0, .ref 70), (2, .int l2), (3, .int 1)]) rfl ?_)
          have z188 : (1 : Int32).toInt = 1 := (ti_c (v := 1) (a := 1) (by decide))
          exact go_lv rfl (ih.2.2.2.2.2.2.2.2.2 l2 1 hx hvx (by omega) (by omega) (by omega) (by omega) fxx (by omega))
      ·
        intro l2 l3 hx hvx l2l l2u l3l l3u fxx hm
        refine go_iload_n (pc := 392) rfl dX8_laysWay_392 ?_
        refine go_bipush (pc := 393) (v := 13) (by decide) dX8_laysWay_393 ?_
        refine gf_icmp_ge (pc := 395) (tgt := 427) (ti_rfl l3) (ti_c (v := 13) (a := 13) (by decide)) (by decide) dX8_laysWay_395 (fun q189 => ?_) (fun q189 => ?_)
        ·
          refine gf_iinc (pc := 427) (Nat.le_of_ble_eq_true rfl) rfl (ti_rfl l2) (ti_c (by decide)) (by omega) (by omega) dX8_laysWay_427 (fun v190 e191 => ?_)
          refine go_lv (lv2 := [(0, .ref 70), (2, .int v190), (3, .int l3)]) rfl ?_
          refine go_goto (pc := 430) (tgt := 377) (by decide) dX8_laysWay_430 ?_
          have z192 : (v190 : Int32).toInt = (l2.toInt + 1) := e191
          exact go_lv rfl (ih.2.2.2.2.2.2.2.2.1 v190 hx hvx (by omega) (by omega) fxx (by omega))
        ·
          refine go_aload_n (pc := 398) rfl dX8_laysWay_398 ?_
          refine go_iload_n (pc := 399) rfl dX8_laysWay_399 ?_
          refine go_invV (pc := 400) (sl := 0) (s_X8_kindAt l (d + 3) hvx l2 (by rw [show (l2 : Int32).toInt = l2.toInt from (ti_rfl l2)]; omega) (by rw [show (l2 : Int32).toInt = l2.toInt from (ti_rfl l2)]; omega)) mL_X8_271 iM_X8_kindAt sM_X8_kindAt (hvx.sh rfl) rfl rfl rfl (Nat.le_of_ble_eq_true rfl) (show d + 3 + 2 + 1 ≤ d + 6 by omega) (show 8 + (2 + 11) + 40 * (d + 3 + 2) ≤ 40 * (d + 6) by omega) (g_c0 hvx.ln) (Nat.le_of_ble_eq_true rfl) dX8_laysWay_400 ?_
          intro r h193 hq _
          obtain ⟨v195, rfl, v195l, v195u, rfl, f194⟩ := hq
          have v195K : v195.toInt = V h.2.1 77 (V h.2.1 93 (40 * S + l2.toInt)) := by rw [f194]; unfold g_kd g_it; rw [hvx.fy (j := 6) (by omega), ← hv.fy (j := 6) (by omega), ← hS, hvx.fz (c := 93) (by omega) (by omega), ← hv.fz (c := 93) (by omega) (by omega), hvx.fz (c := 77) (by omega) (by omega), ← hv.fz (c := 77) (by omega) (by omega)]; rfl
          refine go_iconst (pc := 403) (v := 1) (by decide) dX8_laysWay_403 ?_
          refine gf_icmp_ne (pc := 404) (tgt := 427) (ti_rfl v195) (ti_c (v := 1) (a := 1) (by decide)) (by decide) dX8_laysWay_404 (fun q196 => ?_) (fun q196 => ?_)
          ·
            refine gf_iinc (pc := 427) (Nat.le_of_ble_eq_true rfl) rfl (ti_rfl l2) (ti_c (by decide)) (by omega) (by omega) dX8_laysWay_427 (fun v197 e198 => ?_)
            refine go_lv (lv2 := [(0, .ref 70), (2, .int v197), (3, .int l3)]) rfl ?_
            refine go_goto (pc := 430) (tgt := 377) (by decide) dX8_laysWay_430 ?_
            have z199 : (v197 : Int32).toInt = (l2.toInt + 1) := e198
            exact go_lv rfl (ih.2.2.2.2.2.2.2.2.1 v197 hx hvx (by omega) (by omega) fxx (by omega))
          ·
            refine go_aload_n (pc := 407) rfl dX8_laysWay_407 ?_
            refine go_iload_n (pc := 408) rfl dX8_laysWay_408 ?_
            refine go_iload_n (pc := 409) rfl dX8_laysWay_409 ?_
            refine go_invS (pc := 410) (sl := 0) (s_X8_statementPlace l (d + 4) hvx l2 (by rw [show (l2 : Int32).toInt = l2.toInt from (ti_rfl l2)]; omega) (by rw [show (l2 : Int32).toInt = l2.toInt from (ti_rfl l2)]; omega) l3 (by rw [show (l3 : Int32).toInt = l3.toInt from (ti_rfl l3)]; omega) (by rw [show (l3 : Int32).toInt = l3.toInt from (ti_rfl l3)]; omega)) mL_X8_291 iM_X8_statementPlace rfl rfl (Nat.le_of_ble_eq_true rfl) (show d + 4 + 1 + 1 ≤ d + 6 by omega) (show 8 + (2 + 11) + 40 * (d + 4 + 1) ≤ 40 * (d + 6) by omega) (g_c0 hvx.ln) (Nat.le_of_ble_eq_true rfl) dX8_laysWay_410 ?_
            intro r h200 hq _
            obtain ⟨v201, rfl, v201l, v201u, rfl⟩ := hq
            refine go_iload_n (pc := 413) rfl dX8_laysWay_413 ?_
            refine go_iconst (pc := 414) (v := 0) (by decide) dX8_laysWay_414 ?_
            refine go_invS (pc := 415) (sl := 0) (s_X8_statementPlace l (d + 4) hvx l2 (by rw [show (l2 : Int32).toInt = l2.toInt from (ti_rfl l2)]; omega) (by rw [show (l2 : Int32).toInt = l2.toInt from (ti_rfl l2)]; omega) 0 (by rw [show (0 : Int32).toInt = 0 from (ti_c (v := 0) (a := 0) (by decide))]; omega) (by rw [show (0 : Int32).toInt = 0 from (ti_c (v := 0) (a := 0) (by decide))]; omega)) mL_X8_291 iM_X8_statementPlace rfl rfl (Nat.le_of_ble_eq_true rfl) (show d + 4 + 1 + 1 ≤ d + 6 by omega) (show 8 + (2 + 11) + 40 * (d + 4 + 1) ≤ 40 * (d + 6) by omega) (g_c0 hvx.ln) (Nat.le_of_ble_eq_true rfl) dX8_laysWay_415 ?_
            intro r h202 hq _
            obtain ⟨v203, rfl, v203l, v203u, rfl⟩ := hq
            refine go_invV (pc := 418) (sl := 0) (s_X8_hang_f l (d + 4) hvx v201 (by rw [show (v201 : Int32).toInt = v201.toInt from (ti_rfl v201)]; omega) (by rw [show (v201 : Int32).toInt = v201.toInt from (ti_rfl v201)]; omega) v203 (by rw [show (v203 : Int32).toInt = v203.toInt from (ti_rfl v203)]; omega) (by rw [show (v203 : Int32).toInt = v203.toInt from (ti_rfl v203)]; omega)) mL_X8_303 iM_X8_hang sM_X8_hang (hvx.sh rfl) rfl rfl rfl (Nat.le_of_ble_eq_true rfl) (show d + 4 + 1 + 1 ≤ d + 6 by omega) (show 8 + (3 + 11) + 40 * (d + 4 + 1) ≤ 40 * (d + 6) by omega) (g_c0 hvx.ln) (Nat.le_of_ble_eq_true rfl) dX8_laysWay_418 ?_
            intro r h204 hq _
            obtain ⟨rfl, hv204, f205⟩ := hq
            have fx204 : FX KAr h h204 := FX.tr fxx f205
            refine gf_iinc (pc := 421) (Nat.le_of_ble_eq_true rfl) rfl (ti_rfl l3) (ti_c (by decide)) (by omega) (by omega) dX8_laysWay_421 (fun v206 e207 => ?_)
            refine go_lv (lv2 := [(0, .ref 70), (2, .int l2), (3, .int v206)]) rfl ?_
            refine go_goto (pc := 424) (tgt := 392) (by decide) dX8_laysWay_424 ?_
            have z208 : (v206 : Int32).toInt = (l3.toInt + 1) := e207
            exact go_lv rfl (ih.2.2.2.2.2.2.2.2.2 l2 v206 h204 hv204 (by omega) (by omega) (by omega) (by omega) fx204 (by omega))
  refine go_iconst (pc := 0) (v := 0) (by decide) dX8_laysWay_0 ?_
  refine go_istore_n (pc := 1) (Nat.le_of_ble_eq_true rfl) dX8_laysWay_1 (go_lv (lv2 := [(0, .ref 70), (1, .int 0)]) rfl ?_)
  have z209 : (0 : Int32).toInt = 0 := (ti_c (v := 0) (a := 0) (by decide))
  exact go_lv rfl ((key 2000000000000000000000001).1 0 h hv (by omega) (by omega) (fun j q => absurd q (by omega)) fx (by omega))
