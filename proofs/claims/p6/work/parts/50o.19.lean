
set_option maxHeartbeats 4000000 in
set_option maxRecDepth 100000 in
theorem s_X4_add_f (l : Launch) (d : Nat) {P : PP} {h : HP} (hv : Iv P h) (c2 : Nat) (hc2 : c2 = 52 ∨ c2 = 53) (a3 : Int32) (a3l : 0 ≤ a3.toInt) (a3u : a3.toInt ≤ 12) (a4 : Int64) : Mt l yX4_add cX4_add 8 none (d + 1) [.ref 49, .ref c2, .int a3, .long a4] h 0 0 (fun r h' => r = none ∧ Iv P h' ∧ (FX KAc h h')) := by
  refine Mt_iv hv (by decide) (Nat.le_of_ble_eq_true rfl) ?_
  show Go l RX4 cX4_add 8 (g_rm (d + 1) 0 0) "add" none 117 0 0 (fun _ _ => True) (fun r h' => r = none ∧ Iv P h' ∧ (FX KAc h h')) 0 0 [(0, .ref 49), (1, .ref c2), (2, .int a3), (3, .long a4)] [] h
  have fx : FX KAc h h := FX.rfl
  have key : ∀ n : Nat, (∀ (l2 : Int32) (l5 : Int64) (l7 : Int32) (hx : HP), Iv P hx → 0 ≤ l2.toInt → l2.toInt ≤ 12 → 0 ≤ l7.toInt → l7.toInt ≤ 45 → FX KAc h hx → (4 * (45 - l7.toInt) + 4 : Int) < n → Go l RX4 cX4_add 8 (g_rm (d + 1) 0 0) "add" none 117 0 0 (fun _ _ => True) (fun r h' => r = none ∧ Iv P h' ∧ (FX KAc h h')) 0 30 [(0, .ref 49), (2, .int l2), (5, .long l5), (7, .int l7)] [] hx) ∧ (∀ (l2 : Int32) (l5 : Int64) (l7 : Int32) (hx : HP), Iv P hx → 0 ≤ l2.toInt → l2.toInt ≤ 12 → 0 ≤ l7.toInt → l7.toInt ≤ 44 → FX KAc h hx → (4 * (45 - l7.toInt) + 3 : Int) < n → Go l RX4 cX4_add 8 (g_rm (d + 1) 0 0) "add" none 117 0 0 (fun _ _ => True) (fun r h' => r = none ∧ Iv P h' ∧ (FX KAc h h')) 0 97 [(0, .ref 49), (2, .int l2), (5, .long l5), (7, .int l7)] [] hx) ∧ (∀  (hx : HP), Iv P hx → FX KAc h hx → (1 : Int) < n → Go l RX4 cX4_add 8 (g_rm (d + 1) 0 0) "add" none 117 0 0 (fun _ _ => True) (fun r h' => r = none ∧ Iv P h' ∧ (FX KAc h h')) 0 103 [] [] hx) := by
    intro n
    induction n with
    | zero => exact ⟨(by intros; omega), (by intros; omega), (by intros; omega)⟩
    | succ n ih =>
      refine ⟨?_, ?_, ?_⟩
      ·
        intro l2 l5 l7 hx hvx l2l l2u l7l l7u fxx hm
        refine go_iload (pc := 30) rfl dX4_add_30 ?_
        refine go_bipush (pc := 32) (v := 45) (by decide) dX4_add_32 ?_
        refine gf_icmp_ge (pc := 34) (tgt := 103) (ti_rfl l7) (ti_c (v := 45) (a := 45) (by decide)) (by decide) dX4_add_34 (fun q1 => ?_) (fun q1 => ?_)
        ·
          exact go_lv rfl (ih.2.2  hx hvx fxx (by omega))
        ·
          refine go_lload (pc := 37) rfl dX4_add_37 ?_
          refine go_iload (pc := 39) rfl dX4_add_39 ?_
          refine gu_lushr (pc := 41) dX4_add_41 (fun v2 => ?_)
          refine go_lconst (pc := 42) (v := 0) (by decide) dX4_add_42 ?_
          refine gu_lcmp (pc := 43) dX4_add_43 (fun v3 => ?_)
          refine gf_if_eq (pc := 44) (tgt := 103) (ti_rfl v3) (by decide) dX4_add_44 (fun q4 => ?_) (fun q4 => ?_)
          ·
            exact go_lv rfl (ih.2.2  hx hvx fxx (by omega))
          ·
            refine go_lload (pc := 47) rfl dX4_add_47 ?_
            refine go_iload (pc := 49) rfl dX4_add_49 ?_
            refine gu_lushr (pc := 51) dX4_add_51 (fun v5 => ?_)
            refine go_lconst (pc := 52) (v := 1) (by decide) dX4_add_52 ?_
            refine gu_land (pc := 53) dX4_add_53 (fun v6 => ?_)
            refine go_lconst (pc := 54) (v := 0) (by decide) dX4_add_54 ?_
            refine gu_lcmp (pc := 55) dX4_add_55 (fun v7 => ?_)
            refine gf_if_eq (pc := 56) (tgt := 97) (ti_rfl v7) (by decide) dX4_add_56 (fun q8 => ?_) (fun q8 => ?_)
            ·
              exact go_lv rfl (ih.2.1 l2 l5 l7 hx hvx (by omega) (by omega) (by omega) (by omega) fxx (by omega))
            ·
              refine go_aload_n (pc := 59) rfl dX4_add_59 ?_
              refine gi_get (pc := 60) (lo := 0) (hi := 585) hvx fL_X4_32 rfl (Nat.le_of_ble_eq_true rfl) rfl rfl dX4_add_60 (fun v9 v9l v9u v9w => ?_)
              refine go_aload_n (pc := 63) rfl dX4_add_63 ?_
              refine gi_getF (pc := 64) (q := 54) hvx fL_X4_29 rfl (Nat.le_of_ble_eq_true rfl) rfl (hvx.rf (by decide)) dX4_add_64 ?_
              refine go_alen (pc := 67) (v := 585) (hvx.sh rfl) (by decide) (by decide) dX4_add_67 ?_
              refine gf_icmp_ge (pc := 68) (tgt := 97) (ti_rfl v9) (ti_c (v := 585) (a := 585) (by decide)) (by decide) dX4_add_68 (fun q10 => ?_) (fun q10 => ?_)
              ·
                exact go_lv rfl (ih.2.1 l2 l5 l7 hx hvx (by omega) (by omega) (by omega) (by omega) fxx (by omega))
              ·
                refine go_aload_n (pc := 71) rfl dX4_add_71 ?_
                refine gi_getF (pc := 72) (q := 54) hvx fL_X4_29 rfl (Nat.le_of_ble_eq_true rfl) rfl (hvx.rf (by decide)) dX4_add_72 ?_
                refine go_aload_n (pc := 75) rfl dX4_add_75 ?_
                refine gi_get (pc := 76) (lo := 0) (hi := 585) hvx fL_X4_32 rfl (Nat.le_of_ble_eq_true rfl) rfl rfl dX4_add_76 (fun v11 v11l v11u v11w => ?_)
                have v11r : v9 = hx.2.1 49 8 := v9w
                have v11q : TI v11 v9.toInt := by rw [v11w.trans v11r.symm]; exact (ti_rfl v9)
                refine go_iload (pc := 79) rfl dX4_add_79 ?_
                refine go_bipush (pc := 81) (v := 13) (by decide) dX4_add_81 ?_
                refine gf_imul (pc := 83) (ti_rfl l7) (ti_c (v := 13) (a := 13) (by decide)) (by omega) (by omega) dX4_add_83 (fun v12 e13 => ?_)
                refine go_iload_n (pc := 84) rfl dX4_add_84 ?_
                refine gf_iadd (pc := 85) e13 (ti_rfl l2) (by omega) (by omega) dX4_add_85 (fun v14 e15 => ?_)
                refine gi_iast (pc := 86) (lo := 0) (hi := 584) (len := 585) hvx v11q e15 rfl (by omega) (by omega) (fun _ => rfl) (by omega) (by omega) (by decide) dX4_add_86 (fun h16 hv16 hv16e => ?_)
                have fx16 : FX KAc h h16 := FX.pI fxx hv16e (by unfold KAc; omega)
                refine go_aload_n (pc := 87) rfl dX4_add_87 ?_
                refine go_dup (pc := 88) rfl dX4_add_88 ?_
                refine gi_get (pc := 89) (lo := 0) (hi := 585) hv16 fL_X4_32 rfl (Nat.le_of_ble_eq_true rfl) rfl rfl dX4_add_89 (fun v17 v17l v17u v17w => ?_)
                have v17r : v9 = h16.2.1 49 8 := (show v9 = h16.2.1 49 8 from by rw [hv16e]; exact (g_iI rfl v9w.symm).symm)
                have v17q : TI v17 v9.toInt := by rw [v17w.trans v17r.symm]; exact (ti_rfl v9)
                refine go_iconst (pc := 92) (v := 1) (by decide) dX4_add_92 ?_
                refine gf_iadd (pc := 93) v17q (ti_c (v := 1) (a := 1) (by decide)) (by omega) (by omega) dX4_add_93 (fun v18 e19 => ?_)
                refine gi_put (pc := 94) (lo := 0) (hi := 585) hv16 e19 (fP_X4_32 _) rfl (Nat.le_of_ble_eq_true rfl) rfl rfl (by omega) (by omega) rfl rfl (by decide) (by decide) (by decide) (by decide) dX4_add_94 (fun h20 hv20 hv20e => ?_)
                have fx20 : FX KAc h h20 := FX.pI fx16 hv20e (by unfold KAc; omega)
                exact go_lv rfl (ih.2.1 l2 l5 l7 h20 hv20 (by omega) (by omega) (by omega) (by omega) fx20 (by omega))
      ·
        intro l2 l5 l7 hx hvx l2l l2u l7l l7u fxx hm
        refine gf_iinc (pc := 97) (Nat.le_of_ble_eq_true rfl) rfl (ti_rfl l7) (ti_c (by decide)) (by omega) (by omega) dX4_add_97 (fun v21 e22 => ?_)
        refine go_lv (lv2 := [(0, .ref 49), (2, .int l2), (5, .long l5), (7, .int v21)]) rfl ?_
        refine go_goto (pc := 100) (tgt := 30) (by decide) dX4_add_100 ?_
        have z23 : (v21 : Int32).toInt = (l7.toInt + 1) := e22
        exact go_lv rfl (ih.1 l2 l5 v21 hx hvx (by omega) (by omega) (by omega) (by omega) fxx (by omega))
      ·
        intro hx hvx fxx hm
        exact gi_vret (pc := 103) ⟨rfl, hvx, fxx⟩ hvx dX4_add_103
  refine go_lload_n (pc := 0) rfl dX4_add_0 ?_
  refine go_aload_n (pc := 1) rfl dX4_add_1 ?_
  refine go_iload_n (pc := 2) rfl dX4_add_2 ?_
  refine gi_lald (pc := 3) (len := 13) hv (ti_rfl a3) (by rcases hc2 with rfl | rfl <;> rfl) (by omega) (by omega) dX4_add_3 (fun v24 v24w => ?_)
  refine go_ldc2 (pc := 4) kL_X4_109 dX4_add_4 ?_
  refine gu_lxor (pc := 7) dX4_add_7 (fun v25 => ?_)
  refine gu_land (pc := 8) dX4_add_8 (fun v26 => ?_)
  refine go_lstore (pc := 9) (Nat.le_of_ble_eq_true rfl) dX4_add_9 (go_lv (lv2 := [(0, .ref 49), (1, .ref c2), (2, .int a3), (3, .long a4), (5, .long v26)]) rfl ?_)
  refine go_lload (pc := 11) rfl dX4_add_11 ?_
  refine go_lconst (pc := 13) (v := 0) (by decide) dX4_add_13 ?_
  refine gu_lcmp (pc := 14) dX4_add_14 (fun v27 => ?_)
  refine gf_if_ne (pc := 15) (tgt := 19) (ti_rfl v27) (by decide) dX4_add_15 (fun q28 => ?_) (fun q28 => ?_)
  ·
    refine go_aload_n (pc := 19) rfl dX4_add_19 ?_
    refine go_iload_n (pc := 20) rfl dX4_add_20 ?_
    refine go_dup2 (pc := 21) rfl rfl dX4_add_21 ?_
    refine gi_lald (pc := 22) (len := 13) hv (ti_rfl a3) (by rcases hc2 with rfl | rfl <;> rfl) (by omega) (by omega) dX4_add_22 (fun v29 v29w => ?_)
    refine go_lload (pc := 23) rfl dX4_add_23 ?_
    refine gu_lor (pc := 25) dX4_add_25 (fun v30 => ?_)
    refine gi_last (pc := 26) (len := 13) hv (ti_rfl a3) (by rcases hc2 with rfl | rfl <;> rfl) (by omega) (by omega) dX4_add_26 (fun h31 hv31 hv31e => ?_)
    have fx31 : FX KAc h h31 := FX.pL fx hv31e (by unfold KAc; omega)
    refine go_iconst (pc := 27) (v := 0) (by decide) dX4_add_27 ?_
    refine go_istore (pc := 28) (Nat.le_of_ble_eq_true rfl) dX4_add_28 (go_lv (lv2 := [(0, .ref 49), (1, .ref c2), (2, .int a3), (3, .long a4), (5, .long v26), (7, .int 0)]) rfl ?_)
    have z32 : (0 : Int32).toInt = 0 := (ti_c (v := 0) (a := 0) (by decide))
    exact go_lv rfl ((key 202).1 a3 v26 0 h31 hv31 (by omega) (by omega) (by omega) (by omega) fx31 (by omega))
  ·
    exact gi_vret (pc := 18) ⟨rfl, hv, fx⟩ hv dX4_add_18
set_option maxHeartbeats 4000000 in
set_option maxRecDepth 100000 in
theorem s_X4_clearFound_f (l : Launch) (d : Nat) {P : PP} {h : HP} (hv : Iv P h)  : Mt l yX4_clearFound cX4_clearFound 1 none (d + 2) [.ref 49] h 0 0 (fun r h' => r = none ∧ Iv P h' ∧ (FX KAc h h')) := by
  refine Mt_iv hv (by decide) (Nat.le_of_ble_eq_true rfl) ?_
  show Go l RX4 cX4_clearFound 1 (g_rm (d + 2) 0 0) "clearFound" none 117 0 0 (fun _ _ => True) (fun r h' => r = none ∧ Iv P h' ∧ (FX KAc h h')) 0 0 [(0, .ref 49)] [] h
  have fx : FX KAc h h := FX.rfl
  refine go_aload_n (pc := 0) rfl dX4_clearFound_0 ?_
  refine gi_getF (pc := 1) (q := 52) hv fL_X4_23 rfl (Nat.le_of_ble_eq_true rfl) rfl (hv.rf (by decide)) dX4_clearFound_1 ?_
  refine go_lconst (pc := 4) (v := 0) (by decide) dX4_clearFound_4 ?_
  refine go_invS (pc := 5) (sl := 0) (s_J7_fill_d0a16_at52_f l (d + 0) hv (0 : Int64)) mL_X4_106 iM_J7_fill_d0a16 rfl rfl (Nat.le_of_ble_eq_true rfl) (show d + 0 + 1 + 1 ≤ d + 2 by omega) (show 8 + (5 + 11) + 40 * (d + 0 + 1) ≤ 40 * (d + 2) by omega) (g_c0 hv.ln) (Nat.le_of_ble_eq_true rfl) dX4_clearFound_5 ?_
  intro r h1 hq _
  obtain ⟨rfl, hv1, f2⟩ := hq
  have fx1 : FX KAc h h1 := FX.tr fx f2
  refine go_aload_n (pc := 8) rfl dX4_clearFound_8 ?_
  refine gi_getF (pc := 9) (q := 53) hv1 fL_X4_26 rfl (Nat.le_of_ble_eq_true rfl) rfl (hv1.rf (by decide)) dX4_clearFound_9 ?_
  refine go_lconst (pc := 12) (v := 0) (by decide) dX4_clearFound_12 ?_
  refine go_invS (pc := 13) (sl := 0) (s_J7_fill_d0a16_at53_f l (d + 0) hv1 (0 : Int64)) mL_X4_106 iM_J7_fill_d0a16 rfl rfl (Nat.le_of_ble_eq_true rfl) (show d + 0 + 1 + 1 ≤ d + 2 by omega) (show 8 + (5 + 11) + 40 * (d + 0 + 1) ≤ 40 * (d + 2) by omega) (g_c0 hv1.ln) (Nat.le_of_ble_eq_true rfl) dX4_clearFound_13 ?_
  intro r h3 hq _
  obtain ⟨rfl, hv3, f4⟩ := hq
  have fx3 : FX KAc h h3 := FX.tr fx1 f4
  refine go_aload_n (pc := 16) rfl dX4_clearFound_16 ?_
  refine go_iconst (pc := 17) (v := 0) (by decide) dX4_clearFound_17 ?_
  refine gi_put (pc := 18) (lo := 0) (hi := 585) hv3 (ti_c (v := 0) (a := 0) (by decide)) (fP_X4_32 _) rfl (Nat.le_of_ble_eq_true rfl) rfl rfl (by omega) (by omega) rfl rfl (by decide) (by decide) (by decide) (by decide) dX4_clearFound_18 (fun h5 hv5 hv5e => ?_)
  have fx5 : FX KAc h h5 := FX.pI fx3 hv5e (by unfold KAc; omega)
  exact gi_vret (pc := 21) ⟨rfl, hv5, fx5⟩ hv5 dX4_clearFound_21
set_option maxHeartbeats 4000000 in
set_option maxRecDepth 100000 in
theorem s_X4_followRow_f (l : Launch) (d : Nat) {P : PP} {h : HP} (hv : Iv P h) (c2 : Nat) (hc2 : c2 = 52 ∨ c2 = 53) (a3 : Int32) (a3l : 0 ≤ a3.toInt) (a3u : a3.toInt ≤ 584) : Mt l yX4_followRow cX4_followRow 7 none (d + 2) [.ref 49, .ref c2, .int a3] h 0 0 (fun r h' => r = none ∧ Iv P h' ∧ (FX KAc h h')) := by
  refine Mt_iv hv (by decide) (Nat.le_of_ble_eq_true rfl) ?_
  show Go l RX4 cX4_followRow 7 (g_rm (d + 2) 0 0) "followRow" none 117 0 0 (fun _ _ => True) (fun r h' => r = none ∧ Iv P h' ∧ (FX KAc h h')) 0 0 [(0, .ref 49), (1, .ref c2), (2, .int a3)] [] h
  have fx : FX KAc h h := FX.rfl
  have key : ∀ n : Nat, (∀ (l1 : Nat) (l3 : Int32) (l4 : Int32) (hx : HP), Iv P hx → (l1 = 52 ∨ l1 = 53) → 0 ≤ l3.toInt → l3.toInt ≤ 7592 → 0 ≤ l4.toInt → l4.toInt ≤ 13 → FX KAc h hx → (4 * (13 - l4.toInt) + 3 : Int) < n → Go l RX4 cX4_followRow 7 (g_rm (d + 2) 0 0) "followRow" none 117 0 0 (fun _ _ => True) (fun r h' => r = none ∧ Iv P h' ∧ (FX KAc h h')) 0 8 [(0, .ref 49), (1, .ref l1), (3, .int l3), (4, .int l4)] [] hx) ∧ (∀ (l1 : Nat) (l3 : Int32) (l4 : Int32) (hx : HP), Iv P hx → (l1 = 52 ∨ l1 = 53) → 0 ≤ l3.toInt → l3.toInt ≤ 7592 → 0 ≤ l4.toInt → l4.toInt ≤ 12 → FX KAc h hx → (4 * (13 - l4.toInt) + 2 : Int) < n → Go l RX4 cX4_followRow 7 (g_rm (d + 2) 0 0) "followRow" none 117 0 0 (fun _ _ => True) (fun r h' => r = none ∧ Iv P h' ∧ (FX KAc h h')) 0 45 [(0, .ref 49), (1, .ref l1), (3, .int l3), (4, .int l4)] [] hx) := by
    intro n
    induction n with
    | zero => exact ⟨(by intros; omega), (by intros; omega)⟩
    | succ n ih =>
      refine ⟨?_, ?_⟩
      ·
        intro l1 l3 l4 hx hvx hl1 l3l l3u l4l l4u fxx hm
        refine go_iload (pc := 8) rfl dX4_followRow_8 ?_
        refine go_bipush (pc := 10) (v := 13) (by decide) dX4_followRow_10 ?_
        refine gf_icmp_ge (pc := 12) (tgt := 51) (ti_rfl l4) (ti_c (v := 13) (a := 13) (by decide)) (by decide) dX4_followRow_12 (fun q1 => ?_) (fun q1 => ?_)
        ·
          exact gi_vret (pc := 51) ⟨rfl, hvx, fxx⟩ hvx dX4_followRow_51
        ·
          refine go_aload_n (pc := 15) rfl dX4_followRow_15 ?_
          refine gi_getF (pc := 16) (q := 57) hvx fL_X4_54 rfl (Nat.le_of_ble_eq_true rfl) rfl (hvx.rf (by decide)) dX4_followRow_16 ?_
          refine gi_getF (pc := 19) (q := 58) hvx fL_X4_118 rfl (Nat.le_of_ble_eq_true rfl) rfl (hvx.rf (by decide)) dX4_followRow_19 ?_
          refine go_iload_n (pc := 22) rfl dX4_followRow_22 ?_
          refine go_iload (pc := 23) rfl dX4_followRow_23 ?_
          refine gf_iadd (pc := 25) (ti_rfl l3) (ti_rfl l4) (by omega) (by omega) dX4_followRow_25 (fun v2 e3 => ?_)
          refine gi_lald (pc := 26) (len := 7605) hvx e3 rfl (by omega) (by omega) dX4_followRow_26 (fun v4 v4w => ?_)
          refine go_lstore (pc := 27) (Nat.le_of_ble_eq_true rfl) dX4_followRow_27 (go_lv (lv2 := [(0, .ref 49), (1, .ref l1), (3, .int l3), (4, .int l4), (5, .long v4)]) rfl ?_)
          refine go_lload (pc := 29) rfl dX4_followRow_29 ?_
          refine go_lconst (pc := 31) (v := 0) (by decide) dX4_followRow_31 ?_
          refine gu_lcmp (pc := 32) dX4_followRow_32 (fun v5 => ?_)
          refine gf_if_eq (pc := 33) (tgt := 45) (ti_rfl v5) (by decide) dX4_followRow_33 (fun q6 => ?_) (fun q6 => ?_)
          ·
            exact go_lv rfl (ih.2 l1 l3 l4 hx hvx hl1 (by omega) (by omega) (by omega) (by omega) fxx (by omega))
          ·
            refine go_aload_n (pc := 36) rfl dX4_followRow_36 ?_
            refine go_aload_n (pc := 37) rfl dX4_followRow_37 ?_
            refine go_iload (pc := 38) rfl dX4_followRow_38 ?_
            refine go_lload (pc := 40) rfl dX4_followRow_40 ?_
            refine go_invV (pc := 42) (sl := 0) (s_X4_add_f l (d + 0) hvx l1 hl1 l4 (by rw [show (l4 : Int32).toInt = l4.toInt from (ti_rfl l4)]; omega) (by rw [show (l4 : Int32).toInt = l4.toInt from (ti_rfl l4)]; omega) v4) mL_X4_94 iM_X4_add sM_X4_add (hvx.sh rfl) rfl rfl rfl (Nat.le_of_ble_eq_true rfl) (show d + 0 + 1 + 1 ≤ d + 2 by omega) (show 8 + (8 + 11) + 40 * (d + 0 + 1) ≤ 40 * (d + 2) by omega) (g_c0 hvx.ln) (Nat.le_of_ble_eq_true rfl) dX4_followRow_42 ?_
            intro r h7 hq _
            obtain ⟨rfl, hv7, f8⟩ := hq
            have fx7 : FX KAc h h7 := FX.tr fxx f8
            exact go_lv rfl (ih.2 l1 l3 l4 h7 hv7 hl1 (by omega) (by omega) (by omega) (by omega) fx7 (by omega))
      ·
        intro l1 l3 l4 hx hvx hl1 l3l l3u l4l l4u fxx hm
        refine gf_iinc (pc := 45) (Nat.le_of_ble_eq_true rfl) rfl (ti_rfl l4) (ti_c (by decide)) (by omega) (by omega) dX4_followRow_45 (fun v9 e10 => ?_)
        refine go_lv (lv2 := [(0, .ref 49), (1, .ref l1), (3, .int l3), (4, .int v9)]) rfl ?_
        refine go_goto (pc := 48) (tgt := 8) (by decide) dX4_followRow_48 ?_
        have z11 : (v9 : Int32).toInt = (l4.toInt + 1) := e10
        exact go_lv rfl (ih.1 l1 l3 v9 hx hvx hl1 (by omega) (by omega) (by omega) (by omega) fxx (by omega))
  refine go_iload_n (pc := 0) rfl dX4_followRow_0 ?_
  refine go_bipush (pc := 1) (v := 13) (by decide) dX4_followRow_1 ?_
  refine gf_imul (pc := 3) (ti_rfl a3) (ti_c (v := 13) (a := 13) (by decide)) (by omega) (by omega) dX4_followRow_3 (fun v12 e13 => ?_)
  refine go_istore_n (pc := 4) (Nat.le_of_ble_eq_true rfl) dX4_followRow_4 (go_lv (lv2 := [(0, .ref 49), (1, .ref c2), (2, .int a3), (3, .int v12)]) rfl ?_)
  refine go_iconst (pc := 5) (v := 0) (by decide) dX4_followRow_5 ?_
  refine go_istore (pc := 6) (Nat.le_of_ble_eq_true rfl) dX4_followRow_6 (go_lv (lv2 := [(0, .ref 49), (1, .ref c2), (2, .int a3), (3, .int v12), (4, .int 0)]) rfl ?_)
  have z14 : (v12 : Int32).toInt = (a3.toInt * 13) := e13
  have z15 : (0 : Int32).toInt = 0 := (ti_c (v := 0) (a := 0) (by decide))
  exact go_lv rfl ((key 73).1 c2 v12 0 h hv hc2 (by omega) (by omega) (by omega) (by omega) fx (by omega))
set_option maxHeartbeats 4000000 in
set_option maxRecDepth 100000 in
theorem s_X4_followCall_f (l : Launch) (d : Nat) {P : PP} {h : HP} (hv : Iv P h) (c2 : Nat) (hc2 : c2 = 52 ∨ c2 = 53) (a3 : Int32) (a3l : 0 ≤ a3.toInt) (a3u : a3.toInt ≤ 39) (a4 : Int32) (a4l : 7 ≤ a4.toInt) (a4u : a4.toInt ≤ 12) (a5 : Int32) : Mt l yX4_followCall cX4_followCall 8 none (d + 2) [.ref 49, .ref c2, .int a3, .int a4, .int a5] h 0 0 (fun r h' => r = none ∧ Iv P h' ∧ (FX KAc h h')) := by
  refine Mt_iv hv (by decide) (Nat.le_of_ble_eq_true rfl) ?_
  show Go l RX4 cX4_followCall 8 (g_rm (d + 2) 0 0) "followCall" none 117 0 0 (fun _ _ => True) (fun r h' => r = none ∧ Iv P h' ∧ (FX KAc h h')) 0 0 [(0, .ref 49), (1, .ref c2), (2, .int a3), (3, .int a4), (4, .int a5)] [] h
  have fx : FX KAc h h := FX.rfl
  have key : ∀ n : Nat, (∀ (l1 : Nat) (l2 : Int32) (l3 : Int32) (l4 : Int32) (l5 : Int32) (l6 : Int32) (l7 : Int32) (hx : HP), Iv P hx → (l1 = 52 ∨ l1 = 53) → 0 ≤ l2.toInt → l2.toInt ≤ 39 → 7 ≤ l3.toInt → l3.toInt ≤ 12 → 0 ≤ l5.toInt → l5.toInt ≤ 4 → 0 ≤ l7.toInt → l7.toInt ≤ 6 → FX KAc h hx → (4 * (6 - l7.toInt) + 4 : Int) < n → Go l RX4 cX4_followCall 8 (g_rm (d + 2) 0 0) "followCall" none 117 0 0 (fun _ _ => True) (fun r h' => r = none ∧ Iv P h' ∧ (FX KAc h h')) 0 37 [(0, .ref 49), (1, .ref l1), (2, .int l2), (3, .int l3), (4, .int l4), (5, .int l5), (6, .int l6), (7, .int l7)] [] hx) ∧ (∀ (l1 : Nat) (l2 : Int32) (l3 : Int32) (l4 : Int32) (l5 : Int32) (l6 : Int32) (l7 : Int32) (hx : HP), Iv P hx → (l1 = 52 ∨ l1 = 53) → 0 ≤ l2.toInt → l2.toInt ≤ 39 → 7 ≤ l3.toInt → l3.toInt ≤ 12 → 0 ≤ l5.toInt → l5.toInt ≤ 4 → 0 ≤ l7.toInt → l7.toInt ≤ 5 → FX KAc h hx → (4 * (6 - l7.toInt) + 3 : Int) < n → Go l RX4 cX4_followCall 8 (g_rm (d + 2) 0 0) "followCall" none 117 0 0 (fun _ _ => True) (fun r h' => r = none ∧ Iv P h' ∧ (FX KAc h h')) 0 66 [(0, .ref 49), (1, .ref l1), (2, .int l2), (3, .int l3), (4, .int l4), (5, .int l5), (6, .int l6), (7, .int l7)] [] hx) ∧ (∀  (hx : HP), Iv P hx → FX KAc h hx → (1 : Int) < n → Go l RX4 cX4_followCall 8 (g_rm (d + 2) 0 0) "followCall" none 117 0 0 (fun _ _ => True) (fun r h' => r = none ∧ Iv P h' ∧ (FX KAc h h')) 0 91 [] [] hx) := by
    intro n
    induction n with
    | zero => exact ⟨(by intros; omega), (by intros; omega), (by intros; omega)⟩
    | succ n ih =>
      refine ⟨?_, ?_, ?_⟩
      ·
        intro l1 l2 l3 l4 l5 l6 l7 hx hvx hl1 l2l l2u l3l l3u l5l l5u l7l l7u fxx hm
        refine go_iload (pc := 37) rfl dX4_followCall_37 ?_
        refine go_bipush (pc := 39) (v := 6) (by decide) dX4_followCall_39 ?_
        refine gf_icmp_ge (pc := 41) (tgt := 72) (ti_rfl l7) (ti_c (v := 6) (a := 6) (by decide)) (by decide) dX4_followCall_41 (fun q1 => ?_) (fun q1 => ?_)
        ·
          refine go_iload (pc := 72) rfl dX4_followCall_72 ?_
          refine go_iconst (pc := 74) (v := 2) (by decide) dX4_followCall_74 ?_
          refine gf_icmp_ne (pc := 75) (tgt := 91) (ti_rfl l4) (ti_c (v := 2) (a := 2) (by decide)) (by decide) dX4_followCall_75 (fun q2 => ?_) (fun q2 => ?_)
          ·
            exact go_lv rfl (ih.2.2  hx hvx fxx (by omega))
          ·
            refine go_aload_n (pc := 78) rfl dX4_followCall_78 ?_
            refine go_aload_n (pc := 79) rfl dX4_followCall_79 ?_
            refine go_iload_n (pc := 80) rfl dX4_followCall_80 ?_
            refine go_lconst (pc := 81) (v := 1) (by decide) dX4_followCall_81 ?_
            refine go_bipush (pc := 82) (v := 40) (by decide) dX4_followCall_82 ?_
            refine go_iload (pc := 84) rfl dX4_followCall_84 ?_
            refine gf_iadd (pc := 86) (ti_c (v := 40) (a := 40) (by decide)) (ti_rfl l5) (by omega) (by omega) dX4_followCall_86 (fun v3 e4 => ?_)
            refine gu_lshl (pc := 87) dX4_followCall_87 (fun v5 => ?_)
            refine go_invV (pc := 88) (sl := 0) (s_X4_add_f l (d + 0) hvx l1 hl1 l3 (by rw [show (l3 : Int32).toInt = l3.toInt from (ti_rfl l3)]; omega) (by rw [show (l3 : Int32).toInt = l3.toInt from (ti_rfl l3)]; omega) v5) mL_X4_94 iM_X4_add sM_X4_add (hvx.sh rfl) rfl rfl rfl (Nat.le_of_ble_eq_true rfl) (show d + 0 + 1 + 1 ≤ d + 2 by omega) (show 8 + (8 + 11) + 40 * (d + 0 + 1) ≤ 40 * (d + 2) by omega) (g_c0 hvx.ln) (Nat.le_of_ble_eq_true rfl) dX4_followCall_88 ?_
            intro r h6 hq _
            obtain ⟨rfl, hv6, f7⟩ := hq
            have fx6 : FX KAc h h6 := FX.tr fxx f7
            exact go_lv rfl (ih.2.2  h6 hv6 fx6 (by omega))
        ·
          refine go_iload (pc := 44) rfl dX4_followCall_44 ?_
          refine go_iload (pc := 46) rfl dX4_followCall_46 ?_
          refine gu_iushr (pc := 48) dX4_followCall_48 (fun v8 => ?_)
          refine go_iconst (pc := 49) (v := 1) (by decide) dX4_followCall_49 ?_
          refine gf_iand (pc := 50) (ti_c (v := 1) (a := 1) (by decide)) (by omega) dX4_followCall_50 (fun v9 v9l v9u => ?_)
          refine gf_if_eq (pc := 51) (tgt := 66) (ti_rfl v9) (by decide) dX4_followCall_51 (fun q10 => ?_) (fun q10 => ?_)
          ·
            exact go_lv rfl (ih.2.1 l1 l2 l3 l4 l5 l6 l7 hx hvx hl1 (by omega) (by omega) (by omega) (by omega) (by omega) (by omega) (by omega) (by omega) fxx (by omega))
          ·
            refine go_aload_n (pc := 54) rfl dX4_followCall_54 ?_
            refine go_aload_n (pc := 55) rfl dX4_followCall_55 ?_
            refine go_iconst (pc := 56) (v := 1) (by decide) dX4_followCall_56 ?_
            refine go_iload (pc := 57) rfl dX4_followCall_57 ?_
            refine gf_iadd (pc := 59) (ti_c (v := 1) (a := 1) (by decide)) (ti_rfl l7) (by omega) (by omega) dX4_followCall_59 (fun v11 e12 => ?_)
            refine go_lconst (pc := 60) (v := 1) (by decide) dX4_followCall_60 ?_
            refine go_iload_n (pc := 61) rfl dX4_followCall_61 ?_
            refine gu_lshl (pc := 62) dX4_followCall_62 (fun v13 => ?_)
            refine go_invV (pc := 63) (sl := 0) (s_X4_add_f l (d + 0) hvx l1 hl1 v11 (by rw [show (v11 : Int32).toInt = (1 + l7.toInt) from e12]; omega) (by rw [show (v11 : Int32).toInt = (1 + l7.toInt) from e12]; omega) v13) mL_X4_94 iM_X4_add sM_X4_add (hvx.sh rfl) rfl rfl rfl (Nat.le_of_ble_eq_true rfl) (show d + 0 + 1 + 1 ≤ d + 2 by omega) (show 8 + (8 + 11) + 40 * (d + 0 + 1) ≤ 40 * (d + 2) by omega) (g_c0 hvx.ln) (Nat.le_of_ble_eq_true rfl) dX4_followCall_63 ?_
            intro r h14 hq _
            obtain ⟨rfl, hv14, f15⟩ := hq
            try rw [show (v11 : Int32).toInt = (1 + l7.toInt) from e12] at f15
            have fx14 : FX KAc h h14 := FX.tr fxx f15
            exact go_lv rfl (ih.2.1 l1 l2 l3 l4 l5 l6 l7 h14 hv14 hl1 (by omega) (by omega) (by omega) (by omega) (by omega) (by omega) (by omega) (by omega) fx14 (by omega))
      ·
        intro l1 l2 l3 l4 l5 l6 l7 hx hvx hl1 l2l l2u l3l l3u l5l l5u l7l l7u fxx hm
        refine gf_iinc (pc := 66) (Nat.le_of_ble_eq_true rfl) rfl (ti_rfl l7) (ti_c (by decide)) (by omega) (by omega) dX4_followCall_66 (fun v16 e17 => ?_)
        refine go_lv (lv2 := [(0, .ref 49), (1, .ref l1), (2, .int l2), (3, .int l3), (4, .int l4), (5, .int l5), (6, .int l6), (7, .int v16)]) rfl ?_
        refine go_goto (pc := 69) (tgt := 37) (by decide) dX4_followCall_69 ?_
        have z18 : (v16 : Int32).toInt = (l7.toInt + 1) := e17
        exact go_lv rfl (ih.1 l1 l2 l3 l4 l5 l6 v16 hx hvx hl1 (by omega) (by omega) (by omega) (by omega) (by omega) (by omega) (by omega) (by omega) fxx (by omega))
      ·
        intro hx hvx fxx hm
        exact gi_vret (pc := 91) ⟨rfl, hvx, fxx⟩ hvx dX4_followCall_91
  refine go_aload_n (pc := 0) rfl dX4_followCall_0 ?_
  refine gi_getC (pc := 1) hv fL_X4_58 rfl (Nat.le_of_ble_eq_true rfl) rfl (by decide) dX4_followCall_1 (fun c19 hc19 fc19 => ?_)
  refine gi_getF (pc := 4) (q := c19 + 7) hv fL_X4_121 (by rcases hc19 with rfl | rfl <;> rfl) (Nat.le_of_ble_eq_true rfl) rfl (by rcases hc19 with rfl | rfl <;> exact hv.rf (by decide)) dX4_followCall_4 ?_
  refine go_iload_n (pc := 7) rfl dX4_followCall_7 ?_
  refine gi_iald (pc := 8) (lo := -2) (hi := 4) (len := 40) hv (ti_rfl a3) (by rcases hc19 with rfl | rfl <;> rfl) (by omega) (by omega) (fun _ => by rcases hc19 with rfl | rfl <;> rfl) dX4_followCall_8 (fun v20 v20l v20u v20w => ?_)
  refine go_istore (pc := 9) (Nat.le_of_ble_eq_true rfl) dX4_followCall_9 (go_lv (lv2 := [(0, .ref 49), (1, .ref c2), (2, .int a3), (3, .int a4), (4, .int a5), (5, .int v20)]) rfl ?_)
  refine go_iload (pc := 11) rfl dX4_followCall_11 ?_
  refine gf_if_ge (pc := 13) (tgt := 17) (ti_rfl v20) (by decide) dX4_followCall_13 (fun q21 => ?_) (fun q21 => ?_)
  ·
    refine go_aload_n (pc := 17) rfl dX4_followCall_17 ?_
    refine gi_getF (pc := 18) (q := 51) hv fL_X4_19 rfl (Nat.le_of_ble_eq_true rfl) rfl (hv.rf (by decide)) dX4_followCall_18 ?_
    refine go_iload (pc := 21) rfl dX4_followCall_21 ?_
    refine go_bipush (pc := 23) (v := 6) (by decide) dX4_followCall_23 ?_
    refine gf_imul (pc := 25) (ti_rfl v20) (ti_c (v := 6) (a := 6) (by decide)) (by omega) (by omega) dX4_followCall_25 (fun v22 e23 => ?_)
    refine go_iload_n (pc := 26) rfl dX4_followCall_26 ?_
    refine gf_iadd (pc := 27) e23 (ti_rfl a4) (by omega) (by omega) dX4_followCall_27 (fun v24 e25 => ?_)
    refine go_bipush (pc := 28) (v := 7) (by decide) dX4_followCall_28 ?_
    refine gf_isub (pc := 30) e25 (ti_c (v := 7) (a := 7) (by decide)) (by omega) (by omega) dX4_followCall_30 (fun v26 e27 => ?_)
    refine gi_iald (pc := 31) (lo := -2147483648) (hi := 2147483647) (len := 30) hv e27 rfl (by omega) (by omega) (fun _ => rfl) dX4_followCall_31 (fun v28 v28l v28u v28w => ?_)
    refine go_istore (pc := 32) (Nat.le_of_ble_eq_true rfl) dX4_followCall_32 (go_lv (lv2 := [(0, .ref 49), (1, .ref c2), (2, .int a3), (3, .int a4), (4, .int a5), (5, .int v20), (6, .int v28)]) rfl ?_)
    refine go_iconst (pc := 34) (v := 0) (by decide) dX4_followCall_34 ?_
    refine go_istore (pc := 35) (Nat.le_of_ble_eq_true rfl) dX4_followCall_35 (go_lv (lv2 := [(0, .ref 49), (1, .ref c2), (2, .int a3), (3, .int a4), (4, .int a5), (5, .int v20), (6, .int v28), (7, .int 0)]) rfl ?_)
    have z29 : (0 : Int32).toInt = 0 := (ti_c (v := 0) (a := 0) (by decide))
    exact go_lv rfl ((key 46).1 c2 a3 a4 a5 v20 v28 0 h hv hc2 (by omega) (by omega) (by omega) (by omega) (by omega) (by omega) (by omega) (by omega) fx (by omega))
  ·
    exact gi_vret (pc := 16) ⟨rfl, hv, fx⟩ hv dX4_followCall_16
set_option maxHeartbeats 4000000 in
set_option maxRecDepth 100000 in
theorem s_X4_spread_f (l : Launch) (d : Nat) {P : PP} {h : HP} (hv : Iv P h) (c2 : Nat) (hc2 : c2 = 52 ∨ c2 = 53) (a3 : Int32) : Mt l yX4_spread cX4_spread 6 none (d + 3) [.ref 49, .ref c2, .int a3] h 0 0 (fun r h' => r = none ∧ Iv P h' ∧ (FX KAc h h')) := by
  refine Mt_iv hv (by decide) (Nat.le_of_ble_eq_true rfl) ?_
  show Go l RX4 cX4_spread 6 (g_rm (d + 3) 0 0) "spread" none 117 0 0 (fun _ _ => True) (fun r h' => r = none ∧ Iv P h' ∧ (FX KAc h h')) 0 0 [(0, .ref 49), (1, .ref c2), (2, .int a3)] [] h
  have fx : FX KAc h h := FX.rfl
  have key : ∀ n : Nat, (∀ (l1 : Nat) (l2 : Int32) (l3 : Int32) (hx : HP), Iv P hx → (l1 = 52 ∨ l1 = 53) → 0 ≤ l3.toInt → l3.toInt ≤ 585 → FX KAc h hx → (5 * (585 - l3.toInt) + 5 : Int) < n → Go l RX4 cX4_spread 6 (g_rm (d + 3) 0 0) "spread" none 117 0 0 (fun _ _ => True) (fun r h' => r = none ∧ Iv P h' ∧ (FX KAc h h')) 0 2 [(0, .ref 49), (1, .ref l1), (2, .int l2), (3, .int l3)] [] hx) ∧ (∀ (l1 : Nat) (l2 : Int32) (l3 : Int32) (l4 : Int32) (l5 : Int32) (hx : HP), Iv P hx → (l1 = 52 ∨ l1 = 53) → 0 ≤ l3.toInt → l3.toInt ≤ 584 → 0 ≤ l4.toInt → l4.toInt ≤ 44 → 0 ≤ l5.toInt → l5.toInt ≤ 12 → FX KAc h hx → (5 * (585 - l3.toInt) + 4 : Int) < n → Go l RX4 cX4_spread 6 (g_rm (d + 3) 0 0) "spread" none 117 0 0 (fun _ _ => True) (fun r h' => r = none ∧ Iv P h' ∧ (FX KAc h h')) 0 79 [(0, .ref 49), (1, .ref l1), (2, .int l2), (3, .int l3), (4, .int l4), (5, .int l5)] [] hx) ∧ (∀ (l1 : Nat) (l2 : Int32) (l3 : Int32) (hx : HP), Iv P hx → (l1 = 52 ∨ l1 = 53) → 0 ≤ l3.toInt → l3.toInt ≤ 584 → FX KAc h hx → (5 * (585 - l3.toInt) + 3 : Int) < n → Go l RX4 cX4_spread 6 (g_rm (d + 3) 0 0) "spread" none 117 0 0 (fun _ _ => True) (fun r h' => r = none ∧ Iv P h' ∧ (FX KAc h h')) 0 115 [(0, .ref 49), (1, .ref l1), (2, .int l2), (3, .int l3)] [] hx) ∧ (∀  (hx : HP), Iv P hx → FX KAc h hx → (1 : Int) < n → Go l RX4 cX4_spread 6 (g_rm (d + 3) 0 0) "spread" none 117 0 0 (fun _ _ => True) (fun r h' => r = none ∧ Iv P h' ∧ (FX KAc h h')) 0 121 [(0, .ref 49)] [] hx) := by
    intro n
    induction n with
    | zero => exact ⟨(by intros; omega), (by intros; omega), (by intros; omega), (by intros; omega)⟩
    | succ n ih =>
      refine ⟨?_, ?_, ?_, ?_⟩
      ·
        intro l1 l2 l3 hx hvx hl1 l3l l3u fxx hm
        refine go_iload_n (pc := 2) rfl dX4_spread_2 ?_
        refine go_aload_n (pc := 3) rfl dX4_spread_3 ?_
        refine gi_getF (pc := 4) (q := 54) hvx fL_X4_29 rfl (Nat.le_of_ble_eq_true rfl) rfl (hvx.rf (by decide)) dX4_spread_4 ?_
        refine go_alen (pc := 7) (v := 585) (hvx.sh rfl) (by decide) (by decide) dX4_spread_7 ?_
        refine gf_icmp_ge (pc := 8) (tgt := 121) (ti_rfl l3) (ti_c (v := 585) (a := 585) (by decide)) (by decide) dX4_spread_8 (fun q1 => ?_) (fun q1 => ?_)
        ·
          exact go_lv rfl (ih.2.2.2  hx hvx fxx (by omega))
        ·
          refine go_iload_n (pc := 11) rfl dX4_spread_11 ?_
          refine go_aload_n (pc := 12) rfl dX4_spread_12 ?_
          refine gi_get (pc := 13) (lo := 0) (hi := 585) hvx fL_X4_32 rfl (Nat.le_of_ble_eq_true rfl) rfl rfl dX4_spread_13 (fun v2 v2l v2u v2w => ?_)
          refine gf_icmp_ge (pc := 16) (tgt := 121) (ti_rfl l3) (ti_rfl v2) (by decide) dX4_spread_16 (fun q3 => ?_) (fun q3 => ?_)
          ·
            exact go_lv rfl (ih.2.2.2  hx hvx fxx (by omega))
          ·
            refine go_aload_n (pc := 19) rfl dX4_spread_19 ?_
            refine gi_getF (pc := 20) (q := 54) hvx fL_X4_29 rfl (Nat.le_of_ble_eq_true rfl) rfl (hvx.rf (by decide)) dX4_spread_20 ?_
            refine go_iload_n (pc := 23) rfl dX4_spread_23 ?_
            refine gi_iald (pc := 24) (lo := 0) (hi := 584) (len := 585) hvx (ti_rfl l3) rfl (by omega) (by omega) (fun _ => rfl) dX4_spread_24 (fun v4 v4l v4u v4w => ?_)
            refine go_bipush (pc := 25) (v := 13) (by decide) dX4_spread_25 ?_
            refine gf_idiv (pc := 27) (ti_rfl v4) (ti_c (v := 13) (a := 13) (by decide)) (by omega) (by omega) dX4_spread_27 (fun v5 e6 => ?_)
            refine go_istore (pc := 28) (Nat.le_of_ble_eq_true rfl) dX4_spread_28 (go_lv (lv2 := [(0, .ref 49), (1, .ref l1), (2, .int l2), (3, .int l3), (4, .int v5)]) rfl ?_)
            refine go_aload_n (pc := 30) rfl dX4_spread_30 ?_
            refine gi_getF (pc := 31) (q := 54) hvx fL_X4_29 rfl (Nat.le_of_ble_eq_true rfl) rfl (hvx.rf (by decide)) dX4_spread_31 ?_
            refine go_iload_n (pc := 34) rfl dX4_spread_34 ?_
            refine gi_iald (pc := 35) (lo := 0) (hi := 584) (len := 585) hvx (ti_rfl l3) rfl (by omega) (by omega) (fun _ => rfl) dX4_spread_35 (fun v7 v7l v7u v7w => ?_)
            refine go_bipush (pc := 36) (v := 13) (by decide) dX4_spread_36 ?_
            refine gf_irem (pc := 38) (ti_rfl v7) (ti_c (v := 13) (a := 13) (by decide)) (by omega) (by omega) dX4_spread_38 (fun v8 e9 => ?_)
            refine go_istore (pc := 39) (Nat.le_of_ble_eq_true rfl) dX4_spread_39 (go_lv (lv2 := [(0, .ref 49), (1, .ref l1), (2, .int l2), (3, .int l3), (4, .int v5), (5, .int v8)]) rfl ?_)
            refine go_aload_n (pc := 41) rfl dX4_spread_41 ?_
            refine go_aload_n (pc := 42) rfl dX4_spread_42 ?_
            refine go_aload_n (pc := 43) rfl dX4_spread_43 ?_
            refine gi_getF (pc := 44) (q := 54) hvx fL_X4_29 rfl (Nat.le_of_ble_eq_true rfl) rfl (hvx.rf (by decide)) dX4_spread_44 ?_
            refine go_iload_n (pc := 47) rfl dX4_spread_47 ?_
            refine gi_iald (pc := 48) (lo := 0) (hi := 584) (len := 585) hvx (ti_rfl l3) rfl (by omega) (by omega) (fun _ => rfl) dX4_spread_48 (fun v10 v10l v10u v10w => ?_)
            refine go_invV (pc := 49) (sl := 0) (s_X4_followRow_f l (d + 0) hvx l1 hl1 v10 (by rw [show (v10 : Int32).toInt = v10.toInt from (ti_rfl v10)]; omega) (by rw [show (v10 : Int32).toInt = v10.toInt from (ti_rfl v10)]; omega)) mL_X4_111 iM_X4_followRow sM_X4_followRow (hvx.sh rfl) rfl rfl rfl (Nat.le_of_ble_eq_true rfl) (show d + 0 + 2 + 1 ≤ d + 3 by omega) (show 8 + (7 + 11) + 40 * (d + 0 + 2) ≤ 40 * (d + 3) by omega) (g_c0 hvx.ln) (Nat.le_of_ble_eq_true rfl) dX4_spread_49 ?_
            intro r h11 hq _
            obtain ⟨rfl, hv11, f12⟩ := hq
            have fx11 : FX KAc h h11 := FX.tr fxx f12
            refine go_iload (pc := 52) rfl dX4_spread_52 ?_
            refine go_bipush (pc := 54) (v := 40) (by decide) dX4_spread_54 ?_
            refine gf_icmp_ge (pc := 56) (tgt := 79) e6 (ti_c (v := 40) (a := 40) (by decide)) (by decide) dX4_spread_56 (fun q13 => ?_) (fun q13 => ?_)
            ·
              have z14 : (v5 : Int32).toInt = (v4.toInt / 13) := e6
              have z15 : (v8 : Int32).toInt = (v7.toInt % 13) := e9
              exact go_lv rfl (ih.2.1 l1 l2 l3 v5 v8 h11 hv11 hl1 (by omega) (by omega) (by omega) (by omega) (by omega) (by omega) fx11 (by omega))
            ·
              refine go_iload (pc := 59) rfl dX4_spread_59 ?_
              refine go_bipush (pc := 61) (v := 7) (by decide) dX4_spread_61 ?_
              refine gf_icmp_lt (pc := 63) (tgt := 79) e9 (ti_c (v := 7) (a := 7) (by decide)) (by decide) dX4_spread_63 (fun q16 => ?_) (fun q16 => ?_)
              ·
                have z17 : (v5 : Int32).toInt = (v4.toInt / 13) := e6
                have z18 : (v8 : Int32).toInt = (v7.toInt % 13) := e9
                exact go_lv rfl (ih.2.1 l1 l2 l3 v5 v8 h11 hv11 hl1 (by omega) (by omega) (by omega) (by omega) (by omega) (by omega) fx11 (by omega))
              ·
                refine go_aload_n (pc := 66) rfl dX4_spread_66 ?_
                refine go_aload_n (pc := 67) rfl dX4_spread_67 ?_
                refine go_iload (pc := 68) rfl dX4_spread_68 ?_
                refine go_iload (pc := 70) rfl dX4_spread_70 ?_
                refine go_iload_n (pc := 72) rfl dX4_spread_72 ?_
                refine go_invV (pc := 73) (sl := 0) (s_X4_followCall_f l (d + 0) hv11 l1 hl1 v5 (by rw [show (v5 : Int32).toInt = (v4.toInt / 13) from e6]; omega) (by rw [show (v5 : Int32).toInt = (v4.toInt / 13) from e6]; omega) v8 (by rw [show (v8 : Int32).toInt = (v7.toInt % 13) from e9]; omega) (by rw [show (v8 : Int32).toInt = (v7.toInt % 13) from e9]; omega) l2) mL_X4_114 iM_X4_followCall sM_X4_followCall (hv11.sh rfl) rfl rfl rfl (Nat.le_of_ble_eq_true rfl) (show d + 0 + 2 + 1 ≤ d + 3 by omega) (show 8 + (8 + 11) + 40 * (d + 0 + 2) ≤ 40 * (d + 3) by omega) (g_c0 hv11.ln) (Nat.le_of_ble_eq_true rfl) dX4_spread_73 ?_
                intro r h19 hq _
                obtain ⟨rfl, hv19, f20⟩ := hq
                try rw [show (v5 : Int32).toInt = (v4.toInt / 13) from e6] at f20
                try rw [show (v8 : Int32).toInt = (v7.toInt % 13) from e9] at f20
                have fx19 : FX KAc h h19 := FX.tr fx11 f20
                refine go_goto (pc := 76) (tgt := 115) (by decide) dX4_spread_76 ?_
                exact go_lv rfl (ih.2.2.1 l1 l2 l3 h19 hv19 hl1 (by omega) (by omega) fx19 (by omega))
      ·
        intro l1 l2 l3 l4 l5 hx hvx hl1 l3l l3u l4l l4u l5l l5u fxx hm
        refine go_iload (pc := 79) rfl dX4_spread_79 ?_
        refine go_bipush (pc := 81) (v := 40) (by decide) dX4_spread_81 ?_
        refine gf_icmp_lt (pc := 83) (tgt := 115) (ti_rfl l4) (ti_c (v := 40) (a := 40) (by decide)) (by decide) dX4_spread_83 (fun q21 => ?_) (fun q21 => ?_)
        ·
          exact go_lv rfl (ih.2.2.1 l1 l2 l3 hx hvx hl1 (by omega) (by omega) fxx (by omega))
        ·
          refine go_iload (pc := 86) rfl dX4_spread_86 ?_
          refine go_bipush (pc := 88) (v := 7) (by decide) dX4_spread_88 ?_
          refine gf_icmp_ge (pc := 90) (tgt := 115) (ti_rfl l5) (ti_c (v := 7) (a := 7) (by decide)) (by decide) dX4_spread_90 (fun q22 => ?_) (fun q22 => ?_)
          ·
            exact go_lv rfl (ih.2.2.1 l1 l2 l3 hx hvx hl1 (by omega) (by omega) fxx (by omega))
          ·
            refine go_iload_n (pc := 93) rfl dX4_spread_93 ?_
            refine go_iconst (pc := 94) (v := 1) (by decide) dX4_spread_94 ?_
            refine gf_icmp_ne (pc := 95) (tgt := 115) (ti_rfl l2) (ti_c (v := 1) (a := 1) (by decide)) (by decide) dX4_spread_95 (fun q23 => ?_) (fun q23 => ?_)
            ·
              exact go_lv rfl (ih.2.2.1 l1 l2 l3 hx hvx hl1 (by omega) (by omega) fxx (by omega))
            ·
              refine go_aload_n (pc := 98) rfl dX4_spread_98 ?_
              refine go_aload_n (pc := 99) rfl dX4_spread_99 ?_
              refine go_iload (pc := 100) rfl dX4_spread_100 ?_
              refine go_aload_n (pc := 102) rfl dX4_spread_102 ?_
              refine gi_getF (pc := 103) (q := 50) hvx fL_X4_15 rfl (Nat.le_of_ble_eq_true rfl) rfl (hvx.rf (by decide)) dX4_spread_103 ?_
              refine go_iload (pc := 106) rfl dX4_spread_106 ?_
              refine go_bipush (pc := 108) (v := 40) (by decide) dX4_spread_108 ?_
              refine gf_isub (pc := 110) (ti_rfl l4) (ti_c (v := 40) (a := 40) (by decide)) (by omega) (by omega) dX4_spread_110 (fun v24 e25 => ?_)
              refine gi_lald (pc := 111) (len := 5) hvx e25 rfl (by omega) (by omega) dX4_spread_111 (fun v26 v26w => ?_)
              refine go_invV (pc := 112) (sl := 0) (s_X4_add_f l (d + 1) hvx l1 hl1 l5 (by rw [show (l5 : Int32).toInt = l5.toInt from (ti_rfl l5)]; omega) (by rw [show (l5 : Int32).toInt = l5.toInt from (ti_rfl l5)]; omega) v26) mL_X4_94 iM_X4_add sM_X4_add (hvx.sh rfl) rfl rfl rfl (Nat.le_of_ble_eq_true rfl) (show d + 1 + 1 + 1 ≤ d + 3 by omega) (show 8 + (8 + 11) + 40 * (d + 1 + 1) ≤ 40 * (d + 3) by omega) (g_c0 hvx.ln) (Nat.le_of_ble_eq_true rfl) dX4_spread_112 ?_
              intro r h27 hq _
              obtain ⟨rfl, hv27, f28⟩ := hq
              have fx27 : FX KAc h h27 := FX.tr fxx f28
              exact go_lv rfl (ih.2.2.1 l1 l2 l3 h27 hv27 hl1 (by omega) (by omega) fx27 (by omega))
      ·
        intro l1 l2 l3 hx hvx hl1 l3l l3u fxx hm
        refine gf_iinc (pc := 115) (Nat.le_of_ble_eq_true rfl) rfl (ti_rfl l3) (ti_c (by decide)) (by omega) (by omega) dX4_spread_115 (fun v29 e30 => ?_)
        refine go_lv (lv2 := [(0, .ref 49), (1, .ref l1), (2, .int l2), (3, .int v29)]) rfl ?_
        refine go_goto (pc := 118) (tgt := 2) (by decide) dX4_spread_118 ?_
        have z31 : (v29 : Int32).toInt = (l3.toInt + 1) := e30
        exact go_lv rfl (ih.1 l1 l2 v29 hx hvx hl1 (by omega) (by omega) fxx (by omega))
      ·
        intro hx hvx fxx hm
        refine go_aload_n (pc := 121) rfl dX4_spread_121 ?_
        refine go_iconst (pc := 122) (v := 0) (by decide) dX4_spread_122 ?_
        refine gi_put (pc := 123) (lo := 0) (hi := 585) hvx (ti_c (v := 0) (a := 0) (by decide)) (fP_X4_32 _) rfl (Nat.le_of_ble_eq_true rfl) rfl rfl (by omega) (by omega) rfl rfl (by decide) (by decide) (by decide) (by decide) dX4_spread_123 (fun h32 hv32 hv32e => ?_)
        have fx32 : FX KAc h h32 := FX.pI fxx hv32e (by unfold KAc; omega)
        exact gi_vret (pc := 126) ⟨rfl, hv32, fx32⟩ hv32 dX4_spread_126
  refine go_iconst (pc := 0) (v := 0) (by decide) dX4_spread_0 ?_
  refine go_istore_n (pc := 1) (Nat.le_of_ble_eq_true rfl) dX4_spread_1 (go_lv (lv2 := [(0, .ref 49), (1, .ref c2), (2, .int a3), (3, .int 0)]) rfl ?_)
  have z33 : (0 : Int32).toInt = 0 := (ti_c (v := 0) (a := 0) (by decide))
  exact go_lv rfl ((key 2949).1 c2 a3 0 h hv hc2 (by omega) (by omega) fx (by omega))
set_option maxHeartbeats 4000000 in
set_option maxRecDepth 100000 in
theorem s_X4_insFrom_f (l : Launch) (d : Nat) {P : PP} {h : HP} (hv : Iv P h) (a2 : Int32) (a2l : 0 ≤ a2.toInt) (a2u : a2.toInt ≤ 4) (a3 : Int32) (a3l : 0 ≤ a3.toInt) (a3u : a3.toInt ≤ 5) : Mt l yX4_insFrom cX4_insFrom 5 (some .int) (d + 4) [.ref 49, .int a2, .int a3] h 0 0 (fun r h' => ∃ v : Int32, r = some (.int v) ∧ -2147483648 ≤ v.toInt ∧ v.toInt ≤ 2147483647 ∧ Iv P h' ∧ (FX KAc h h')) := by
  refine Mt_iv hv (by decide) (Nat.le_of_ble_eq_true rfl) ?_
  show Go l RX4 cX4_insFrom 5 (g_rm (d + 4) 0 0) "insFrom" (some .int) 117 0 0 (fun _ _ => True) (fun r h' => ∃ v : Int32, r = some (.int v) ∧ -2147483648 ≤ v.toInt ∧ v.toInt ≤ 2147483647 ∧ Iv P h' ∧ (FX KAc h h')) 0 0 [(0, .ref 49), (1, .int a2), (2, .int a3)] [] h
  have fx : FX KAc h h := FX.rfl
  have key : ∀ n : Nat, (∀ (l1 : Int32) (l3 : Int32) (l4 : Int32) (hx : HP), Iv P hx → 0 ≤ l1.toInt → l1.toInt ≤ 4 → 0 ≤ l4.toInt → l4.toInt ≤ 6 → FX KAc h hx → (4 * (6 - l4.toInt) + 3 : Int) < n → Go l RX4 cX4_insFrom 5 (g_rm (d + 4) 0 0) "insFrom" (some .int) 117 0 0 (fun _ _ => True) (fun r h' => ∃ v : Int32, r = some (.int v) ∧ -2147483648 ≤ v.toInt ∧ v.toInt ≤ 2147483647 ∧ Iv P h' ∧ (FX KAc h h')) 0 37 [(0, .ref 49), (1, .int l1), (3, .int l3), (4, .int l4)] [] hx) ∧ (∀ (l1 : Int32) (l3 : Int32) (l4 : Int32) (hx : HP), Iv P hx → 0 ≤ l1.toInt → l1.toInt ≤ 4 → 0 ≤ l4.toInt → l4.toInt ≤ 5 → FX KAc h hx → (4 * (6 - l4.toInt) + 2 : Int) < n → Go l RX4 cX4_insFrom 5 (g_rm (d + 4) 0 0) "insFrom" (some .int) 117 0 0 (fun _ _ => True) (fun r h' => ∃ v : Int32, r = some (.int v) ∧ -2147483648 ≤ v.toInt ∧ v.toInt ≤ 2147483647 ∧ Iv P h' ∧ (FX KAc h h')) 0 70 [(0, .ref 49), (1, .int l1), (3, .int l3), (4, .int l4)] [] hx) := by
    intro n
    induction n with
    | zero => exact ⟨(by intros; omega), (by intros; omega)⟩
    | succ n ih =>
      refine ⟨?_, ?_⟩
      ·
        intro l1 l3 l4 hx hvx l1l l1u l4l l4u fxx hm
        refine go_iload (pc := 37) rfl dX4_insFrom_37 ?_
        refine go_bipush (pc := 39) (v := 6) (by decide) dX4_insFrom_39 ?_
        refine gf_icmp_ge (pc := 41) (tgt := 76) (ti_rfl l4) (ti_c (v := 6) (a := 6) (by decide)) (by decide) dX4_insFrom_41 (fun q1 => ?_) (fun q1 => ?_)
        ·
          refine go_iload_n (pc := 76) rfl dX4_insFrom_76 ?_
          exact gi_iret (pc := 77) (ti_rfl l3) ⟨_, rfl, (ti_lo _), (ti_hi _), hvx, fxx⟩ hvx dX4_insFrom_77
        ·
          refine go_aload_n (pc := 44) rfl dX4_insFrom_44 ?_
          refine gi_getF (pc := 45) (q := 53) hvx fL_X4_26 rfl (Nat.le_of_ble_eq_true rfl) rfl (hvx.rf (by decide)) dX4_insFrom_45 ?_
          refine go_iconst (pc := 48) (v := 1) (by decide) dX4_insFrom_48 ?_
          refine go_iload (pc := 49) rfl dX4_insFrom_49 ?_
          refine gf_iadd (pc := 51) (ti_c (v := 1) (a := 1) (by decide)) (ti_rfl l4) (by omega) (by omega) dX4_insFrom_51 (fun v2 e3 => ?_)
          refine gi_lald (pc := 52) (len := 13) hvx e3 rfl (by omega) (by omega) dX4_insFrom_52 (fun v4 v4w => ?_)
          refine go_bipush (pc := 53) (v := 40) (by decide) dX4_insFrom_53 ?_
          refine go_iload_n (pc := 55) rfl dX4_insFrom_55 ?_
          refine gf_iadd (pc := 56) (ti_c (v := 40) (a := 40) (by decide)) (ti_rfl l1) (by omega) (by omega) dX4_insFrom_56 (fun v5 e6 => ?_)
          refine go_invS (pc := 57) (sl := 0) (s_X7_has_f l (d + 2) hvx v4 v5) mL_X4_102 iM_X7_has rfl rfl (Nat.le_of_ble_eq_true rfl) (show d + 2 + 1 + 1 ≤ d + 4 by omega) (show 8 + (3 + 11) + 40 * (d + 2 + 1) ≤ 40 * (d + 4) by omega) (g_c0 hvx.ln) (Nat.le_of_ble_eq_true rfl) dX4_insFrom_57 ?_
          intro r h7 hq _
          obtain ⟨v9, rfl, v9l, v9u, rfl, f8⟩ := hq
          try rw [show (v5 : Int32).toInt = (40 + l1.toInt) from e6] at f8
          refine gf_if_eq (pc := 60) (tgt := 70) (ti_rfl v9) (by decide) dX4_insFrom_60 (fun q10 => ?_) (fun q10 => ?_)
          ·
            exact go_lv rfl (ih.2 l1 l3 l4 hx hvx (by omega) (by omega) (by omega) (by omega) fxx (by omega))
          ·
            refine go_iload_n (pc := 63) rfl dX4_insFrom_63 ?_
            refine go_iconst (pc := 64) (v := 1) (by decide) dX4_insFrom_64 ?_
            refine go_iload (pc := 65) rfl dX4_insFrom_65 ?_
            refine gu_ishl (pc := 67) dX4_insFrom_67 (fun v11 => ?_)
            refine gu_ior (pc := 68) dX4_insFrom_68 (fun v12 => ?_)
            refine go_istore_n (pc := 69) (Nat.le_of_ble_eq_true rfl) dX4_insFrom_69 (go_lv (lv2 := [(0, .ref 49), (1, .int l1), (3, .int v12), (4, .int l4)]) rfl ?_)
            exact go_lv rfl (ih.2 l1 v12 l4 hx hvx (by omega) (by omega) (by omega) (by omega) fxx (by omega))
      ·
        intro l1 l3 l4 hx hvx l1l l1u l4l l4u fxx hm
        refine gf_iinc (pc := 70) (Nat.le_of_ble_eq_true rfl) rfl (ti_rfl l4) (ti_c (by decide)) (by omega) (by omega) dX4_insFrom_70 (fun v13 e14 => ?_)
        refine go_lv (lv2 := [(0, .ref 49), (1, .int l1), (3, .int l3), (4, .int v13)]) rfl ?_
        refine go_goto (pc := 73) (tgt := 37) (by decide) dX4_insFrom_73 ?_
        have z15 : (v13 : Int32).toInt = (l4.toInt + 1) := e14
        exact go_lv rfl (ih.1 l1 l3 v13 hx hvx (by omega) (by omega) (by omega) (by omega) fxx (by omega))
  refine go_aload_n (pc := 0) rfl dX4_insFrom_0 ?_
  refine go_invV (pc := 1) (sl := 0) (s_X4_clearFound_f l (d + 1) hv ) mL_X4_88 iM_X4_clearFound sM_X4_clearFound (hv.sh rfl) rfl rfl rfl (Nat.le_of_ble_eq_true rfl) (show d + 1 + 2 + 1 ≤ d + 4 by omega) (show 8 + (1 + 11) + 40 * (d + 1 + 2) ≤ 40 * (d + 4) by omega) (g_c0 hv.ln) (Nat.le_of_ble_eq_true rfl) dX4_insFrom_1 ?_
  intro r h16 hq _
  obtain ⟨rfl, hv16, f17⟩ := hq
  have fx16 : FX KAc h h16 := FX.tr fx f17
  refine go_aload_n (pc := 4) rfl dX4_insFrom_4 ?_
  refine go_aload_n (pc := 5) rfl dX4_insFrom_5 ?_
  refine gi_getF (pc := 6) (q := 53) hv16 fL_X4_26 rfl (Nat.le_of_ble_eq_true rfl) rfl (hv16.rf (by decide)) dX4_insFrom_6 ?_
  refine go_bipush (pc := 9) (v := 7) (by decide) dX4_insFrom_9 ?_
  refine go_iload_n (pc := 11) rfl dX4_insFrom_11 ?_
  refine gf_iadd (pc := 12) (ti_c (v := 7) (a := 7) (by decide)) (ti_rfl a3) (by omega) (by omega) dX4_insFrom_12 (fun v18 e19 => ?_)
  refine go_bipush (pc := 13) (v := 40) (by decide) dX4_insFrom_13 ?_
  refine go_iload_n (pc := 15) rfl dX4_insFrom_15 ?_
  refine gf_iadd (pc := 16) (ti_c (v := 40) (a := 40) (by decide)) (ti_rfl a2) (by omega) (by omega) dX4_insFrom_16 (fun v20 e21 => ?_)
  refine go_invS (pc := 17) (sl := 0) (s_X7_bit_f l (d + 2) hv16 v20) mL_X4_91 iM_X7_bit rfl rfl (Nat.le_of_ble_eq_true rfl) (show d + 2 + 1 + 1 ≤ d + 4 by omega) (show 8 + (1 + 11) + 40 * (d + 2 + 1) ≤ 40 * (d + 4) by omega) (g_c0 hv16.ln) (Nat.le_of_ble_eq_true rfl) dX4_insFrom_17 ?_
  intro r h22 hq _
  obtain ⟨v24, rfl, rfl, f23⟩ := hq
  try rw [show (v20 : Int32).toInt = (40 + a2.toInt) from e21] at f23
  refine go_invV (pc := 20) (sl := 0) (s_X4_add_f l (d + 2) hv16 53 (by decide) v18 (by rw [show (v18 : Int32).toInt = (7 + a3.toInt) from e19]; omega) (by rw [show (v18 : Int32).toInt = (7 + a3.toInt) from e19]; omega) v24) mL_X4_94 iM_X4_add sM_X4_add (hv16.sh rfl) rfl rfl rfl (Nat.le_of_ble_eq_true rfl) (show d + 2 + 1 + 1 ≤ d + 4 by omega) (show 8 + (8 + 11) + 40 * (d + 2 + 1) ≤ 40 * (d + 4) by omega) (g_c0 hv16.ln) (Nat.le_of_ble_eq_true rfl) dX4_insFrom_20 ?_
  intro r h25 hq _
  obtain ⟨rfl, hv25, f26⟩ := hq
  try rw [show (v18 : Int32).toInt = (7 + a3.toInt) from e19] at f26
  have fx25 : FX KAc h h25 := FX.tr fx16 f26
  refine go_aload_n (pc := 23) rfl dX4_insFrom_23 ?_
  refine go_aload_n (pc := 24) rfl dX4_insFrom_24 ?_
  refine gi_getF (pc := 25) (q := 53) hv25 fL_X4_26 rfl (Nat.le_of_ble_eq_true rfl) rfl (hv25.rf (by decide)) dX4_insFrom_25 ?_
  refine go_iconst (pc := 28) (v := 0) (by decide) dX4_insFrom_28 ?_
  refine go_invV (pc := 29) (sl := 0) (s_X4_spread_f l (d + 0) hv25 53 (by decide) 0) mL_X4_98 iM_X4_spread sM_X4_spread (hv25.sh rfl) rfl rfl rfl (Nat.le_of_ble_eq_true rfl) (show d + 0 + 3 + 1 ≤ d + 4 by omega) (show 8 + (6 + 11) + 40 * (d + 0 + 3) ≤ 40 * (d + 4) by omega) (g_c0 hv25.ln) (Nat.le_of_ble_eq_true rfl) dX4_insFrom_29 ?_
  intro r h27 hq _
  obtain ⟨rfl, hv27, f28⟩ := hq
  try rw [show (0 : Int32).toInt = 0 from (ti_c (v := 0) (a := 0) (by decide))] at f28
  have fx27 : FX KAc h h27 := FX.tr fx25 f28
  refine go_iconst (pc := 32) (v := 0) (by decide) dX4_insFrom_32 ?_
  refine go_istore_n (pc := 33) (Nat.le_of_ble_eq_true rfl) dX4_insFrom_33 (go_lv (lv2 := [(0, .ref 49), (1, .int a2), (2, .int a3), (3, .int 0)]) rfl ?_)
  refine go_iconst (pc := 34) (v := 0) (by decide) dX4_insFrom_34 ?_
  refine go_istore (pc := 35) (Nat.le_of_ble_eq_true rfl) dX4_insFrom_35 (go_lv (lv2 := [(0, .ref 49), (1, .int a2), (2, .int a3), (3, .int 0), (4, .int 0)]) rfl ?_)
  have z29 : (0 : Int32).toInt = 0 := (ti_c (v := 0) (a := 0) (by decide))
  have z30 : (0 : Int32).toInt = 0 := (ti_c (v := 0) (a := 0) (by decide))
  exact go_lv rfl ((key 45).1 a2 0 0 h27 hv27 (by omega) (by omega) (by omega) (by omega) fx27 (by omega))
set_option maxHeartbeats 4000000 in
set_option maxRecDepth 100000 in
theorem s_X4_growThrough_f (l : Launch) (d : Nat) {P : PP} {h : HP} (hv : Iv P h)  : Mt l yX4_growThrough cX4_growThrough 5 (some .boolean) (d + 5) [.ref 49] h 0 0 (fun r h' => ∃ v : Int32, r = some (.int v) ∧ 0 ≤ v.toInt ∧ v.toInt ≤ 1 ∧ Iv P h' ∧ (FX KAc h h')) := by
  refine Mt_iv hv (by decide) (Nat.le_of_ble_eq_true rfl) ?_
  show Go l RX4 cX4_growThrough 5 (g_rm (d + 5) 0 0) "growThrough" (some .boolean) 117 0 0 (fun _ _ => True) (fun r h' => ∃ v : Int32, r = some (.int v) ∧ 0 ≤ v.toInt ∧ v.toInt ≤ 1 ∧ Iv P h' ∧ (FX KAc h h')) 0 0 [(0, .ref 49)] [] h
  have fx : FX KAc h h := FX.rfl
  have key : ∀ n : Nat, (∀ (l1 : Int32) (l2 : Int32) (hx : HP), Iv P hx → 0 ≤ l1.toInt → l1.toInt ≤ 1 → 0 ≤ l2.toInt → l2.toInt ≤ 5 → FX KAc h hx → (35 * (5 - l2.toInt) + 34 : Int) < n → Go l RX4 cX4_growThrough 5 (g_rm (d + 5) 0 0) "growThrough" (some .boolean) 117 0 0 (fun _ _ => True) (fun r h' => ∃ v : Int32, r = some (.int v) ∧ 0 ≤ v.toInt ∧ v.toInt ≤ 1 ∧ Iv P h' ∧ (FX KAc h h')) 0 4 [(0, .ref 49), (1, .int l1), (2, .int l2)] [] hx) ∧ (∀ (l1 : Int32) (l2 : Int32) (l3 : Int32) (hx : HP), Iv P hx → 0 ≤ l1.toInt → l1.toInt ≤ 1 → 0 ≤ l2.toInt → l2.toInt ≤ 4 → 0 ≤ l3.toInt → l3.toInt ≤ 6 → FX KAc h hx → (4 * (6 - l3.toInt) + 35 * (5 - l2.toInt) + 4 : Int) < n → Go l RX4 cX4_growThrough 5 (g_rm (d + 5) 0 0) "growThrough" (some .boolean) 117 0 0 (fun _ _ => True) (fun r h' => ∃ v : Int32, r = some (.int v) ∧ 0 ≤ v.toInt ∧ v.toInt ≤ 1 ∧ Iv P h' ∧ (FX KAc h h')) 0 17 [(0, .ref 49), (1, .int l1), (2, .int l2), (3, .int l3)] [] hx) ∧ (∀ (l2 : Int32) (l3 : Int32) (l4 : Int32) (s0 : Int32) (s1 : Int32) (hx : HP), Iv P hx → 0 ≤ l2.toInt → l2.toInt ≤ 4 → 0 ≤ l3.toInt → l3.toInt ≤ 5 → 0 ≤ s0.toInt → s0.toInt ≤ 1 → 0 ≤ s1.toInt → s1.toInt ≤ 1 → FX KAc h hx → (4 * (6 - l3.toInt) + 35 * (5 - l2.toInt) + 3 : Int) < n → Go l RX4 cX4_growThrough 5 (g_rm (d + 5) 0 0) "growThrough" (some .boolean) 117 0 0 (fun _ _ => True) (fun r h' => ∃ v : Int32, r = some (.int v) ∧ 0 ≤ v.toInt ∧ v.toInt ≤ 1 ∧ Iv P h' ∧ (FX KAc h h')) 0 53 [(0, .ref 49), (2, .int l2), (3, .int l3), (4, .int l4)] [.int s0, .int s1] hx) := by
    intro n
    induction n with
    | zero => exact ⟨(by intros; omega), (by intros; omega), (by intros; omega)⟩
    | succ n ih =>
      refine ⟨?_, ?_, ?_⟩
      ·
        intro l1 l2 hx hvx l1l l1u l2l l2u fxx hm
        refine go_iload_n (pc := 4) rfl dX4_growThrough_4 ?_
        refine go_aload_n (pc := 5) rfl dX4_growThrough_5 ?_
        refine gi_getC (pc := 6) hvx fL_X4_58 rfl (Nat.le_of_ble_eq_true rfl) rfl (by decide) dX4_growThrough_6 (fun c1 hc1 fc1 => ?_)
        refine gi_get (pc := 9) (lo := 0) (hi := 5) hvx fL_X4_65 (by rcases hc1 with rfl | rfl <;> rfl) (Nat.le_of_ble_eq_true rfl) rfl (by rcases hc1 with rfl | rfl <;> rfl) dX4_growThrough_9 (fun v2 v2l v2u v2w => ?_)
        refine gf_icmp_ge (pc := 12) (tgt := 80) (ti_rfl l2) (ti_rfl v2) (by decide) dX4_growThrough_12 (fun q3 => ?_) (fun q3 => ?_)
        ·
          refine go_iload_n (pc := 80) rfl dX4_growThrough_80 ?_
          exact gi_zret (pc := 81) (ti_rfl l1) (by omega) (by omega) ⟨_, rfl, (by rw [show (l1 : Int32).toInt = l1.toInt from (ti_rfl l1)]; omega), (by rw [show (l1 : Int32).toInt = l1.toInt from (ti_rfl l1)]; omega), hvx, fxx⟩ hvx dX4_growThrough_81
        ·
          refine go_iconst (pc := 15) (v := 0) (by decide) dX4_growThrough_15 ?_
          refine go_istore_n (pc := 16) (Nat.le_of_ble_eq_true rfl) dX4_growThrough_16 (go_lv (lv2 := [(0, .ref 49), (1, .int l1), (2, .int l2), (3, .int 0)]) rfl ?_)
          have z4 : (0 : Int32).toInt = 0 := (ti_c (v := 0) (a := 0) (by decide))
          exact go_lv rfl (ih.2.1 l1 l2 0 hx hvx (by omega) (by omega) (by omega) (by omega) (by omega) (by omega) fxx (by omega))
      ·
        intro l1 l2 l3 hx hvx l1l l1u l2l l2u l3l l3u fxx hm
        refine go_iload_n (pc := 17) rfl dX4_growThrough_17 ?_
        refine go_bipush (pc := 18) (v := 6) (by decide) dX4_growThrough_18 ?_
        refine gf_icmp_ge (pc := 20) (tgt := 74) (ti_rfl l3) (ti_c (v := 6) (a := 6) (by decide)) (by decide) dX4_growThrough_20 (fun q5 => ?_) (fun q5 => ?_)
        ·
          refine gf_iinc (pc := 74) (Nat.le_of_ble_eq_true rfl) rfl (ti_rfl l2) (ti_c (by decide)) (by omega) (by omega) dX4_growThrough_74 (fun v6 e7 => ?_)
          refine go_lv (lv2 := [(0, .ref 49), (1, .int l1), (2, .int v6), (3, .int l3)]) rfl ?_
          refine go_goto (pc := 77) (tgt := 4) (by decide) dX4_growThrough_77 ?_
          have z8 : (v6 : Int32).toInt = (l2.toInt + 1) := e7
          exact go_lv rfl (ih.1 l1 v6 hx hvx (by omega) (by omega) (by omega) (by omega) fxx (by omega))
        ·
          refine go_aload_n (pc := 23) rfl dX4_growThrough_23 ?_
          refine go_iload_n (pc := 24) rfl dX4_growThrough_24 ?_
          refine go_iload_n (pc := 25) rfl dX4_growThrough_25 ?_
          refine go_invV (pc := 26) (sl := 0) (s_X4_insFrom_f l (d + 0) hvx l2 (by rw [show (l2 : Int32).toInt = l2.toInt from (ti_rfl l2)]; omega) (by rw [show (l2 : Int32).toInt = l2.toInt from (ti_rfl l2)]; omega) l3 (by rw [show (l3 : Int32).toInt = l3.toInt from (ti_rfl l3)]; omega) (by rw [show (l3 : Int32).toInt = l3.toInt from (ti_rfl l3)]; omega)) mL_X4_84 iM_X4_insFrom sM_X4_insFrom (hvx.sh rfl) rfl rfl rfl (Nat.le_of_ble_eq_true rfl) (show d + 0 + 4 + 1 ≤ d + 5 by omega) (show 8 + (5 + 11) + 40 * (d + 0 + 4) ≤ 40 * (d + 5) by omega) (g_c0 hvx.ln) (Nat.le_of_ble_eq_true rfl) dX4_growThrough_26 ?_
          intro r h9 hq _
          obtain ⟨v11, rfl, v11l, v11u, hv9, f10⟩ := hq
          have fx9 : FX KAc h h9 := FX.tr fxx f10
          refine go_istore (pc := 29) (Nat.le_of_ble_eq_true rfl) dX4_growThrough_29 (go_lv (lv2 := [(0, .ref 49), (1, .int l1), (2, .int l2), (3, .int l3), (4, .int v11)]) rfl ?_)
          refine go_iload_n (pc := 31) rfl dX4_growThrough_31 ?_
          refine go_iload (pc := 32) rfl dX4_growThrough_32 ?_
          refine go_aload_n (pc := 34) rfl dX4_growThrough_34 ?_
          refine gi_getF (pc := 35) (q := 51) hv9 fL_X4_19 rfl (Nat.le_of_ble_eq_true rfl) rfl (hv9.rf (by decide)) dX4_growThrough_35 ?_
          refine go_iload_n (pc := 38) rfl dX4_growThrough_38 ?_
          refine go_bipush (pc := 39) (v := 6) (by decide) dX4_growThrough_39 ?_
          refine gf_imul (pc := 41) (ti_rfl l2) (ti_c (v := 6) (a := 6) (by decide)) (by omega) (by omega) dX4_growThrough_41 (fun v12 e13 => ?_)
          refine go_iload_n (pc := 42) rfl dX4_growThrough_42 ?_
          refine gf_iadd (pc := 43) e13 (ti_rfl l3) (by omega) (by omega) dX4_growThrough_43 (fun v14 e15 => ?_)
          refine gi_iald (pc := 44) (lo := -2147483648) (hi := 2147483647) (len := 30) hv9 e15 rfl (by omega) (by omega) (fun _ => rfl) dX4_growThrough_44 (fun v16 v16l v16u v16w => ?_)
          refine gf_icmp_eq (pc := 45) (tgt := 52) (ti_rfl v11) (ti_rfl v16) (by decide) dX4_growThrough_45 (fun q17 => ?_) (fun q17 => ?_)
          ·
            refine go_iconst (pc := 52) (v := 0) (by decide) dX4_growThrough_52 ?_
            have z18 : (0 : Int32).toInt = 0 := (ti_c (v := 0) (a := 0) (by decide))
            exact go_lv rfl (ih.2.2 l2 l3 v11 0 l1 h9 hv9 (by omega) (by omega) (by omega) (by omega) (by omega) (by omega) (by omega) (by omega) fx9 (by omega))
          ·
            refine go_iconst (pc := 48) (v := 1) (by decide) dX4_growThrough_48 ?_
            refine go_goto (pc := 49) (tgt := 53) (by decide) dX4_growThrough_49 ?_
            have z19 : (1 : Int32).toInt = 1 := (ti_c (v := 1) (a := 1) (by decide))
            exact go_lv rfl (ih.2.2 l2 l3 v11 1 l1 h9 hv9 (by omega) (by omega) (by omega) (by omega) (by omega) (by omega) (by omega) (by omega) fx9 (by omega))
      ·
        intro l2 l3 l4 s0 s1 hx hvx l2l l2u l3l l3u s0l s0u s1l s1u fxx hm
        refine gf_ior (pc := 53) (ti_rfl s1) (ti_rfl s0) (by omega) (by omega) (by omega) (by omega) dX4_growThrough_53 (fun v20 v20l v20u => ?_)
        refine go_istore_n (pc := 54) (Nat.le_of_ble_eq_true rfl) dX4_growThrough_54 (go_lv (lv2 := [(0, .ref 49), (1, .int v20), (2, .int l2), (3, .int l3), (4, .int l4)]) rfl ?_)
        refine go_aload_n (pc := 55) rfl dX4_growThrough_55 ?_
        refine gi_getF (pc := 56) (q := 51) hvx fL_X4_19 rfl (Nat.le_of_ble_eq_true rfl) rfl (hvx.rf (by decide)) dX4_growThrough_56 ?_
        refine go_iload_n (pc := 59) rfl dX4_growThrough_59 ?_
        refine go_bipush (pc := 60) (v := 6) (by decide) dX4_growThrough_60 ?_
        refine gf_imul (pc := 62) (ti_rfl l2) (ti_c (v := 6) (a := 6) (by decide)) (by omega) (by omega) dX4_growThrough_62 (fun v21 e22 => ?_)
        refine go_iload_n (pc := 63) rfl dX4_growThrough_63 ?_
        refine gf_iadd (pc := 64) e22 (ti_rfl l3) (by omega) (by omega) dX4_growThrough_64 (fun v23 e24 => ?_)
        refine go_iload (pc := 65) rfl dX4_growThrough_65 ?_
        refine gi_iast (pc := 67) (lo := -2147483648) (hi := 2147483647) (len := 30) hvx e24 (ti_rfl l4) rfl (by omega) (by omega) (fun _ => rfl) (ti_ge (ti_rfl l4)) (ti_le2 (ti_rfl l4)) (by decide) dX4_growThrough_67 (fun h25 hv25 hv25e => ?_)
        have fx25 : FX KAc h h25 := FX.pI fxx hv25e (by unfold KAc; omega)
        refine gf_iinc (pc := 68) (Nat.le_of_ble_eq_true rfl) rfl (ti_rfl l3) (ti_c (by decide)) (by omega) (by omega) dX4_growThrough_68 (fun v26 e27 => ?_)
        refine go_lv (lv2 := [(0, .ref 49), (1, .int v20), (2, .int l2), (3, .int v26), (4, .int l4)]) rfl ?_
        refine go_goto (pc := 71) (tgt := 17) (by decide) dX4_growThrough_71 ?_
        have z28 : (v26 : Int32).toInt = (l3.toInt + 1) := e27
        exact go_lv rfl (ih.2.1 v20 l2 v26 h25 hv25 (by omega) (by omega) (by omega) (by omega) (by omega) (by omega) fx25 (by omega))
  refine go_iconst (pc := 0) (v := 0) (by decide) dX4_growThrough_0 ?_
  refine go_istore_n (pc := 1) (Nat.le_of_ble_eq_true rfl) dX4_growThrough_1 (go_lv (lv2 := [(0, .ref 49), (1, .int 0)]) rfl ?_)
  refine go_iconst (pc := 2) (v := 0) (by decide) dX4_growThrough_2 ?_
  refine go_istore_n (pc := 3) (Nat.le_of_ble_eq_true rfl) dX4_growThrough_3 (go_lv (lv2 := [(0, .ref 49), (1, .int 0), (2, .int 0)]) rfl ?_)
  have z29 : (0 : Int32).toInt = 0 := (ti_c (v := 0) (a := 0) (by decide))
  have z30 : (0 : Int32).toInt = 0 := (ti_c (v := 0) (a := 0) (by decide))
  exact go_lv rfl ((key 258).1 0 0 h hv (by omega) (by omega) (by omega) (by omega) fx (by omega))
set_option maxHeartbeats 4000000 in
set_option maxRecDepth 100000 in
theorem s_X4_prepare_f (l : Launch) (d : Nat) {P : PP} {h : HP} (hv : Iv P h) (c2 : Nat) (hc2 : c2 = 2 ∨ c2 = 18) : Mt l yX4_prepare cX4_prepare 4 none (d + 6) [.ref 49, .ref c2] h 0 0 (fun r h' => r = none ∧ Iv P h' ∧ (FX KAc h h')) := by
  refine Mt_iv hv (by decide) (Nat.le_of_ble_eq_true rfl) ?_
  show Go l RX4 cX4_prepare 4 (g_rm (d + 6) 0 0) "prepare" none 117 0 0 (fun _ _ => True) (fun r h' => r = none ∧ Iv P h' ∧ (FX KAc h h')) 0 0 [(0, .ref 49), (1, .ref c2)] [] h
  have fx : FX KAc h h := FX.rfl
  have key : ∀ n : Nat, (∀ (l2 : Int32) (hx : HP), Iv P hx → 0 ≤ l2.toInt → l2.toInt ≤ 5 → FX KAc h hx → (3 * (5 - l2.toInt) + 729 : Int) < n → Go l RX4 cX4_prepare 4 (g_rm (d + 6) 0 0) "prepare" none 117 0 0 (fun _ _ => True) (fun r h' => r = none ∧ Iv P h' ∧ (FX KAc h h')) 0 41 [(0, .ref 49), (2, .int l2)] [] hx) ∧ (∀ (l2 : Int32) (l3 : Int32) (hx : HP), Iv P hx → 0 ≤ l2.toInt → l2.toInt ≤ 1 → 0 ≤ l3.toInt → l3.toInt ≤ 240 → FX KAc h hx → (3 * (240 - l3.toInt) + 3 : Int) < n → Go l RX4 cX4_prepare 4 (g_rm (d + 6) 0 0) "prepare" none 117 0 0 (fun _ _ => True) (fun r h' => r = none ∧ Iv P h' ∧ (FX KAc h h')) 0 84 [(0, .ref 49), (2, .int l2), (3, .int l3)] [] hx) ∧ (∀  (hx : HP), Iv P hx → FX KAc h hx → (1 : Int) < n → Go l RX4 cX4_prepare 4 (g_rm (d + 6) 0 0) "prepare" none 117 0 0 (fun _ _ => True) (fun r h' => r = none ∧ Iv P h' ∧ (FX KAc h h')) 0 106 [] [] hx) := by
    intro n
    induction n with
    | zero => exact ⟨(by intros; omega), (by intros; omega), (by intros; omega)⟩
    | succ n ih =>
      refine ⟨?_, ?_, ?_⟩
      ·
        intro l2 hx hvx l2l l2u fxx hm
        refine go_iload_n (pc := 41) rfl dX4_prepare_41 ?_
        refine go_aload_n (pc := 42) rfl dX4_prepare_42 ?_
        refine gi_getC (pc := 43) hvx fL_X4_58 rfl (Nat.le_of_ble_eq_true rfl) rfl (by decide) dX4_prepare_43 (fun c1 hc1 fc1 => ?_)
        refine gi_get (pc := 46) (lo := 0) (hi := 5) hvx fL_X4_65 (by rcases hc1 with rfl | rfl <;> rfl) (Nat.le_of_ble_eq_true rfl) rfl (by rcases hc1 with rfl | rfl <;> rfl) dX4_prepare_46 (fun v2 v2l v2u v2w => ?_)
        refine gf_icmp_ge (pc := 49) (tgt := 72) (ti_rfl l2) (ti_rfl v2) (by decide) dX4_prepare_49 (fun q3 => ?_) (fun q3 => ?_)
        ·
          refine go_aload_n (pc := 72) rfl dX4_prepare_72 ?_
          refine gi_getF (pc := 73) (q := 51) hvx fL_X4_19 rfl (Nat.le_of_ble_eq_true rfl) rfl (hvx.rf (by decide)) dX4_prepare_73 ?_
          refine go_iconst (pc := 76) (v := 0) (by decide) dX4_prepare_76 ?_
          refine go_invS (pc := 77) (sl := 0) (s_J7_fill_53178_at51_f l (d + 4) hvx 0) mL_X4_74 iM_J7_fill_53178 rfl rfl (Nat.le_of_ble_eq_true rfl) (show d + 4 + 1 + 1 ≤ d + 6 by omega) (show 8 + (4 + 11) + 40 * (d + 4 + 1) ≤ 40 * (d + 6) by omega) (g_c0 hvx.ln) (Nat.le_of_ble_eq_true rfl) dX4_prepare_77 ?_
          intro r h4 hq _
          obtain ⟨rfl, hv4, f5⟩ := hq
          try rw [show (0 : Int32).toInt = 0 from (ti_c (v := 0) (a := 0) (by decide))] at f5
          have fx4 : FX KAc h h4 := FX.tr fxx f5
          refine go_iconst (pc := 80) (v := 1) (by decide) dX4_prepare_80 ?_
          refine go_istore_n (pc := 81) (Nat.le_of_ble_eq_true rfl) dX4_prepare_81 (go_lv (lv2 := [(0, .ref 49), (2, .int 1)]) rfl ?_)
          refine go_iconst (pc := 82) (v := 0) (by decide) dX4_prepare_82 ?_
          refine go_istore_n (pc := 83) (Nat.le_of_ble_eq_true rfl) dX4_prepare_83 (go_lv (lv2 := [(0, .ref 49), (2, .int 1), (3, .int 0)]) rfl ?_)
          have z6 : (1 : Int32).toInt = 1 := (ti_c (v := 1) (a := 1) (by decide))
          have z7 : (0 : Int32).toInt = 0 := (ti_c (v := 0) (a := 0) (by decide))
          exact go_lv rfl (ih.2.1 1 0 h4 hv4 (by omega) (by omega) (by omega) (by omega) fx4 (by omega))
        ·
          refine go_aload_n (pc := 52) rfl dX4_prepare_52 ?_
          refine gi_getF (pc := 53) (q := 50) hvx fL_X4_15 rfl (Nat.le_of_ble_eq_true rfl) rfl (hvx.rf (by decide)) dX4_prepare_53 ?_
          refine go_iload_n (pc := 56) rfl dX4_prepare_56 ?_
          refine go_aload_n (pc := 57) rfl dX4_prepare_57 ?_
          refine gi_getC (pc := 58) hvx fL_X4_58 rfl (Nat.le_of_ble_eq_true rfl) rfl (by decide) dX4_prepare_58 (fun c8 hc8 fc8 => ?_)
          refine go_iload_n (pc := 61) rfl dX4_prepare_61 ?_
          refine go_invV (pc := 62) (sl := 0) (s_X0_callsOf l (d + 3) hvx c8 hc8 l2) mL_X4_70 iM_X0_callsOf sM_X0_callsOf (hvx.sh (by rcases hc8 with rfl | rfl <;> rfl)) rfl rfl rfl (Nat.le_of_ble_eq_true rfl) (show d + 3 + 2 + 1 ≤ d + 6 by omega) (show 8 + (5 + 11) + 40 * (d + 3 + 2) ≤ 40 * (d + 6) by omega) (g_c0 hvx.ln) (Nat.le_of_ble_eq_true rfl) dX4_prepare_62 ?_
          intro r h9 hq _
          obtain ⟨v10, rfl, rfl⟩ := hq
          refine gi_last (pc := 65) (len := 5) hvx (ti_rfl l2) rfl (by omega) (by omega) dX4_prepare_65 (fun h11 hv11 hv11e => ?_)
          have fx11 : FX KAc h h11 := FX.pL fxx hv11e (by unfold KAc; omega)
          refine gf_iinc (pc := 66) (Nat.le_of_ble_eq_true rfl) rfl (ti_rfl l2) (ti_c (by decide)) (by omega) (by omega) dX4_prepare_66 (fun v12 e13 => ?_)
          refine go_lv (lv2 := [(0, .ref 49), (2, .int v12)]) rfl ?_
          refine go_goto (pc := 69) (tgt := 41) (by decide) dX4_prepare_69 ?_
          have z14 : (v12 : Int32).toInt = (l2.toInt + 1) := e13
          exact go_lv rfl (ih.1 v12 h11 hv11 (by omega) (by omega) fx11 (by omega))
      ·
        intro l2 l3 hx hvx l2l l2u l3l l3u fxx hm
        refine go_iload_n (pc := 84) rfl dX4_prepare_84 ?_
        refine go_sipush (pc := 85) (v := 180) (by decide) dX4_prepare_85 ?_
        refine gf_icmp_gt (pc := 88) (tgt := 106) (ti_rfl l3) (ti_c (v := 180) (a := 180) (by decide)) (by decide) dX4_prepare_88 (fun q15 => ?_) (fun q15 => ?_)
        ·
          exact go_lv rfl (ih.2.2  hx hvx fxx (by omega))
        ·
          refine go_iload_n (pc := 91) rfl dX4_prepare_91 ?_
          refine gf_if_eq (pc := 92) (tgt := 106) (ti_rfl l2) (by decide) dX4_prepare_92 (fun q16 => ?_) (fun q16 => ?_)
          ·
            exact go_lv rfl (ih.2.2  hx hvx fxx (by omega))
          ·
            refine go_aload_n (pc := 95) rfl dX4_prepare_95 ?_
            refine go_invV (pc := 96) (sl := 0) (s_X4_growThrough_f l (d + 0) hvx ) mL_X4_80 iM_X4_growThrough sM_X4_growThrough (hvx.sh rfl) rfl rfl rfl (Nat.le_of_ble_eq_true rfl) (show d + 0 + 5 + 1 ≤ d + 6 by omega) (show 8 + (5 + 11) + 40 * (d + 0 + 5) ≤ 40 * (d + 6) by omega) (g_c0 hvx.ln) (Nat.le_of_ble_eq_true rfl) dX4_prepare_96 ?_
            intro r h17 hq _
            obtain ⟨v19, rfl, v19l, v19u, hv17, f18⟩ := hq
            have fx17 : FX KAc h h17 := FX.tr fxx f18
            refine go_istore_n (pc := 99) (Nat.le_of_ble_eq_true rfl) dX4_prepare_99 (go_lv (lv2 := [(0, .ref 49), (2, .int v19), (3, .int l3)]) rfl ?_)
            refine gf_iinc (pc := 100) (Nat.le_of_ble_eq_true rfl) rfl (ti_rfl l3) (ti_c (by decide)) (by omega) (by omega) dX4_prepare_100 (fun v20 e21 => ?_)
            refine go_lv (lv2 := [(0, .ref 49), (2, .int v19), (3, .int v20)]) rfl ?_
            refine go_goto (pc := 103) (tgt := 84) (by decide) dX4_prepare_103 ?_
            have z22 : (v20 : Int32).toInt = (l3.toInt + 1) := e21
            exact go_lv rfl (ih.2.1 v19 v20 h17 hv17 (by omega) (by omega) (by omega) (by omega) fx17 (by omega))
      ·
        intro hx hvx fxx hm
        exact gi_vret (pc := 106) ⟨rfl, hvx, fxx⟩ hvx dX4_prepare_106
  refine go_aload_n (pc := 0) rfl dX4_prepare_0 ?_
  refine gi_get (pc := 1) (lo := 0) (hi := 1) hv fL_X4_9 rfl (Nat.le_of_ble_eq_true rfl) rfl rfl dX4_prepare_1 (fun v23 v23l v23u v23w => ?_)
  refine gf_if_eq (pc := 4) (tgt := 8) (ti_rfl v23) (by decide) dX4_prepare_4 (fun q24 => ?_) (fun q24 => ?_)
  ·
    refine go_aload_n (pc := 8) rfl dX4_prepare_8 ?_
    refine go_iconst (pc := 9) (v := 1) (by decide) dX4_prepare_9 ?_
    refine gi_put (pc := 10) (lo := 0) (hi := 1) hv (ti_c (v := 1) (a := 1) (by decide)) (fP_X4_9 _) rfl (Nat.le_of_ble_eq_true rfl) rfl rfl (by omega) (by omega) (ti_nb (by rw [show (1 : Int32).toInt = 1 from (ti_c (v := 1) (a := 1) (by decide))]; omega) (by rw [show (1 : Int32).toInt = 1 from (ti_c (v := 1) (a := 1) (by decide))]; omega)) (ti_fb (by rw [show (1 : Int32).toInt = 1 from (ti_c (v := 1) (a := 1) (by decide))]; omega) (by rw [show (1 : Int32).toInt = 1 from (ti_c (v := 1) (a := 1) (by decide))]; omega)) (by decide) (by decide) (by decide) (by decide) dX4_prepare_10 (fun h25 hv25 hv25e => ?_)
    have fx25 : FX KAc h h25 := FX.pI fx hv25e (by unfold KAc; omega)
    refine go_aload_n (pc := 13) rfl dX4_prepare_13 ?_
    refine go_aload_n (pc := 14) rfl dX4_prepare_14 ?_
    refine gi_putC (pc := 15) hv25 hc2 (fP_X4_58 _) rfl (Nat.le_of_ble_eq_true rfl) rfl (fun _ => rfl) (fun _ => rfl) (by decide) (by decide) (by decide) (by decide) dX4_prepare_15 (fun h26 hv26 hv26e => ?_)
    have fx26 : FX KAc h h26 := FX.pR fx25 hv26e (by unfold KAc; omega)
    refine go_aload_n (pc := 18) rfl dX4_prepare_18 ?_
    refine gi_getF (pc := 19) (q := 57) hv26 fL_X4_54 rfl (Nat.le_of_ble_eq_true rfl) rfl (hv26.rf (by decide)) dX4_prepare_19 ?_
    refine go_aload_n (pc := 22) rfl dX4_prepare_22 ?_
    refine gi_getC (pc := 23) hv26 fL_X4_58 rfl (Nat.le_of_ble_eq_true rfl) rfl (by decide) dX4_prepare_23 (fun c27 hc27 fc27 => ?_)
    refine go_invV (pc := 26) (sl := 0) (s_X1_build_f l (d + 0) hv26 c27 hc27) mL_X4_62 iM_X1_build sM_X1_build (hv26.sh rfl) rfl rfl rfl (Nat.le_of_ble_eq_true rfl) (show d + 0 + 5 + 1 ≤ d + 6 by omega) (show 8 + (3 + 11) + 40 * (d + 0 + 5) ≤ 40 * (d + 6) by omega) (g_c0 hv26.ln) (Nat.le_of_ble_eq_true rfl) dX4_prepare_26 ?_
    intro r h28 hq _
    obtain ⟨rfl, hv28, f29⟩ := hq
    have fx28 : FX KAc h h28 := FX.tr fx26 f29
    refine go_aload_n (pc := 29) rfl dX4_prepare_29 ?_
    refine go_lconst (pc := 30) (v := 0) (by decide) dX4_prepare_30 ?_
    refine gi_putL (pc := 31) hv28 (fP_X4_39 _) rfl (Nat.le_of_ble_eq_true rfl) rfl rfl rfl dX4_prepare_31 (fun h30 hv30 hv30e => ?_)
    have fx30 : FX KAc h h30 := FX.pL fx28 hv30e (by unfold KAc; omega)
    refine go_aload_n (pc := 34) rfl dX4_prepare_34 ?_
    refine go_lconst (pc := 35) (v := 0) (by decide) dX4_prepare_35 ?_
    refine gi_putL (pc := 36) hv30 (fP_X4_46 _) rfl (Nat.le_of_ble_eq_true rfl) rfl rfl rfl dX4_prepare_36 (fun h31 hv31 hv31e => ?_)
    have fx31 : FX KAc h h31 := FX.pL fx30 hv31e (by unfold KAc; omega)
    refine go_iconst (pc := 39) (v := 0) (by decide) dX4_prepare_39 ?_
    refine go_istore_n (pc := 40) (Nat.le_of_ble_eq_true rfl) dX4_prepare_40 (go_lv (lv2 := [(0, .ref 49), (1, .ref c2), (2, .int 0)]) rfl ?_)
    have z32 : (0 : Int32).toInt = 0 := (ti_c (v := 0) (a := 0) (by decide))
    exact go_lv rfl ((key 761).1 0 h31 hv31 (by omega) (by omega) fx31 (by omega))
  ·
    exact gi_vret (pc := 7) ⟨rfl, hv, fx⟩ hv dX4_prepare_7
set_option maxHeartbeats 4000000 in
set_option maxRecDepth 100000 in
theorem s_X4_findOn_f (l : Launch) (d : Nat) {P : PP} {h : HP} (hv : Iv P h)  : Mt l yX4_findOn cX4_findOn 2 none (d + 4) [.ref 49] h 0 0 (fun r h' => r = none ∧ Iv P h' ∧ (FX KAc h h')) := by
  refine Mt_iv hv (by decide) (Nat.le_of_ble_eq_true rfl) ?_
  show Go l RX4 cX4_findOn 2 (g_rm (d + 4) 0 0) "findOn" none 117 0 0 (fun _ _ => True) (fun r h' => r = none ∧ Iv P h' ∧ (FX KAc h h')) 0 0 [(0, .ref 49)] [] h
  have fx : FX KAc h h := FX.rfl
  have key : ∀ n : Nat, (∀ (l1 : Int32) (hx : HP), Iv P hx → 0 ≤ l1.toInt → l1.toInt ≤ 13 → FX KAc h hx → (3 * (13 - l1.toInt) + 2 : Int) < n → Go l RX4 cX4_findOn 2 (g_rm (d + 4) 0 0) "findOn" none 117 0 0 (fun _ _ => True) (fun r h' => r = none ∧ Iv P h' ∧ (FX KAc h h')) 0 11 [(0, .ref 49), (1, .int l1)] [] hx) := by
    intro n
    induction n with
    | zero => exact (by intros; omega)
    | succ n ih =>
      refine ?_
      ·
        intro l1 hx hvx l1l l1u fxx hm
        refine go_iload_n (pc := 11) rfl dX4_findOn_11 ?_
        refine go_bipush (pc := 12) (v := 13) (by decide) dX4_findOn_12 ?_
        refine gf_icmp_ge (pc := 14) (tgt := 38) (ti_rfl l1) (ti_c (v := 13) (a := 13) (by decide)) (by decide) dX4_findOn_14 (fun q1 => ?_) (fun q1 => ?_)
        ·
          refine go_aload_n (pc := 38) rfl dX4_findOn_38 ?_
          refine go_aload_n (pc := 39) rfl dX4_findOn_39 ?_
          refine gi_getF (pc := 40) (q := 53) hvx fL_X4_26 rfl (Nat.le_of_ble_eq_true rfl) rfl (hvx.rf (by decide)) dX4_findOn_40 ?_
          refine go_iconst (pc := 43) (v := 2) (by decide) dX4_findOn_43 ?_
          refine go_invV (pc := 44) (sl := 0) (s_X4_spread_f l (d + 0) hvx 53 (by decide) 2) mL_X4_98 iM_X4_spread sM_X4_spread (hvx.sh rfl) rfl rfl rfl (Nat.le_of_ble_eq_true rfl) (show d + 0 + 3 + 1 ≤ d + 4 by omega) (show 8 + (6 + 11) + 40 * (d + 0 + 3) ≤ 40 * (d + 4) by omega) (g_c0 hvx.ln) (Nat.le_of_ble_eq_true rfl) dX4_findOn_44 ?_
          intro r h2 hq _
          obtain ⟨rfl, hv2, f3⟩ := hq
          try rw [show (2 : Int32).toInt = 2 from (ti_c (v := 2) (a := 2) (by decide))] at f3
          have fx2 : FX KAc h h2 := FX.tr fxx f3
          exact gi_vret (pc := 47) ⟨rfl, hv2, fx2⟩ hv2 dX4_findOn_47
        ·
          refine go_aload_n (pc := 17) rfl dX4_findOn_17 ?_
          refine go_aload_n (pc := 18) rfl dX4_findOn_18 ?_
          refine gi_getF (pc := 19) (q := 53) hvx fL_X4_26 rfl (Nat.le_of_ble_eq_true rfl) rfl (hvx.rf (by decide)) dX4_findOn_19 ?_
          refine go_iload_n (pc := 22) rfl dX4_findOn_22 ?_
          refine go_aload_n (pc := 23) rfl dX4_findOn_23 ?_
          refine gi_getF (pc := 24) (q := 52) hvx fL_X4_23 rfl (Nat.le_of_ble_eq_true rfl) rfl (hvx.rf (by decide)) dX4_findOn_24 ?_
          refine go_iload_n (pc := 27) rfl dX4_findOn_27 ?_
          refine gi_lald (pc := 28) (len := 13) hvx (ti_rfl l1) rfl (by omega) (by omega) dX4_findOn_28 (fun v4 v4w => ?_)
          refine go_invV (pc := 29) (sl := 0) (s_X4_add_f l (d + 2) hvx 53 (by decide) l1 (by rw [show (l1 : Int32).toInt = l1.toInt from (ti_rfl l1)]; omega) (by rw [show (l1 : Int32).toInt = l1.toInt from (ti_rfl l1)]; omega) v4) mL_X4_94 iM_X4_add sM_X4_add (hvx.sh rfl) rfl rfl rfl (Nat.le_of_ble_eq_true rfl) (show d + 2 + 1 + 1 ≤ d + 4 by omega) (show 8 + (8 + 11) + 40 * (d + 2 + 1) ≤ 40 * (d + 4) by omega) (g_c0 hvx.ln) (Nat.le_of_ble_eq_true rfl) dX4_findOn_29 ?_
          intro r h5 hq _
          obtain ⟨rfl, hv5, f6⟩ := hq
          have fx5 : FX KAc h h5 := FX.tr fxx f6
          refine gf_iinc (pc := 32) (Nat.le_of_ble_eq_true rfl) rfl (ti_rfl l1) (ti_c (by decide)) (by omega) (by omega) dX4_findOn_32 (fun v7 e8 => ?_)
          refine go_lv (lv2 := [(0, .ref 49), (1, .int v7)]) rfl ?_
          refine go_goto (pc := 35) (tgt := 11) (by decide) dX4_findOn_35 ?_
          have z9 : (v7 : Int32).toInt = (l1.toInt + 1) := e8
          exact go_lv rfl (ih v7 h5 hv5 (by omega) (by omega) fx5 (by omega))
  refine go_aload_n (pc := 0) rfl dX4_findOn_0 ?_
  refine go_aload_n (pc := 1) rfl dX4_findOn_1 ?_
  refine gi_getF (pc := 2) (q := 52) hv fL_X4_23 rfl (Nat.le_of_ble_eq_true rfl) rfl (hv.rf (by decide)) dX4_findOn_2 ?_
  refine go_iconst (pc := 5) (v := 1) (by decide) dX4_findOn_5 ?_
  refine go_invV (pc := 6) (sl := 0) (s_X4_spread_f l (d + 0) hv 52 (by decide) 1) mL_X4_98 iM_X4_spread sM_X4_spread (hv.sh rfl) rfl rfl rfl (Nat.le_of_ble_eq_true rfl) (show d + 0 + 3 + 1 ≤ d + 4 by omega) (show 8 + (6 + 11) + 40 * (d + 0 + 3) ≤ 40 * (d + 4) by omega) (g_c0 hv.ln) (Nat.le_of_ble_eq_true rfl) dX4_findOn_6 ?_
  intro r h10 hq _
  obtain ⟨rfl, hv10, f11⟩ := hq
  try rw [show (1 : Int32).toInt = 1 from (ti_c (v := 1) (a := 1) (by decide))] at f11
  have fx10 : FX KAc h h10 := FX.tr fx f11
  refine go_iconst (pc := 9) (v := 0) (by decide) dX4_findOn_9 ?_
  refine go_istore_n (pc := 10) (Nat.le_of_ble_eq_true rfl) dX4_findOn_10 (go_lv (lv2 := [(0, .ref 49), (1, .int 0)]) rfl ?_)
  have z12 : (0 : Int32).toInt = 0 := (ti_c (v := 0) (a := 0) (by decide))
  exact go_lv rfl ((key 58) 0 h10 hv10 (by omega) (by omega) fx10 (by omega))
set_option maxHeartbeats 4000000 in
set_option maxRecDepth 100000 in
theorem s_X4_beginFrom_f (l : Launch) (d : Nat) {P : PP} {h : HP} (hv : Iv P h) (a2 : Int32) (a2l : 0 ≤ a2.toInt) (a2u : a2.toInt ≤ 39) : Mt l yX4_beginFrom cX4_beginFrom 4 none (d + 3) [.ref 49, .int a2] h 0 0 (fun r h' => r = none ∧ Iv P h' ∧ (FX KAc h h')) := by
  refine Mt_iv hv (by decide) (Nat.le_of_ble_eq_true rfl) ?_
  show Go l RX4 cX4_beginFrom 4 (g_rm (d + 3) 0 0) "beginFrom" none 117 0 0 (fun _ _ => True) (fun r h' => r = none ∧ Iv P h' ∧ (FX KAc h h')) 0 0 [(0, .ref 49), (1, .int a2)] [] h
  have fx : FX KAc h h := FX.rfl
  have key : ∀ n : Nat, (∀ (l1 : Int32) (s0 : Int32) (hx : HP), Iv P hx → 0 ≤ l1.toInt → l1.toInt ≤ 39 → 1 ≤ s0.toInt → s0.toInt ≤ 13 → FX KAc h hx → (46 : Int) < n → Go l RX4 cX4_beginFrom 4 (g_rm (d + 3) 0 0) "beginFrom" none 117 0 0 (fun _ _ => True) (fun r h' => r = none ∧ Iv P h' ∧ (FX KAc h h')) 0 23 [(0, .ref 49), (1, .int l1)] [.int s0] hx) ∧ (∀ (l1 : Int32) (l2 : Int32) (l3 : Int32) (hx : HP), Iv P hx → 0 ≤ l1.toInt → l1.toInt ≤ 39 → 1 ≤ l2.toInt → l2.toInt ≤ 13 → 0 ≤ l3.toInt → l3.toInt ≤ 13 → FX KAc h hx → (3 * (13 - l3.toInt) + 2 : Int) < n → Go l RX4 cX4_beginFrom 4 (g_rm (d + 3) 0 0) "beginFrom" none 117 0 0 (fun _ _ => True) (fun r h' => r = none ∧ Iv P h' ∧ (FX KAc h h')) 0 26 [(0, .ref 49), (1, .int l1), (2, .int l2), (3, .int l3)] [] hx) := by
    intro n
    induction n with
    | zero => exact ⟨(by intros; omega), (by intros; omega)⟩
    | succ n ih =>
      refine ⟨?_, ?_⟩
      ·
        intro l1 s0 hx hvx l1l l1u s0l s0u fxx hm
        refine go_istore_n (pc := 23) (Nat.le_of_ble_eq_true rfl) dX4_beginFrom_23 (go_lv (lv2 := [(0, .ref 49), (1, .int l1), (2, .int s0)]) rfl ?_)
        refine go_iconst (pc := 24) (v := 0) (by decide) dX4_beginFrom_24 ?_
        refine go_istore_n (pc := 25) (Nat.le_of_ble_eq_true rfl) dX4_beginFrom_25 (go_lv (lv2 := [(0, .ref 49), (1, .int l1), (2, .int s0), (3, .int 0)]) rfl ?_)
        have z1 : (0 : Int32).toInt = 0 := (ti_c (v := 0) (a := 0) (by decide))
        exact go_lv rfl (ih.2 l1 s0 0 hx hvx (by omega) (by omega) (by omega) (by omega) (by omega) (by omega) fxx (by omega))
      ·
        intro l1 l2 l3 hx hvx l1l l1u l2l l2u l3l l3u fxx hm
        refine go_iload_n (pc := 26) rfl dX4_beginFrom_26 ?_
        refine go_iload_n (pc := 27) rfl dX4_beginFrom_27 ?_
        refine gf_icmp_ge (pc := 28) (tgt := 50) (ti_rfl l3) (ti_rfl l2) (by decide) dX4_beginFrom_28 (fun q2 => ?_) (fun q2 => ?_)
        ·
          exact gi_vret (pc := 50) ⟨rfl, hvx, fxx⟩ hvx dX4_beginFrom_50
        ·
          refine go_aload_n (pc := 31) rfl dX4_beginFrom_31 ?_
          refine go_aload_n (pc := 32) rfl dX4_beginFrom_32 ?_
          refine gi_getF (pc := 33) (q := 52) hvx fL_X4_23 rfl (Nat.le_of_ble_eq_true rfl) rfl (hvx.rf (by decide)) dX4_beginFrom_33 ?_
          refine go_iload_n (pc := 36) rfl dX4_beginFrom_36 ?_
          refine go_iload_n (pc := 37) rfl dX4_beginFrom_37 ?_
          refine go_invS (pc := 38) (sl := 0) (s_X7_bit_f l (d + 1) hvx l1) mL_X4_91 iM_X7_bit rfl rfl (Nat.le_of_ble_eq_true rfl) (show d + 1 + 1 + 1 ≤ d + 3 by omega) (show 8 + (1 + 11) + 40 * (d + 1 + 1) ≤ 40 * (d + 3) by omega) (g_c0 hvx.ln) (Nat.le_of_ble_eq_true rfl) dX4_beginFrom_38 ?_
          intro r h3 hq _
          obtain ⟨v5, rfl, rfl, f4⟩ := hq
          refine go_invV (pc := 41) (sl := 0) (s_X4_add_f l (d + 1) hvx 52 (by decide) l3 (by rw [show (l3 : Int32).toInt = l3.toInt from (ti_rfl l3)]; omega) (by rw [show (l3 : Int32).toInt = l3.toInt from (ti_rfl l3)]; omega) v5) mL_X4_94 iM_X4_add sM_X4_add (hvx.sh rfl) rfl rfl rfl (Nat.le_of_ble_eq_true rfl) (show d + 1 + 1 + 1 ≤ d + 3 by omega) (show 8 + (8 + 11) + 40 * (d + 1 + 1) ≤ 40 * (d + 3) by omega) (g_c0 hvx.ln) (Nat.le_of_ble_eq_true rfl) dX4_beginFrom_41 ?_
          intro r h6 hq _
          obtain ⟨rfl, hv6, f7⟩ := hq
          have fx6 : FX KAc h h6 := FX.tr fxx f7
          refine gf_iinc (pc := 44) (Nat.le_of_ble_eq_true rfl) rfl (ti_rfl l3) (ti_c (by decide)) (by omega) (by omega) dX4_beginFrom_44 (fun v8 e9 => ?_)
          refine go_lv (lv2 := [(0, .ref 49), (1, .int l1), (2, .int l2), (3, .int v8)]) rfl ?_
          refine go_goto (pc := 47) (tgt := 26) (by decide) dX4_beginFrom_47 ?_
          have z10 : (v8 : Int32).toInt = (l3.toInt + 1) := e9
          exact go_lv rfl (ih.2 l1 l2 v8 h6 hv6 (by omega) (by omega) (by omega) (by omega) (by omega) (by omega) fx6 (by omega))
  refine go_aload_n (pc := 0) rfl dX4_beginFrom_0 ?_
  refine go_invV (pc := 1) (sl := 0) (s_X4_clearFound_f l (d + 0) hv ) mL_X4_88 iM_X4_clearFound sM_X4_clearFound (hv.sh rfl) rfl rfl rfl (Nat.le_of_ble_eq_true rfl) (show d + 0 + 2 + 1 ≤ d + 3 by omega) (show 8 + (1 + 11) + 40 * (d + 0 + 2) ≤ 40 * (d + 3) by omega) (g_c0 hv.ln) (Nat.le_of_ble_eq_true rfl) dX4_beginFrom_1 ?_
  intro r h11 hq _
  obtain ⟨rfl, hv11, f12⟩ := hq
  have fx11 : FX KAc h h11 := FX.tr fx f12
  refine go_aload_n (pc := 4) rfl dX4_beginFrom_4 ?_
  refine gi_getC (pc := 5) hv11 fL_X4_58 rfl (Nat.le_of_ble_eq_true rfl) rfl (by decide) dX4_beginFrom_5 (fun c13 hc13 fc13 => ?_)
  refine gi_getF (pc := 8) (q := c13 + 2) hv11 fL_X4_124 (by rcases hc13 with rfl | rfl <;> rfl) (Nat.le_of_ble_eq_true rfl) rfl (by rcases hc13 with rfl | rfl <;> exact hv11.rf (by decide)) dX4_beginFrom_8 ?_
  refine go_iload_n (pc := 11) rfl dX4_beginFrom_11 ?_
  refine gi_iald (pc := 12) (lo := 0) (hi := 5) (len := 40) hv11 (ti_rfl a2) (by rcases hc13 with rfl | rfl <;> rfl) (by omega) (by omega) (fun _ => by rcases hc13 with rfl | rfl <;> rfl) dX4_beginFrom_12 (fun v14 v14l v14u v14w => ?_)
  refine go_iconst (pc := 13) (v := 1) (by decide) dX4_beginFrom_13 ?_
  refine gf_icmp_ne (pc := 14) (tgt := 22) (ti_rfl v14) (ti_c (v := 1) (a := 1) (by decide)) (by decide) dX4_beginFrom_14 (fun q15 => ?_) (fun q15 => ?_)
  ·
    refine go_iconst (pc := 22) (v := 1) (by decide) dX4_beginFrom_22 ?_
    have z16 : (1 : Int32).toInt = 1 := (ti_c (v := 1) (a := 1) (by decide))
    exact go_lv rfl ((key 59).1 a2 1 h11 hv11 (by omega) (by omega) (by omega) (by omega) fx11 (by omega))
  ·
    refine go_bipush (pc := 17) (v := 13) (by decide) dX4_beginFrom_17 ?_
    refine go_goto (pc := 19) (tgt := 23) (by decide) dX4_beginFrom_19 ?_
    have z17 : (13 : Int32).toInt = 13 := (ti_c (v := 13) (a := 13) (by decide))
    exact go_lv rfl ((key 59).1 a2 13 h11 hv11 (by omega) (by omega) (by omega) (by omega) fx11 (by omega))
set_option maxHeartbeats 4000000 in
set_option maxRecDepth 100000 in
theorem s_X4_backFrom_f (l : Launch) (d : Nat) {P : PP} {h : HP} (hv : Iv P h) (a2 : Int32) (a2l : 0 ≤ a2.toInt) (a2u : a2.toInt ≤ 39) : Mt l yX4_backFrom cX4_backFrom 2 (some .long) (d + 5) [.ref 49, .int a2] h 0 0 (fun r h' => ∃ v : Int64, r = some (.long v) ∧ Iv P h' ∧ (FX KAc h h')) := by
  refine Mt_iv hv (by decide) (Nat.le_of_ble_eq_true rfl) ?_
  show Go l RX4 cX4_backFrom 2 (g_rm (d + 5) 0 0) "backFrom" (some .long) 117 0 0 (fun _ _ => True) (fun r h' => ∃ v : Int64, r = some (.long v) ∧ Iv P h' ∧ (FX KAc h h')) 0 0 [(0, .ref 49), (1, .int a2)] [] h
  have fx : FX KAc h h := FX.rfl
  have key : ∀ n : Nat, (∀ (l1 : Int32) (hx : HP), Iv P hx → 0 ≤ l1.toInt → l1.toInt ≤ 39 → FX KAc h hx → (1 : Int) < n → Go l RX4 cX4_backFrom 2 (g_rm (d + 5) 0 0) "backFrom" (some .long) 117 0 0 (fun _ _ => True) (fun r h' => ∃ v : Int64, r = some (.long v) ∧ Iv P h' ∧ (FX KAc h h')) 0 43 [(0, .ref 49), (1, .int l1)] [] hx) := by
    intro n
    induction n with
    | zero => exact (by intros; omega)
    | succ n ih =>
      refine ?_
      ·
        intro l1 hx hvx l1l l1u fxx hm
        refine go_aload_n (pc := 43) rfl dX4_backFrom_43 ?_
        refine gi_getF (pc := 44) (q := 55) hvx fL_X4_36 rfl (Nat.le_of_ble_eq_true rfl) rfl (hvx.rf (by decide)) dX4_backFrom_44 ?_
        refine go_iload_n (pc := 47) rfl dX4_backFrom_47 ?_
        refine gi_lald (pc := 48) (len := 40) hvx (ti_rfl l1) rfl (by omega) (by omega) dX4_backFrom_48 (fun v1 v1w => ?_)
        exact gi_lret (pc := 49) ⟨_, rfl, hvx, fxx⟩ hvx dX4_backFrom_49
  refine go_aload_n (pc := 0) rfl dX4_backFrom_0 ?_
  refine gi_getL (pc := 1) hv fL_X4_39 rfl (Nat.le_of_ble_eq_true rfl) rfl dX4_backFrom_1 (fun v2 => ?_)
  refine go_iload_n (pc := 4) rfl dX4_backFrom_4 ?_
  refine go_invS (pc := 5) (sl := 0) (s_X7_has_f l (d + 3) hv v2 a2) mL_X4_102 iM_X7_has rfl rfl (Nat.le_of_ble_eq_true rfl) (show d + 3 + 1 + 1 ≤ d + 5 by omega) (show 8 + (3 + 11) + 40 * (d + 3 + 1) ≤ 40 * (d + 5) by omega) (g_c0 hv.ln) (Nat.le_of_ble_eq_true rfl) dX4_backFrom_5 ?_
  intro r h3 hq _
  obtain ⟨v5, rfl, v5l, v5u, rfl, f4⟩ := hq
  refine gf_if_ne (pc := 8) (tgt := 43) (ti_rfl v5) (by decide) dX4_backFrom_8 (fun q6 => ?_) (fun q6 => ?_)
  ·
    exact go_lv rfl ((key 14) a2 h hv (by omega) (by omega) fx (by omega))
  ·
    refine go_aload_n (pc := 11) rfl dX4_backFrom_11 ?_
    refine go_iload_n (pc := 12) rfl dX4_backFrom_12 ?_
    refine go_invV (pc := 13) (sl := 0) (s_X4_beginFrom_f l (d + 1) hv a2 (by rw [show (a2 : Int32).toInt = a2.toInt from (ti_rfl a2)]; omega) (by rw [show (a2 : Int32).toInt = a2.toInt from (ti_rfl a2)]; omega)) mL_X4_129 iM_X4_beginFrom sM_X4_beginFrom (hv.sh rfl) rfl rfl rfl (Nat.le_of_ble_eq_true rfl) (show d + 1 + 3 + 1 ≤ d + 5 by omega) (show 8 + (4 + 11) + 40 * (d + 1 + 3) ≤ 40 * (d + 5) by omega) (g_c0 hv.ln) (Nat.le_of_ble_eq_true rfl) dX4_backFrom_13 ?_
    intro r h7 hq _
    obtain ⟨rfl, hv7, f8⟩ := hq
    have fx7 : FX KAc h h7 := FX.tr fx f8
    refine go_aload_n (pc := 16) rfl dX4_backFrom_16 ?_
    refine go_invV (pc := 17) (sl := 0) (s_X4_findOn_f l (d + 0) hv7 ) mL_X4_133 iM_X4_findOn sM_X4_findOn (hv7.sh rfl) rfl rfl rfl (Nat.le_of_ble_eq_true rfl) (show d + 0 + 4 + 1 ≤ d + 5 by omega) (show 8 + (2 + 11) + 40 * (d + 0 + 4) ≤ 40 * (d + 5) by omega) (g_c0 hv7.ln) (Nat.le_of_ble_eq_true rfl) dX4_backFrom_17 ?_
    intro r h9 hq _
    obtain ⟨rfl, hv9, f10⟩ := hq
    have fx9 : FX KAc h h9 := FX.tr fx7 f10
    refine go_aload_n (pc := 20) rfl dX4_backFrom_20 ?_
    refine gi_getF (pc := 21) (q := 55) hv9 fL_X4_36 rfl (Nat.le_of_ble_eq_true rfl) rfl (hv9.rf (by decide)) dX4_backFrom_21 ?_
    refine go_iload_n (pc := 24) rfl dX4_backFrom_24 ?_
    refine go_aload_n (pc := 25) rfl dX4_backFrom_25 ?_
    refine go_invV (pc := 26) (sl := 0) (s_X4_statementsFound l (d + 3) hv9 ) mL_X4_136 iM_X4_statementsFound sM_X4_statementsFound (hv9.sh rfl) rfl rfl rfl (Nat.le_of_ble_eq_true rfl) (show d + 3 + 1 + 1 ≤ d + 5 by omega) (show 8 + (4 + 11) + 40 * (d + 3 + 1) ≤ 40 * (d + 5) by omega) (g_c0 hv9.ln) (Nat.le_of_ble_eq_true rfl) dX4_backFrom_26 ?_
    intro r h11 hq _
    obtain ⟨v12, rfl, rfl⟩ := hq
    refine gi_last (pc := 29) (len := 40) hv9 (ti_rfl a2) rfl (by omega) (by omega) dX4_backFrom_29 (fun h13 hv13 hv13e => ?_)
    have fx13 : FX KAc h h13 := FX.pL fx9 hv13e (by unfold KAc; omega)
    refine go_aload_n (pc := 30) rfl dX4_backFrom_30 ?_
    refine go_dup (pc := 31) rfl dX4_backFrom_31 ?_
    refine gi_getL (pc := 32) hv13 fL_X4_39 rfl (Nat.le_of_ble_eq_true rfl) rfl dX4_backFrom_32 (fun v14 => ?_)
    refine go_iload_n (pc := 35) rfl dX4_backFrom_35 ?_
    refine go_invS (pc := 36) (sl := 0) (s_X7_bit_f l (d + 3) hv13 a2) mL_X4_91 iM_X7_bit rfl rfl (Nat.le_of_ble_eq_true rfl) (show d + 3 + 1 + 1 ≤ d + 5 by omega) (show 8 + (1 + 11) + 40 * (d + 3 + 1) ≤ 40 * (d + 5) by omega) (g_c0 hv13.ln) (Nat.le_of_ble_eq_true rfl) dX4_backFrom_36 ?_
    intro r h15 hq _
    obtain ⟨v17, rfl, rfl, f16⟩ := hq
    refine gu_lor (pc := 39) dX4_backFrom_39 (fun v18 => ?_)
    refine gi_putL (pc := 40) hv13 (fP_X4_39 _) rfl (Nat.le_of_ble_eq_true rfl) rfl rfl rfl dX4_backFrom_40 (fun h19 hv19 hv19e => ?_)
    have fx19 : FX KAc h h19 := FX.pL fx13 hv19e (by unfold KAc; omega)
    exact go_lv rfl ((key 14) a2 h19 hv19 (by omega) (by omega) fx19 (by omega))
set_option maxHeartbeats 4000000 in
set_option maxRecDepth 100000 in
theorem s_X4_forthFrom_f (l : Launch) (d : Nat) {P : PP} {h : HP} (hv : Iv P h) (a2 : Int32) : Mt l yX4_forthFrom cX4_forthFrom 5 (some .long) (d + 6) [.ref 49, .int a2] h 0 0 (fun r h' => ∃ v : Int64, r = some (.long v) ∧ Iv P h' ∧ (FX KAc h h')) := by
  refine Mt_iv hv (by decide) (Nat.le_of_ble_eq_true rfl) ?_
  show Go l RX4 cX4_forthFrom 5 (g_rm (d + 6) 0 0) "forthFrom" (some .long) 117 0 0 (fun _ _ => True) (fun r h' => ∃ v : Int64, r = some (.long v) ∧ Iv P h' ∧ (FX KAc h h')) 0 0 [(0, .ref 49), (1, .int a2)] [] h
  have fx : FX KAc h h := FX.rfl
  have key : ∀ n : Nat, (∀ (l1 : Int32) (l2 : Int64) (l4 : Int32) (hx : HP), Iv P hx → 0 ≤ l4.toInt → l4.toInt ≤ 40 → FX KAc h hx → (4 * (40 - l4.toInt) + 3 : Int) < n → Go l RX4 cX4_forthFrom 5 (g_rm (d + 6) 0 0) "forthFrom" (some .long) 117 0 0 (fun _ _ => True) (fun r h' => ∃ v : Int64, r = some (.long v) ∧ Iv P h' ∧ (FX KAc h h')) 0 5 [(0, .ref 49), (1, .int l1), (2, .long l2), (4, .int l4)] [] hx) ∧ (∀ (l1 : Int32) (l2 : Int64) (l4 : Int32) (hx : HP), Iv P hx → 0 ≤ l4.toInt → l4.toInt ≤ 39 → FX KAc h hx → (4 * (40 - l4.toInt) + 2 : Int) < n → Go l RX4 cX4_forthFrom 5 (g_rm (d + 6) 0 0) "forthFrom" (some .long) 117 0 0 (fun _ _ => True) (fun r h' => ∃ v : Int64, r = some (.long v) ∧ Iv P h' ∧ (FX KAc h h')) 0 38 [(0, .ref 49), (1, .int l1), (2, .long l2), (4, .int l4)] [] hx) := by
    intro n
    induction n with
    | zero => exact ⟨(by intros; omega), (by intros; omega)⟩
    | succ n ih =>
      refine ⟨?_, ?_⟩
      ·
        intro l1 l2 l4 hx hvx l4l l4u fxx hm
        refine go_iload (pc := 5) rfl dX4_forthFrom_5 ?_
        refine go_aload_n (pc := 7) rfl dX4_forthFrom_7 ?_
        refine gi_getC (pc := 8) hvx fL_X4_58 rfl (Nat.le_of_ble_eq_true rfl) rfl (by decide) dX4_forthFrom_8 (fun c1 hc1 fc1 => ?_)
        refine gi_get (pc := 11) (lo := 0) (hi := 40) hvx fL_X4_140 (by rcases hc1 with rfl | rfl <;> rfl) (Nat.le_of_ble_eq_true rfl) rfl (by rcases hc1 with rfl | rfl <;> rfl) dX4_forthFrom_11 (fun v2 v2l v2u v2w => ?_)
        refine gf_icmp_ge (pc := 14) (tgt := 44) (ti_rfl l4) (ti_rfl v2) (by decide) dX4_forthFrom_14 (fun q3 => ?_) (fun q3 => ?_)
        ·
          refine go_lload_n (pc := 44) rfl dX4_forthFrom_44 ?_
          exact gi_lret (pc := 45) ⟨_, rfl, hvx, fxx⟩ hvx dX4_forthFrom_45
        ·
          refine go_aload_n (pc := 17) rfl dX4_forthFrom_17 ?_
          refine go_iload (pc := 18) rfl dX4_forthFrom_18 ?_
          refine go_invV (pc := 20) (sl := 0) (s_X4_backFrom_f l (d + 0) hvx l4 (by rw [show (l4 : Int32).toInt = l4.toInt from (ti_rfl l4)]; omega) (by rw [show (l4 : Int32).toInt = l4.toInt from (ti_rfl l4)]; omega)) mL_X4_143 iM_X4_backFrom sM_X4_backFrom (hvx.sh rfl) rfl rfl rfl (Nat.le_of_ble_eq_true rfl) (show d + 0 + 5 + 1 ≤ d + 6 by omega) (show 8 + (2 + 11) + 40 * (d + 0 + 5) ≤ 40 * (d + 6) by omega) (g_c0 hvx.ln) (Nat.le_of_ble_eq_true rfl) dX4_forthFrom_20 ?_
          intro r h4 hq _
          obtain ⟨v6, rfl, hv4, f5⟩ := hq
          have fx4 : FX KAc h h4 := FX.tr fxx f5
          refine go_iload_n (pc := 23) rfl dX4_forthFrom_23 ?_
          refine go_invS (pc := 24) (sl := 0) (s_X7_has_f l (d + 4) hv4 v6 l1) mL_X4_102 iM_X7_has rfl rfl (Nat.le_of_ble_eq_true rfl) (show d + 4 + 1 + 1 ≤ d + 6 by omega) (show 8 + (3 + 11) + 40 * (d + 4 + 1) ≤ 40 * (d + 6) by omega) (g_c0 hv4.ln) (Nat.le_of_ble_eq_true rfl) dX4_forthFrom_24 ?_
          intro r h7 hq _
          obtain ⟨v9, rfl, v9l, v9u, rfl, f8⟩ := hq
          refine gf_if_eq (pc := 27) (tgt := 38) (ti_rfl v9) (by decide) dX4_forthFrom_27 (fun q10 => ?_) (fun q10 => ?_)
          ·
            exact go_lv rfl (ih.2 l1 l2 l4 h4 hv4 (by omega) (by omega) fx4 (by omega))
          ·
            refine go_lload_n (pc := 30) rfl dX4_forthFrom_30 ?_
            refine go_iload (pc := 31) rfl dX4_forthFrom_31 ?_
            refine go_invS (pc := 33) (sl := 0) (s_X7_bit_f l (d + 4) hv4 l4) mL_X4_91 iM_X7_bit rfl rfl (Nat.le_of_ble_eq_true rfl) (show d + 4 + 1 + 1 ≤ d + 6 by omega) (show 8 + (1 + 11) + 40 * (d + 4 + 1) ≤ 40 * (d + 6) by omega) (g_c0 hv4.ln) (Nat.le_of_ble_eq_true rfl) dX4_forthFrom_33 ?_
            intro r h11 hq _
            obtain ⟨v13, rfl, rfl, f12⟩ := hq
            refine gu_lor (pc := 36) dX4_forthFrom_36 (fun v14 => ?_)
            refine go_lstore_n (pc := 37) (Nat.le_of_ble_eq_true rfl) dX4_forthFrom_37 (go_lv (lv2 := [(0, .ref 49), (1, .int l1), (2, .long v14), (4, .int l4)]) rfl ?_)
            exact go_lv rfl (ih.2 l1 v14 l4 h4 hv4 (by omega) (by omega) fx4 (by omega))
      ·
        intro l1 l2 l4 hx hvx l4l l4u fxx hm
        refine gf_iinc (pc := 38) (Nat.le_of_ble_eq_true rfl) rfl (ti_rfl l4) (ti_c (by decide)) (by omega) (by omega) dX4_forthFrom_38 (fun v15 e16 => ?_)
        refine go_lv (lv2 := [(0, .ref 49), (1, .int l1), (2, .long l2), (4, .int v15)]) rfl ?_
        refine go_goto (pc := 41) (tgt := 5) (by decide) dX4_forthFrom_41 ?_
        have z17 : (v15 : Int32).toInt = (l4.toInt + 1) := e16
        exact go_lv rfl (ih.1 l1 l2 v15 hx hvx (by omega) (by omega) fxx (by omega))
  refine go_lconst (pc := 0) (v := 0) (by decide) dX4_forthFrom_0 ?_
  refine go_lstore_n (pc := 1) (Nat.le_of_ble_eq_true rfl) dX4_forthFrom_1 (go_lv (lv2 := [(0, .ref 49), (1, .int a2), (2, .long 0)]) rfl ?_)
  refine go_iconst (pc := 2) (v := 0) (by decide) dX4_forthFrom_2 ?_
  refine go_istore (pc := 3) (Nat.le_of_ble_eq_true rfl) dX4_forthFrom_3 (go_lv (lv2 := [(0, .ref 49), (1, .int a2), (2, .long 0), (4, .int 0)]) rfl ?_)
  have z18 : (0 : Int32).toInt = 0 := (ti_c (v := 0) (a := 0) (by decide))
  exact go_lv rfl ((key 181).1 a2 0 0 h hv (by omega) (by omega) fx (by omega))
set_option maxHeartbeats 4000000 in
set_option maxRecDepth 100000 in
theorem s_X4_backFromOut_f (l : Launch) (d : Nat) {P : PP} {h : HP} (hv : Iv P h) (a2 : Int32) (a2l : 0 ≤ a2.toInt) (a2u : a2.toInt ≤ 4) (a3 : Int32) (a3l : 0 ≤ a3.toInt) (a3u : a3.toInt ≤ 5) : Mt l yX4_backFromOut cX4_backFromOut 3 (some .long) (d + 5) [.ref 49, .int a2, .int a3] h 0 0 (fun r h' => ∃ v : Int64, r = some (.long v) ∧ Iv P h' ∧ (FX KAc h h')) := by
  refine Mt_iv hv (by decide) (Nat.le_of_ble_eq_true rfl) ?_
  show Go l RX4 cX4_backFromOut 3 (g_rm (d + 5) 0 0) "backFromOut" (some .long) 117 0 0 (fun _ _ => True) (fun r h' => ∃ v : Int64, r = some (.long v) ∧ Iv P h' ∧ (FX KAc h h')) 0 0 [(0, .ref 49), (1, .int a2), (2, .int a3)] [] h
  have fx : FX KAc h h := FX.rfl
  refine go_aload_n (pc := 0) rfl dX4_backFromOut_0 ?_
  refine go_invV (pc := 1) (sl := 0) (s_X4_clearFound_f l (d + 2) hv ) mL_X4_88 iM_X4_clearFound sM_X4_clearFound (hv.sh rfl) rfl rfl rfl (Nat.le_of_ble_eq_true rfl) (show d + 2 + 2 + 1 ≤ d + 5 by omega) (show 8 + (1 + 11) + 40 * (d + 2 + 2) ≤ 40 * (d + 5) by omega) (g_c0 hv.ln) (Nat.le_of_ble_eq_true rfl) dX4_backFromOut_1 ?_
  intro r h1 hq _
  obtain ⟨rfl, hv1, f2⟩ := hq
  have fx1 : FX KAc h h1 := FX.tr fx f2
  refine go_aload_n (pc := 4) rfl dX4_backFromOut_4 ?_
  refine go_aload_n (pc := 5) rfl dX4_backFromOut_5 ?_
  refine gi_getF (pc := 6) (q := 52) hv1 fL_X4_23 rfl (Nat.le_of_ble_eq_true rfl) rfl (hv1.rf (by decide)) dX4_backFromOut_6 ?_
  refine go_bipush (pc := 9) (v := 7) (by decide) dX4_backFromOut_9 ?_
  refine go_iload_n (pc := 11) rfl dX4_backFromOut_11 ?_
  refine gf_iadd (pc := 12) (ti_c (v := 7) (a := 7) (by decide)) (ti_rfl a3) (by omega) (by omega) dX4_backFromOut_12 (fun v3 e4 => ?_)
  refine go_bipush (pc := 13) (v := 40) (by decide) dX4_backFromOut_13 ?_
  refine go_iload_n (pc := 15) rfl dX4_backFromOut_15 ?_
  refine gf_iadd (pc := 16) (ti_c (v := 40) (a := 40) (by decide)) (ti_rfl a2) (by omega) (by omega) dX4_backFromOut_16 (fun v5 e6 => ?_)
  refine go_invS (pc := 17) (sl := 0) (s_X7_bit_f l (d + 3) hv1 v5) mL_X4_91 iM_X7_bit rfl rfl (Nat.le_of_ble_eq_true rfl) (show d + 3 + 1 + 1 ≤ d + 5 by omega) (show 8 + (1 + 11) + 40 * (d + 3 + 1) ≤ 40 * (d + 5) by omega) (g_c0 hv1.ln) (Nat.le_of_ble_eq_true rfl) dX4_backFromOut_17 ?_
  intro r h7 hq _
  obtain ⟨v9, rfl, rfl, f8⟩ := hq
  try rw [show (v5 : Int32).toInt = (40 + a2.toInt) from e6] at f8
  refine go_invV (pc := 20) (sl := 0) (s_X4_add_f l (d + 3) hv1 52 (by decide) v3 (by rw [show (v3 : Int32).toInt = (7 + a3.toInt) from e4]; omega) (by rw [show (v3 : Int32).toInt = (7 + a3.toInt) from e4]; omega) v9) mL_X4_94 iM_X4_add sM_X4_add (hv1.sh rfl) rfl rfl rfl (Nat.le_of_ble_eq_true rfl) (show d + 3 + 1 + 1 ≤ d + 5 by omega) (show 8 + (8 + 11) + 40 * (d + 3 + 1) ≤ 40 * (d + 5) by omega) (g_c0 hv1.ln) (Nat.le_of_ble_eq_true rfl) dX4_backFromOut_20 ?_
  intro r h10 hq _
  obtain ⟨rfl, hv10, f11⟩ := hq
  try rw [show (v3 : Int32).toInt = (7 + a3.toInt) from e4] at f11
  have fx10 : FX KAc h h10 := FX.tr fx1 f11
  refine go_aload_n (pc := 23) rfl dX4_backFromOut_23 ?_
  refine go_invV (pc := 24) (sl := 0) (s_X4_findOn_f l (d + 0) hv10 ) mL_X4_133 iM_X4_findOn sM_X4_findOn (hv10.sh rfl) rfl rfl rfl (Nat.le_of_ble_eq_true rfl) (show d + 0 + 4 + 1 ≤ d + 5 by omega) (show 8 + (2 + 11) + 40 * (d + 0 + 4) ≤ 40 * (d + 5) by omega) (g_c0 hv10.ln) (Nat.le_of_ble_eq_true rfl) dX4_backFromOut_24 ?_
  intro r h12 hq _
  obtain ⟨rfl, hv12, f13⟩ := hq
  have fx12 : FX KAc h h12 := FX.tr fx10 f13
  refine go_aload_n (pc := 27) rfl dX4_backFromOut_27 ?_
  refine go_invV (pc := 28) (sl := 0) (s_X4_statementsFound l (d + 3) hv12 ) mL_X4_136 iM_X4_statementsFound sM_X4_statementsFound (hv12.sh rfl) rfl rfl rfl (Nat.le_of_ble_eq_true rfl) (show d + 3 + 1 + 1 ≤ d + 5 by omega) (show 8 + (4 + 11) + 40 * (d + 3 + 1) ≤ 40 * (d + 5) by omega) (g_c0 hv12.ln) (Nat.le_of_ble_eq_true rfl) dX4_backFromOut_28 ?_
  intro r h14 hq _
  obtain ⟨v15, rfl, rfl⟩ := hq
  exact gi_lret (pc := 31) ⟨_, rfl, hv12, fx12⟩ hv12 dX4_backFromOut_31
set_option maxHeartbeats 4000000 in
set_option maxRecDepth 100000 in
theorem s_X4_completeCalls_f (l : Launch) (d : Nat) {P : PP} {h : HP} (hv : Iv P h)  : Mt l yX4_completeCalls cX4_completeCalls 6 (some .boolean) (d + 2) [.ref 49] h 0 0 (fun r h' => ∃ v : Int32, r = some (.int v) ∧ 0 ≤ v.toInt ∧ v.toInt ≤ 1 ∧ Iv P h' ∧ (FX KAc h h')) := by
  refine Mt_iv hv (by decide) (Nat.le_of_ble_eq_true rfl) ?_
  show Go l RX4 cX4_completeCalls 6 (g_rm (d + 2) 0 0) "completeCalls" (some .boolean) 117 0 0 (fun _ _ => True) (fun r h' => ∃ v : Int32, r = some (.int v) ∧ 0 ≤ v.toInt ∧ v.toInt ≤ 1 ∧ Iv P h' ∧ (FX KAc h h')) 0 0 [(0, .ref 49)] [] h
  have fx : FX KAc h h := FX.rfl
  have key : ∀ n : Nat, (∀ (l1 : Int32) (l2 : Int32) (hx : HP), Iv P hx → 0 ≤ l1.toInt → l1.toInt ≤ 1 → 0 ≤ l2.toInt → l2.toInt ≤ 5 → FX KAc h hx → (43 * (5 - l2.toInt) + 42 : Int) < n → Go l RX4 cX4_completeCalls 6 (g_rm (d + 2) 0 0) "completeCalls" (some .boolean) 117 0 0 (fun _ _ => True) (fun r h' => ∃ v : Int32, r = some (.int v) ∧ 0 ≤ v.toInt ∧ v.toInt ≤ 1 ∧ Iv P h' ∧ (FX KAc h h')) 0 4 [(0, .ref 49), (1, .int l1), (2, .int l2)] [] hx) ∧ (∀ (l1 : Int32) (l2 : Int32) (l3 : Int32) (hx : HP), Iv P hx → 0 ≤ l1.toInt → l1.toInt ≤ 1 → 0 ≤ l2.toInt → l2.toInt ≤ 4 → 1 ≤ l3.toInt → l3.toInt ≤ 7 → FX KAc h hx → (5 * (7 - l3.toInt) + 43 * (5 - l2.toInt) + 5 : Int) < n → Go l RX4 cX4_completeCalls 6 (g_rm (d + 2) 0 0) "completeCalls" (some .boolean) 117 0 0 (fun _ _ => True) (fun r h' => ∃ v : Int32, r = some (.int v) ∧ 0 ≤ v.toInt ∧ v.toInt ≤ 1 ∧ Iv P h' ∧ (FX KAc h h')) 0 17 [(0, .ref 49), (1, .int l1), (2, .int l2), (3, .int l3)] [] hx) ∧ (∀ (l2 : Int32) (l3 : Int32) (s0 : Int32) (s1 : Int32) (hx : HP), Iv P hx → 0 ≤ l2.toInt → l2.toInt ≤ 4 → 1 ≤ l3.toInt → l3.toInt ≤ 6 → 0 ≤ s0.toInt → s0.toInt ≤ 1 → 0 ≤ s1.toInt → s1.toInt ≤ 1 → FX KAc h hx → (5 * (7 - l3.toInt) + 43 * (5 - l2.toInt) + 4 : Int) < n → Go l RX4 cX4_completeCalls 6 (g_rm (d + 2) 0 0) "completeCalls" (some .boolean) 117 0 0 (fun _ _ => True) (fun r h' => ∃ v : Int32, r = some (.int v) ∧ 0 ≤ v.toInt ∧ v.toInt ≤ 1 ∧ Iv P h' ∧ (FX KAc h h')) 0 89 [(0, .ref 49), (2, .int l2), (3, .int l3)] [.int s0, .int s1] hx) ∧ (∀ (l1 : Int32) (l2 : Int32) (l3 : Int32) (hx : HP), Iv P hx → 0 ≤ l1.toInt → l1.toInt ≤ 1 → 0 ≤ l2.toInt → l2.toInt ≤ 4 → 1 ≤ l3.toInt → l3.toInt ≤ 6 → FX KAc h hx → (5 * (7 - l3.toInt) + 43 * (5 - l2.toInt) + 3 : Int) < n → Go l RX4 cX4_completeCalls 6 (g_rm (d + 2) 0 0) "completeCalls" (some .boolean) 117 0 0 (fun _ _ => True) (fun r h' => ∃ v : Int32, r = some (.int v) ∧ 0 ≤ v.toInt ∧ v.toInt ≤ 1 ∧ Iv P h' ∧ (FX KAc h h')) 0 91 [(0, .ref 49), (1, .int l1), (2, .int l2), (3, .int l3)] [] hx) := by
    intro n
    induction n with
    | zero => exact ⟨(by intros; omega), (by intros; omega), (by intros; omega), (by intros; omega)⟩
    | succ n ih =>
      refine ⟨?_, ?_, ?_, ?_⟩
      ·
        intro l1 l2 hx hvx l1l l1u l2l l2u fxx hm
        refine go_iload_n (pc := 4) rfl dX4_completeCalls_4 ?_
        refine go_aload_n (pc := 5) rfl dX4_completeCalls_5 ?_
        refine gi_getC (pc := 6) hvx fL_X4_58 rfl (Nat.le_of_ble_eq_true rfl) rfl (by decide) dX4_completeCalls_6 (fun c1 hc1 fc1 => ?_)
        refine gi_get (pc := 9) (lo := 0) (hi := 5) hvx fL_X4_65 (by rcases hc1 with rfl | rfl <;> rfl) (Nat.le_of_ble_eq_true rfl) rfl (by rcases hc1 with rfl | rfl <;> rfl) dX4_completeCalls_9 (fun v2 v2l v2u v2w => ?_)
        refine gf_icmp_ge (pc := 12) (tgt := 103) (ti_rfl l2) (ti_rfl v2) (by decide) dX4_completeCalls_12 (fun q3 => ?_) (fun q3 => ?_)
        ·
          refine go_iload_n (pc := 103) rfl dX4_completeCalls_103 ?_
          exact gi_zret (pc := 104) (ti_rfl l1) (by omega) (by omega) ⟨_, rfl, (by rw [show (l1 : Int32).toInt = l1.toInt from (ti_rfl l1)]; omega), (by rw [show (l1 : Int32).toInt = l1.toInt from (ti_rfl l1)]; omega), hvx, fxx⟩ hvx dX4_completeCalls_104
        ·
          refine go_iconst (pc := 15) (v := 1) (by decide) dX4_completeCalls_15 ?_
          refine go_istore_n (pc := 16) (Nat.le_of_ble_eq_true rfl) dX4_completeCalls_16 (go_lv (lv2 := [(0, .ref 49), (1, .int l1), (2, .int l2), (3, .int 1)]) rfl ?_)
          have z4 : (1 : Int32).toInt = 1 := (ti_c (v := 1) (a := 1) (by decide))
          exact go_lv rfl (ih.2.1 l1 l2 1 hx hvx (by omega) (by omega) (by omega) (by omega) (by omega) (by omega) fxx (by omega))
      ·
        intro l1 l2 l3 hx hvx l1l l1u l2l l2u l3l l3u fxx hm
        refine go_iload_n (pc := 17) rfl dX4_completeCalls_17 ?_
        refine go_bipush (pc := 18) (v := 7) (by decide) dX4_completeCalls_18 ?_
        refine gf_icmp_ge (pc := 20) (tgt := 97) (ti_rfl l3) (ti_c (v := 7) (a := 7) (by decide)) (by decide) dX4_completeCalls_20 (fun q5 => ?_) (fun q5 => ?_)
        ·
          refine gf_iinc (pc := 97) (Nat.le_of_ble_eq_true rfl) rfl (ti_rfl l2) (ti_c (by decide)) (by omega) (by omega) dX4_completeCalls_97 (fun v6 e7 => ?_)
          refine go_lv (lv2 := [(0, .ref 49), (1, .int l1), (2, .int v6), (3, .int l3)]) rfl ?_
          refine go_goto (pc := 100) (tgt := 4) (by decide) dX4_completeCalls_100 ?_
          have z8 : (v6 : Int32).toInt = (l2.toInt + 1) := e7
          exact go_lv rfl (ih.1 l1 v6 hx hvx (by omega) (by omega) (by omega) (by omega) fxx (by omega))
        ·
          refine go_aload_n (pc := 23) rfl dX4_completeCalls_23 ?_
          refine gi_getF (pc := 24) (q := 53) hvx fL_X4_26 rfl (Nat.le_of_ble_eq_true rfl) rfl (hvx.rf (by decide)) dX4_completeCalls_24 ?_
          refine go_iload_n (pc := 27) rfl dX4_completeCalls_27 ?_
          refine gi_lald (pc := 28) (len := 13) hvx (ti_rfl l3) rfl (by omega) (by omega) dX4_completeCalls_28 (fun v9 v9w => ?_)
          refine go_bipush (pc := 29) (v := 40) (by decide) dX4_completeCalls_29 ?_
          refine go_iload_n (pc := 31) rfl dX4_completeCalls_31 ?_
          refine gf_iadd (pc := 32) (ti_c (v := 40) (a := 40) (by decide)) (ti_rfl l2) (by omega) (by omega) dX4_completeCalls_32 (fun v10 e11 => ?_)
          refine go_invS (pc := 33) (sl := 0) (s_X7_has_f l (d + 0) hvx v9 v10) mL_X4_102 iM_X7_has rfl rfl (Nat.le_of_ble_eq_true rfl) (show d + 0 + 1 + 1 ≤ d + 2 by omega) (show 8 + (3 + 11) + 40 * (d + 0 + 1) ≤ 40 * (d + 2) by omega) (g_c0 hvx.ln) (Nat.le_of_ble_eq_true rfl) dX4_completeCalls_33 ?_
          intro r h12 hq _
          obtain ⟨v14, rfl, v14l, v14u, rfl, f13⟩ := hq
          try rw [show (v10 : Int32).toInt = (40 + l2.toInt) from e11] at f13
          refine gf_if_eq (pc := 36) (tgt := 91) (ti_rfl v14) (by decide) dX4_completeCalls_36 (fun q15 => ?_) (fun q15 => ?_)
          ·
            exact go_lv rfl (ih.2.2.2 l1 l2 l3 hx hvx (by omega) (by omega) (by omega) (by omega) (by omega) (by omega) fxx (by omega))
          ·
            refine go_aload_n (pc := 39) rfl dX4_completeCalls_39 ?_
            refine gi_getF (pc := 40) (q := 50) hvx fL_X4_15 rfl (Nat.le_of_ble_eq_true rfl) rfl (hvx.rf (by decide)) dX4_completeCalls_40 ?_
            refine go_iload_n (pc := 43) rfl dX4_completeCalls_43 ?_
            refine gi_lald (pc := 44) (len := 5) hvx (ti_rfl l2) rfl (by omega) (by omega) dX4_completeCalls_44 (fun v16 v16w => ?_)
            refine go_aload_n (pc := 45) rfl dX4_completeCalls_45 ?_
            refine gi_getF (pc := 46) (q := 53) hvx fL_X4_26 rfl (Nat.le_of_ble_eq_true rfl) rfl (hvx.rf (by decide)) dX4_completeCalls_46 ?_
            refine go_iconst (pc := 49) (v := 0) (by decide) dX4_completeCalls_49 ?_
            refine gi_lald (pc := 50) (len := 13) hvx (ti_c (v := 0) (a := 0) (by decide)) rfl (by omega) (by omega) dX4_completeCalls_50 (fun v17 v17w => ?_)
            refine gu_land (pc := 51) dX4_completeCalls_51 (fun v18 => ?_)
            refine go_aload_n (pc := 52) rfl dX4_completeCalls_52 ?_
            refine gi_getF (pc := 53) (q := 52) hvx fL_X4_23 rfl (Nat.le_of_ble_eq_true rfl) rfl (hvx.rf (by decide)) dX4_completeCalls_53 ?_
            refine go_iload_n (pc := 56) rfl dX4_completeCalls_56 ?_
            refine gi_lald (pc := 57) (len := 13) hvx (ti_rfl l3) rfl (by omega) (by omega) dX4_completeCalls_57 (fun v19 v19w => ?_)
            refine go_ldc2 (pc := 58) kL_X4_109 dX4_completeCalls_58 ?_
            refine gu_lxor (pc := 61) dX4_completeCalls_61 (fun v20 => ?_)
            refine gu_land (pc := 62) dX4_completeCalls_62 (fun v21 => ?_)
            refine go_lstore (pc := 63) (Nat.le_of_ble_eq_true rfl) dX4_completeCalls_63 (go_lv (lv2 := [(0, .ref 49), (1, .int l1), (2, .int l2), (3, .int l3), (4, .long v21)]) rfl ?_)
            refine go_aload_n (pc := 65) rfl dX4_completeCalls_65 ?_
            refine go_aload_n (pc := 66) rfl dX4_completeCalls_66 ?_
            refine gi_getF (pc := 67) (q := 52) hvx fL_X4_23 rfl (Nat.le_of_ble_eq_true rfl) rfl (hvx.rf (by decide)) dX4_completeCalls_67 ?_
            refine go_iload_n (pc := 70) rfl dX4_completeCalls_70 ?_
            refine go_lload (pc := 71) rfl dX4_completeCalls_71 ?_
            refine go_invV (pc := 73) (sl := 0) (s_X4_add_f l (d + 0) hvx 52 (by decide) l3 (by rw [show (l3 : Int32).toInt = l3.toInt from (ti_rfl l3)]; omega) (by rw [show (l3 : Int32).toInt = l3.toInt from (ti_rfl l3)]; omega) v21) mL_X4_94 iM_X4_add sM_X4_add (hvx.sh rfl) rfl rfl rfl (Nat.le_of_ble_eq_true rfl) (show d + 0 + 1 + 1 ≤ d + 2 by omega) (show 8 + (8 + 11) + 40 * (d + 0 + 1) ≤ 40 * (d + 2) by omega) (g_c0 hvx.ln) (Nat.le_of_ble_eq_true rfl) dX4_completeCalls_73 ?_
            intro r h22 hq _
            obtain ⟨rfl, hv22, f23⟩ := hq
            have fx22 : FX KAc h h22 := FX.tr fxx f23
            refine go_iload_n (pc := 76) rfl dX4_completeCalls_76 ?_
            refine go_lload (pc := 77) rfl dX4_completeCalls_77 ?_
            refine go_lconst (pc := 79) (v := 0) (by decide) dX4_completeCalls_79 ?_
            refine gu_lcmp (pc := 80) dX4_completeCalls_80 (fun v24 => ?_)
            refine gf_if_eq (pc := 81) (tgt := 88) (ti_rfl v24) (by decide) dX4_completeCalls_81 (fun q25 => ?_) (fun q25 => ?_)
            ·
              refine go_iconst (pc := 88) (v := 0) (by decide) dX4_completeCalls_88 ?_
              have z26 : (0 : Int32).toInt = 0 := (ti_c (v := 0) (a := 0) (by decide))
              exact go_lv rfl (ih.2.2.1 l2 l3 0 l1 h22 hv22 (by omega) (by omega) (by omega) (by omega) (by omega) (by omega) (by omega) (by omega) fx22 (by omega))
            ·
              refine go_iconst (pc := 84) (v := 1) (by decide) dX4_completeCalls_84 ?_
              refine go_goto (pc := 85) (tgt := 89) (by decide) dX4_completeCalls_85 ?_
              have z27 : (1 : Int32).toInt = 1 := (ti_c (v := 1) (a := 1) (by decide))
              exact go_lv rfl (ih.2.2.1 l2 l3 1 l1 h22 hv22 (by omega) (by omega) (by omega) (by omega) (by omega) (by omega) (by omega) (by omega) fx22 (by omega))
      ·
        intro l2 l3 s0 s1 hx hvx l2l l2u l3l l3u s0l s0u s1l s1u fxx hm
        refine gf_ior (pc := 89) (ti_rfl s1) (ti_rfl s0) (by omega) (by omega) (by omega) (by omega) dX4_completeCalls_89 (fun v28 v28l v28u => ?_)
        refine go_istore_n (pc := 90) (Nat.le_of_ble_eq_true rfl) dX4_completeCalls_90 (go_lv (lv2 := [(0, .ref 49), (1, .int v28), (2, .int l2), (3, .int l3)]) rfl ?_)
        exact go_lv rfl (ih.2.2.2 v28 l2 l3 hx hvx (by omega) (by omega) (by omega) (by omega) (by omega) (by omega) fxx (by omega))
      ·
        intro l1 l2 l3 hx hvx l1l l1u l2l l2u l3l l3u fxx hm
        refine gf_iinc (pc := 91) (Nat.le_of_ble_eq_true rfl) rfl (ti_rfl l3) (ti_c (by decide)) (by omega) (by omega) dX4_completeCalls_91 (fun v29 e30 => ?_)
        refine go_lv (lv2 := [(0, .ref 49), (1, .int l1), (2, .int l2), (3, .int v29)]) rfl ?_
        refine go_goto (pc := 94) (tgt := 17) (by decide) dX4_completeCalls_94 ?_
        have z31 : (v29 : Int32).toInt = (l3.toInt + 1) := e30
        exact go_lv rfl (ih.2.1 l1 l2 v29 hx hvx (by omega) (by omega) (by omega) (by omega) (by omega) (by omega) fxx (by omega))
  refine go_iconst (pc := 0) (v := 0) (by decide) dX4_completeCalls_0 ?_
  refine go_istore_n (pc := 1) (Nat.le_of_ble_eq_true rfl) dX4_completeCalls_1 (go_lv (lv2 := [(0, .ref 49), (1, .int 0)]) rfl ?_)
  refine go_iconst (pc := 2) (v := 0) (by decide) dX4_completeCalls_2 ?_
  refine go_istore_n (pc := 3) (Nat.le_of_ble_eq_true rfl) dX4_completeCalls_3 (go_lv (lv2 := [(0, .ref 49), (1, .int 0), (2, .int 0)]) rfl ?_)
  have z32 : (0 : Int32).toInt = 0 := (ti_c (v := 0) (a := 0) (by decide))
  have z33 : (0 : Int32).toInt = 0 := (ti_c (v := 0) (a := 0) (by decide))
  exact go_lv rfl ((key 314).1 0 0 h hv (by omega) (by omega) (by omega) (by omega) fx (by omega))
set_option maxHeartbeats 4000000 in
set_option maxRecDepth 100000 in
theorem s_X4_findKept_f (l : Launch) (d : Nat) {P : PP} {h : HP} (hv : Iv P h) (a2 : Int32) (a2l : 0 ≤ a2.toInt) (a2u : a2.toInt ≤ 39) : Mt l yX4_findKept cX4_findKept 4 (some .long) (d + 5) [.ref 49, .int a2] h 0 0 (fun r h' => ∃ v : Int64, r = some (.long v) ∧ Iv P h' ∧ (FX KAc h h')) := by
  refine Mt_iv hv (by decide) (Nat.le_of_ble_eq_true rfl) ?_
  show Go l RX4 cX4_findKept 4 (g_rm (d + 5) 0 0) "findKept" (some .long) 117 0 0 (fun _ _ => True) (fun r h' => ∃ v : Int64, r = some (.long v) ∧ Iv P h' ∧ (FX KAc h h')) 0 0 [(0, .ref 49), (1, .int a2)] [] h
  have fx : FX KAc h h := FX.rfl
  have key : ∀ n : Nat, (∀ (l2 : Int32) (l3 : Int32) (hx : HP), Iv P hx → 0 ≤ l2.toInt → l2.toInt ≤ 1 → 0 ≤ l3.toInt → l3.toInt ≤ 259 → FX KAc h hx → (3 * (259 - l3.toInt) + 3 : Int) < n → Go l RX4 cX4_findKept 4 (g_rm (d + 5) 0 0) "findKept" (some .long) 117 0 0 (fun _ _ => True) (fun r h' => ∃ v : Int64, r = some (.long v) ∧ Iv P h' ∧ (FX KAc h h')) 0 13 [(0, .ref 49), (2, .int l2), (3, .int l3)] [] hx) ∧ (∀  (hx : HP), Iv P hx → FX KAc h hx → (1 : Int) < n → Go l RX4 cX4_findKept 4 (g_rm (d + 5) 0 0) "findKept" (some .long) 117 0 0 (fun _ _ => True) (fun r h' => ∃ v : Int64, r = some (.long v) ∧ Iv P h' ∧ (FX KAc h h')) 0 39 [(0, .ref 49)] [] hx) := by
    intro n
    induction n with
    | zero => exact ⟨(by intros; omega), (by intros; omega)⟩
    | succ n ih =>
      refine ⟨?_, ?_⟩
      ·
        intro l2 l3 hx hvx l2l l2u l3l l3u fxx hm
        refine go_iload_n (pc := 13) rfl dX4_findKept_13 ?_
        refine go_sipush (pc := 14) (v := 240) (by decide) dX4_findKept_14 ?_
        refine gf_icmp_gt (pc := 17) (tgt := 39) (ti_rfl l3) (ti_c (v := 240) (a := 240) (by decide)) (by decide) dX4_findKept_17 (fun q1 => ?_) (fun q1 => ?_)
        ·
          exact go_lv rfl (ih.2  hx hvx fxx (by omega))
        ·
          refine go_iload_n (pc := 20) rfl dX4_findKept_20 ?_
          refine gf_if_eq (pc := 21) (tgt := 39) (ti_rfl l2) (by decide) dX4_findKept_21 (fun q2 => ?_) (fun q2 => ?_)
          ·
            exact go_lv rfl (ih.2  hx hvx fxx (by omega))
          ·
            refine go_aload_n (pc := 24) rfl dX4_findKept_24 ?_
            refine go_invV (pc := 25) (sl := 0) (s_X4_completeCalls_f l (d + 2) hvx ) mL_X4_149 iM_X4_completeCalls sM_X4_completeCalls (hvx.sh rfl) rfl rfl rfl (Nat.le_of_ble_eq_true rfl) (show d + 2 + 2 + 1 ≤ d + 5 by omega) (show 8 + (6 + 11) + 40 * (d + 2 + 2) ≤ 40 * (d + 5) by omega) (g_c0 hvx.ln) (Nat.le_of_ble_eq_true rfl) dX4_findKept_25 ?_
            intro r h3 hq _
            obtain ⟨v5, rfl, v5l, v5u, hv3, f4⟩ := hq
            have fx3 : FX KAc h h3 := FX.tr fxx f4
            refine go_istore_n (pc := 28) (Nat.le_of_ble_eq_true rfl) dX4_findKept_28 (go_lv (lv2 := [(0, .ref 49), (2, .int v5), (3, .int l3)]) rfl ?_)
            refine go_aload_n (pc := 29) rfl dX4_findKept_29 ?_
            refine go_invV (pc := 30) (sl := 0) (s_X4_findOn_f l (d + 0) hv3 ) mL_X4_133 iM_X4_findOn sM_X4_findOn (hv3.sh rfl) rfl rfl rfl (Nat.le_of_ble_eq_true rfl) (show d + 0 + 4 + 1 ≤ d + 5 by omega) (show 8 + (2 + 11) + 40 * (d + 0 + 4) ≤ 40 * (d + 5) by omega) (g_c0 hv3.ln) (Nat.le_of_ble_eq_true rfl) dX4_findKept_30 ?_
            intro r h6 hq _
            obtain ⟨rfl, hv6, f7⟩ := hq
            have fx6 : FX KAc h h6 := FX.tr fx3 f7
            refine gf_iinc (pc := 33) (Nat.le_of_ble_eq_true rfl) rfl (ti_rfl l3) (ti_c (by decide)) (by omega) (by omega) dX4_findKept_33 (fun v8 e9 => ?_)
            refine go_lv (lv2 := [(0, .ref 49), (2, .int v5), (3, .int v8)]) rfl ?_
            refine go_goto (pc := 36) (tgt := 13) (by decide) dX4_findKept_36 ?_
            have z10 : (v8 : Int32).toInt = (l3.toInt + 1) := e9
            exact go_lv rfl (ih.1 v5 v8 h6 hv6 (by omega) (by omega) (by omega) (by omega) fx6 (by omega))
      ·
        intro hx hvx fxx hm
        refine go_aload_n (pc := 39) rfl dX4_findKept_39 ?_
        refine go_invV (pc := 40) (sl := 0) (s_X4_statementsFound l (d + 3) hvx ) mL_X4_136 iM_X4_statementsFound sM_X4_statementsFound (hvx.sh rfl) rfl rfl rfl (Nat.le_of_ble_eq_true rfl) (show d + 3 + 1 + 1 ≤ d + 5 by omega) (show 8 + (4 + 11) + 40 * (d + 3 + 1) ≤ 40 * (d + 5) by omega) (g_c0 hvx.ln) (Nat.le_of_ble_eq_true rfl) dX4_findKept_40 ?_
        intro r h11 hq _
        obtain ⟨v12, rfl, rfl⟩ := hq
        exact gi_lret (pc := 43) ⟨_, rfl, hvx, fxx⟩ hvx dX4_findKept_43
  refine go_aload_n (pc := 0) rfl dX4_findKept_0 ?_
  refine go_iload_n (pc := 1) rfl dX4_findKept_1 ?_
  refine go_invV (pc := 2) (sl := 0) (s_X4_beginFrom_f l (d + 1) hv a2 (by rw [show (a2 : Int32).toInt = a2.toInt from (ti_rfl a2)]; omega) (by rw [show (a2 : Int32).toInt = a2.toInt from (ti_rfl a2)]; omega)) mL_X4_129 iM_X4_beginFrom sM_X4_beginFrom (hv.sh rfl) rfl rfl rfl (Nat.le_of_ble_eq_true rfl) (show d + 1 + 3 + 1 ≤ d + 5 by omega) (show 8 + (4 + 11) + 40 * (d + 1 + 3) ≤ 40 * (d + 5) by omega) (g_c0 hv.ln) (Nat.le_of_ble_eq_true rfl) dX4_findKept_2 ?_
  intro r h13 hq _
  obtain ⟨rfl, hv13, f14⟩ := hq
  have fx13 : FX KAc h h13 := FX.tr fx f14
  refine go_aload_n (pc := 5) rfl dX4_findKept_5 ?_
  refine go_invV (pc := 6) (sl := 0) (s_X4_findOn_f l (d + 0) hv13 ) mL_X4_133 iM_X4_findOn sM_X4_findOn (hv13.sh rfl) rfl rfl rfl (Nat.le_of_ble_eq_true rfl) (show d + 0 + 4 + 1 ≤ d + 5 by omega) (show 8 + (2 + 11) + 40 * (d + 0 + 4) ≤ 40 * (d + 5) by omega) (g_c0 hv13.ln) (Nat.le_of_ble_eq_true rfl) dX4_findKept_6 ?_
  intro r h15 hq _
  obtain ⟨rfl, hv15, f16⟩ := hq
  have fx15 : FX KAc h h15 := FX.tr fx13 f16
  refine go_iconst (pc := 9) (v := 1) (by decide) dX4_findKept_9 ?_
  refine go_istore_n (pc := 10) (Nat.le_of_ble_eq_true rfl) dX4_findKept_10 (go_lv (lv2 := [(0, .ref 49), (1, .int a2), (2, .int 1)]) rfl ?_)
  refine go_iconst (pc := 11) (v := 0) (by decide) dX4_findKept_11 ?_
  refine go_istore_n (pc := 12) (Nat.le_of_ble_eq_true rfl) dX4_findKept_12 (go_lv (lv2 := [(0, .ref 49), (1, .int a2), (2, .int 1), (3, .int 0)]) rfl ?_)
  have z17 : (1 : Int32).toInt = 1 := (ti_c (v := 1) (a := 1) (by decide))
  have z18 : (0 : Int32).toInt = 0 := (ti_c (v := 0) (a := 0) (by decide))
  exact go_lv rfl ((key 797).1 1 0 h15 hv15 (by omega) (by omega) (by omega) (by omega) fx15 (by omega))
set_option maxHeartbeats 4000000 in
set_option maxRecDepth 100000 in
theorem s_X4_keptFor_f (l : Launch) (d : Nat) {P : PP} {h : HP} (hv : Iv P h) (a2 : Int32) (a2l : 0 ≤ a2.toInt) (a2u : a2.toInt ≤ 39) : Mt l yX4_keptFor cX4_keptFor 2 (some .long) (d + 6) [.ref 49, .int a2] h 0 0 (fun r h' => ∃ v : Int64, r = some (.long v) ∧ Iv P h' ∧ (FX KAc h h')) := by
  refine Mt_iv hv (by decide) (Nat.le_of_ble_eq_true rfl) ?_
  show Go l RX4 cX4_keptFor 2 (g_rm (d + 6) 0 0) "keptFor" (some .long) 117 0 0 (fun _ _ => True) (fun r h' => ∃ v : Int64, r = some (.long v) ∧ Iv P h' ∧ (FX KAc h h')) 0 0 [(0, .ref 49), (1, .int a2)] [] h
  have fx : FX KAc h h := FX.rfl
  have key : ∀ n : Nat, (∀ (l1 : Int32) (hx : HP), Iv P hx → 0 ≤ l1.toInt → l1.toInt ≤ 39 → FX KAc h hx → (1 : Int) < n → Go l RX4 cX4_keptFor 2 (g_rm (d + 6) 0 0) "keptFor" (some .long) 117 0 0 (fun _ _ => True) (fun r h' => ∃ v : Int64, r = some (.long v) ∧ Iv P h' ∧ (FX KAc h h')) 0 35 [(0, .ref 49), (1, .int l1)] [] hx) := by
    intro n
    induction n with
    | zero => exact (by intros; omega)
    | succ n ih =>
      refine ?_
      ·
        intro l1 hx hvx l1l l1u fxx hm
        refine go_aload_n (pc := 35) rfl dX4_keptFor_35 ?_
        refine gi_getF (pc := 36) (q := 56) hvx fL_X4_43 rfl (Nat.le_of_ble_eq_true rfl) rfl (hvx.rf (by decide)) dX4_keptFor_36 ?_
        refine go_iload_n (pc := 39) rfl dX4_keptFor_39 ?_
        refine gi_lald (pc := 40) (len := 40) hvx (ti_rfl l1) rfl (by omega) (by omega) dX4_keptFor_40 (fun v1 v1w => ?_)
        exact gi_lret (pc := 41) ⟨_, rfl, hvx, fxx⟩ hvx dX4_keptFor_41
  refine go_aload_n (pc := 0) rfl dX4_keptFor_0 ?_
  refine gi_getL (pc := 1) hv fL_X4_46 rfl (Nat.le_of_ble_eq_true rfl) rfl dX4_keptFor_1 (fun v2 => ?_)
  refine go_iload_n (pc := 4) rfl dX4_keptFor_4 ?_
  refine go_invS (pc := 5) (sl := 0) (s_X7_has_f l (d + 4) hv v2 a2) mL_X4_102 iM_X7_has rfl rfl (Nat.le_of_ble_eq_true rfl) (show d + 4 + 1 + 1 ≤ d + 6 by omega) (show 8 + (3 + 11) + 40 * (d + 4 + 1) ≤ 40 * (d + 6) by omega) (g_c0 hv.ln) (Nat.le_of_ble_eq_true rfl) dX4_keptFor_5 ?_
  intro r h3 hq _
  obtain ⟨v5, rfl, v5l, v5u, rfl, f4⟩ := hq
  refine gf_if_ne (pc := 8) (tgt := 35) (ti_rfl v5) (by decide) dX4_keptFor_8 (fun q6 => ?_) (fun q6 => ?_)
  ·
    exact go_lv rfl ((key 14) a2 h hv (by omega) (by omega) fx (by omega))
  ·
    refine go_aload_n (pc := 11) rfl dX4_keptFor_11 ?_
    refine gi_getF (pc := 12) (q := 56) hv fL_X4_43 rfl (Nat.le_of_ble_eq_true rfl) rfl (hv.rf (by decide)) dX4_keptFor_12 ?_
    refine go_iload_n (pc := 15) rfl dX4_keptFor_15 ?_
    refine go_aload_n (pc := 16) rfl dX4_keptFor_16 ?_
    refine go_iload_n (pc := 17) rfl dX4_keptFor_17 ?_
    refine go_invV (pc := 18) (sl := 0) (s_X4_findKept_f l (d + 0) hv a2 (by rw [show (a2 : Int32).toInt = a2.toInt from (ti_rfl a2)]; omega) (by rw [show (a2 : Int32).toInt = a2.toInt from (ti_rfl a2)]; omega)) mL_X4_146 iM_X4_findKept sM_X4_findKept (hv.sh rfl) rfl rfl rfl (Nat.le_of_ble_eq_true rfl) (show d + 0 + 5 + 1 ≤ d + 6 by omega) (show 8 + (4 + 11) + 40 * (d + 0 + 5) ≤ 40 * (d + 6) by omega) (g_c0 hv.ln) (Nat.le_of_ble_eq_true rfl) dX4_keptFor_18 ?_
    intro r h7 hq _
    obtain ⟨v9, rfl, hv7, f8⟩ := hq
    have fx7 : FX KAc h h7 := FX.tr fx f8
    refine gi_last (pc := 21) (len := 40) hv7 (ti_rfl a2) rfl (by omega) (by omega) dX4_keptFor_21 (fun h10 hv10 hv10e => ?_)
    have fx10 : FX KAc h h10 := FX.pL fx7 hv10e (by unfold KAc; omega)
    refine go_aload_n (pc := 22) rfl dX4_keptFor_22 ?_
    refine go_dup (pc := 23) rfl dX4_keptFor_23 ?_
    refine gi_getL (pc := 24) hv10 fL_X4_46 rfl (Nat.le_of_ble_eq_true rfl) rfl dX4_keptFor_24 (fun v11 => ?_)
    refine go_iload_n (pc := 27) rfl dX4_keptFor_27 ?_
    refine go_invS (pc := 28) (sl := 0) (s_X7_bit_f l (d + 4) hv10 a2) mL_X4_91 iM_X7_bit rfl rfl (Nat.le_of_ble_eq_true rfl) (show d + 4 + 1 + 1 ≤ d + 6 by omega) (show 8 + (1 + 11) + 40 * (d + 4 + 1) ≤ 40 * (d + 6) by omega) (g_c0 hv10.ln) (Nat.le_of_ble_eq_true rfl) dX4_keptFor_28 ?_
    intro r h12 hq _
    obtain ⟨v14, rfl, rfl, f13⟩ := hq
    refine gu_lor (pc := 31) dX4_keptFor_31 (fun v15 => ?_)
    refine gi_putL (pc := 32) hv10 (fP_X4_46 _) rfl (Nat.le_of_ble_eq_true rfl) rfl rfl rfl dX4_keptFor_32 (fun h16 hv16 hv16e => ?_)
    have fx16 : FX KAc h h16 := FX.pL fx10 hv16e (by unfold KAc; omega)
    exact go_lv rfl ((key 14) a2 h16 hv16 (by omega) (by omega) fx16 (by omega))
