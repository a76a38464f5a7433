set_option maxHeartbeats 4000000 in
set_option maxRecDepth 100000 in
theorem s_X8_joins_x_f (l : Launch) (d : Nat) {P : PP} {h : HP} (hv : Iv P h)  : Mt l yX8_joins cX8_joins 2 none (d + 1) [.ref 70] h 0 0 (fun r h' => r = none ∧ Iv P h' ∧ (JN h.2.1 h'.2.1) ∧ (FX KAq h h')) := by
  refine Mt_iv hv (by decide) (Nat.le_of_ble_eq_true rfl) ?_
  show Go l RX8 cX8_joins 2 (g_rm (d + 1) 0 0) "joins" none 117 0 0 (fun _ _ => True) (fun r h' => r = none ∧ Iv P h' ∧ (JN h.2.1 h'.2.1) ∧ (FX KAq h h')) 0 0 [(0, .ref 70)] [] h
  have fx : FX KAq h h := FX.rfl
  have key : ∀ n : Nat, (∀ (l1 : Int32) (hx : HP), Iv P hx → 0 ≤ l1.toInt → l1.toInt ≤ 19 → (∀ j : Nat, hx.2.1 112 j = if (j : Int) < l1.toInt then h.2.1 112 j ||| h.2.1 109 j else h.2.1 112 j) → (∀ c j : Nat, c ≠ 112 → hx.2.1 c j = h.2.1 c j) → FX KAq h hx → (3 * (19 - l1.toInt) + 2 : Int) < n → Go l RX8 cX8_joins 2 (g_rm (d + 1) 0 0) "joins" none 117 0 0 (fun _ _ => True) (fun r h' => r = none ∧ Iv P h' ∧ (JN h.2.1 h'.2.1) ∧ (FX KAq h h')) 0 2 [(0, .ref 70), (1, .int l1)] [] hx) := by
    intro n
    induction n with
    | zero => exact (by intros; omega)
    | succ n ih =>
      refine ?_
      ·
        intro l1 hx hvx l1l l1u x0 x1 fxx hm
        refine go_iload_n (pc := 2) rfl dX8_joins_2 ?_
        refine go_bipush (pc := 3) (v := 19) (by decide) dX8_joins_3 ?_
        refine gf_icmp_ge (pc := 5) (tgt := 29) (ti_rfl l1) (ti_c (v := 19) (a := 19) (by decide)) (by decide) dX8_joins_5 (fun q1 => ?_) (fun q1 => ?_)
        ·
          exact gi_vret (pc := 29) ⟨rfl, hvx, (JN.mk (fun j q => by rw [x0, if_pos (by omega)]) x1), fxx⟩ hvx dX8_joins_29
        ·
          refine go_aload_n (pc := 8) rfl dX8_joins_8 ?_
          refine gi_getF (pc := 9) (q := 112) hvx fL_X8_136 rfl (Nat.le_of_ble_eq_true rfl) rfl (hvx.rf (by decide)) dX8_joins_9 ?_
          refine go_iload_n (pc := 12) rfl dX8_joins_12 ?_
          refine go_dup2 (pc := 13) rfl rfl dX8_joins_13 ?_
          refine gi_iald (pc := 14) (lo := -2147483648) (hi := 2147483647) (len := 19) hvx (ti_rfl l1) rfl (by omega) (by omega) (fun _ => rfl) dX8_joins_14 (fun v2 v2l v2u v2w => ?_)
          refine go_aload_n (pc := 15) rfl dX8_joins_15 ?_
          refine gi_getF (pc := 16) (q := 109) hvx fL_X8_127 rfl (Nat.le_of_ble_eq_true rfl) rfl (hvx.rf (by decide)) dX8_joins_16 ?_
          refine go_iload_n (pc := 19) rfl dX8_joins_19 ?_
          refine gi_iald (pc := 20) (lo := -2147483648) (hi := 2147483647) (len := 19) hvx (ti_rfl l1) rfl (by omega) (by omega) (fun _ => rfl) dX8_joins_20 (fun v3 v3l v3u v3w => ?_)
          refine gx_ior (pc := 21) dX8_joins_21 (fun v4 v4x => ?_)
          refine gi_iast (pc := 22) (lo := -2147483648) (hi := 2147483647) (len := 19) hvx (ti_rfl l1) (ti_rfl v4) rfl (by omega) (by omega) (fun _ => rfl) (ti_ge (ti_rfl v4)) (ti_le2 (ti_rfl v4)) (by decide) dX8_joins_22 (fun h5 hv5 hv5e => ?_)
          have fx5 : FX KAq h h5 := FX.pI fxx hv5e (by unfold KAq; omega)
          refine gf_iinc (pc := 23) (Nat.le_of_ble_eq_true rfl) rfl (ti_rfl l1) (ti_c (by decide)) (by omega) (by omega) dX8_joins_23 (fun v6 e7 => ?_)
          refine go_lv (lv2 := [(0, .ref 70), (1, .int v6)]) rfl ?_
          refine go_goto (pc := 26) (tgt := 2) (by decide) dX8_joins_26 ?_
          have z8 : (v6 : Int32).toInt = (l1.toInt + 1) := e7
          exact go_lv rfl (ih v6 h5 hv5 (by omega) (by omega) (fun j => by rw [hv5e]; show (if 112 = 112 ∧ j = (l1.toInt).toNat then v4 else hx.2.1 112 j) = _; by_cases q : j = (l1.toInt).toNat; (rw [if_pos ⟨rfl, q⟩, if_pos (by omega), v4x, v2w, v3w, x0, if_neg (by omega), x1 109 _ (by omega), q]); (rw [if_neg (by omega), x0]; by_cases q2 : (j : Int) < l1.toInt; (rw [if_pos q2, if_pos (by omega)]); (rw [if_neg q2, if_neg (by omega)]))) (fun c j q => by rw [hv5e]; show (if c = 112 ∧ j = _ then _ else hx.2.1 c j) = _; rw [if_neg (by omega)]; exact x1 c j q) fx5 (by omega))
  refine go_iconst (pc := 0) (v := 0) (by decide) dX8_joins_0 ?_
  refine go_istore_n (pc := 1) (Nat.le_of_ble_eq_true rfl) dX8_joins_1 (go_lv (lv2 := [(0, .ref 70), (1, .int 0)]) rfl ?_)
  have z9 : (0 : Int32).toInt = 0 := (ti_c (v := 0) (a := 0) (by decide))
  exact go_lv rfl ((key 76) 0 h hv (by omega) (by omega) (fun j => by rw [if_neg (by omega)]) (fun _ _ _ => rfl) fx (by omega))
set_option maxHeartbeats 4000000 in
set_option maxRecDepth 100000 in
theorem s_X8_keptFor2_f (l : Launch) (d : Nat) {P : PP} {h : HP} (hv : Iv P h) (a2 : Int32) (a2l : 0 ≤ a2.toInt) (a2u : a2.toInt ≤ 39) (ckf : CKF h.2.1) : Mt l yX8_keptFor cX8_keptFor 6 (some .long) (d + 6) [.ref 70, .int a2] h 0 0 (fun r h' => ∃ v : Int64, r = some (.long v) ∧ Iv (gs P) h' ∧ (FX KAq h h')) := by
  refine Mt_iv hv (by decide) (Nat.le_of_ble_eq_true rfl) ?_
  show Go l RX8 cX8_keptFor 6 (g_rm (d + 6) 0 0) "keptFor" (some .long) 117 0 0 (fun _ _ => True) (fun r h' => ∃ v : Int64, r = some (.long v) ∧ Iv (gs P) h' ∧ (FX KAq h h')) 0 0 [(0, .ref 70), (1, .int a2)] [] h
  have fx : FX KAq h h := FX.rfl
  have key : ∀ n : Nat, (∀ (l1 : Int32) (l2 : Int32) (hx : HP), Iv (gs P) hx → 0 ≤ l1.toInt → l1.toInt ≤ 39 → 0 ≤ l2.toInt → l2.toInt ≤ 19 → FX KAq h hx → (100000000 + (19 - l2.toInt) : Int) < n → Go l RX8 cX8_keptFor 6 (g_rm (d + 6) 0 0) "keptFor" (some .long) 117 0 0 (fun _ _ => True) (fun r h' => ∃ v : Int64, r = some (.long v) ∧ Iv (gs P) h' ∧ (FX KAq h h')) 0 10 [(0, .ref 70), (1, .int l1), (2, .int l2)] [] hx) ∧ (∀ (l2 : Int32) (hx : HP), Iv (gs P) hx → 0 ≤ l2.toInt → l2.toInt ≤ 1 → (0 ≤ ct hx.2.1 112 ∧ ct hx.2.1 112 ≤ 585) → FX KAq h hx → (10000 * (585 - ct hx.2.1 112) + 10000 * l2.toInt + 5000 : Int) < n → Go l RX8 cX8_keptFor 6 (g_rm (d + 6) 0 0) "keptFor" (some .long) 117 0 0 (fun _ _ => True) (fun r h' => ∃ v : Int64, r = some (.long v) ∧ Iv (gs P) h' ∧ (FX KAq h h')) 0 48 [(0, .ref 70), (2, .int l2)] [] hx) ∧ (∀ (l2 : Int32) (l3 : Int32) (hx : HP), Iv (gs P) hx → 0 ≤ l2.toInt → l2.toInt ≤ 1 → 0 ≤ l3.toInt → l3.toInt ≤ 240 → (0 ≤ ct hx.2.1 112 ∧ ct hx.2.1 112 ≤ 585) → FX KAq h hx → (10000 * (585 - ct hx.2.1 112) + 10000 * l2.toInt + 6000 + 10 * (240 - l3.toInt) : Int) < n → Go l RX8 cX8_keptFor 6 (g_rm (d + 6) 0 0) "keptFor" (some .long) 117 0 0 (fun _ _ => True) (fun r h' => ∃ v : Int64, r = some (.long v) ∧ Iv (gs P) h' ∧ (FX KAq h h')) 0 56 [(0, .ref 70), (2, .int l2), (3, .int l3)] [] hx) ∧ (∀ (l3 : Int64) (l5 : Int32) (hx : HP), Iv (gs P) hx → 0 ≤ l5.toInt → l5.toInt ≤ 40 → FX KAq h hx → (100 - l5.toInt : Int) < n → Go l RX8 cX8_keptFor 6 (g_rm (d + 6) 0 0) "keptFor" (some .long) 117 0 0 (fun _ _ => True) (fun r h' => ∃ v : Int64, r = some (.long v) ∧ Iv (gs P) h' ∧ (FX KAq h h')) 0 137 [(0, .ref 70), (3, .long l3), (5, .int l5)] [] hx) := by
    intro n
    induction n with
    | zero => exact ⟨(by intros; omega), (by intros; omega), (by intros; omega), (by intros; omega)⟩
    | succ n ih =>
      refine ⟨?_, ?_, ?_, ?_⟩
      ·
        intro l1 l2 hx hvx l1l l1u l2l l2u fxx hm
        refine go_iload_n (pc := 10) rfl dX8_keptFor_10 ?_
        refine go_bipush (pc := 11) (v := 19) (by decide) dX8_keptFor_11 ?_
        refine gf_icmp_ge (pc := 13) (tgt := 29) (ti_rfl l2) (ti_c (v := 19) (a := 19) (by decide)) (by decide) dX8_keptFor_13 (fun q1 => ?_) (fun q1 => ?_)
        ·
          refine go_aload_n (pc := 29) rfl dX8_keptFor_29 ?_
          refine go_invV (pc := 30) (sl := 0) (s_X8_empties_x2_f l (d + 4) hvx ) mL_X8_356 iM_X8_empties sM_X8_empties (hvx.sh rfl) rfl rfl rfl (Nat.le_of_ble_eq_true rfl) (show d + 4 + 1 + 1 ≤ d + 6 by omega) (show 8 + (2 + 11) + 40 * (d + 4 + 1) ≤ 40 * (d + 6) by omega) (g_c0 hvx.ln) (Nat.le_of_ble_eq_true rfl) dX8_keptFor_30 ?_
          intro r h2 hq _
          obtain ⟨rfl, hv2, f3, f4, f5, f6⟩ := hq
          have fx2 : FX KAq h h2 := FX.tr fxx f6
          refine go_aload_n (pc := 33) rfl dX8_keptFor_33 ?_
          refine go_iload_n (pc := 34) rfl dX8_keptFor_34 ?_
          refine go_invV (pc := 35) (sl := 0) (s_X8_reachAll2_f l (d + 2) hv2 l1 (by rw [show (l1 : Int32).toInt = l1.toInt from (ti_rfl l1)]; omega) (by rw [show (l1 : Int32).toInt = l1.toInt from (ti_rfl l1)]; omega) (EM.hw f3)) mL_X8_372 iM_X8_reachAll sM_X8_reachAll (hv2.sh rfl) rfl rfl rfl (Nat.le_of_ble_eq_true rfl) (show d + 2 + 3 + 1 ≤ d + 6 by omega) (show 8 + (3 + 11) + 40 * (d + 2 + 3) ≤ 40 * (d + 6) by omega) (g_c0 hv2.ln) (Nat.le_of_ble_eq_true rfl) dX8_keptFor_35 ?_
          intro r h7 hq _
          obtain ⟨rfl, hv7, f8, f9, f10⟩ := hq
          have fx7 : FX KAq h h7 := FX.tr fx2 f10
          refine go_aload_n (pc := 38) rfl dX8_keptFor_38 ?_
          refine go_invV (pc := 39) (sl := 0) (s_X8_goesBack2_f l (d + 0) hv7 f8.1 (CKF.ve (VE.ofgs hv hv7) ckf)) mL_X8_375 iM_X8_goesBack sM_X8_goesBack (hv7.sh rfl) rfl rfl rfl (Nat.le_of_ble_eq_true rfl) (show d + 0 + 5 + 1 ≤ d + 6 by omega) (show 8 + (2 + 11) + 40 * (d + 0 + 5) ≤ 40 * (d + 6) by omega) (g_c0 hv7.ln) (Nat.le_of_ble_eq_true rfl) dX8_keptFor_39 ?_
          intro r h11 hq _
          obtain ⟨rfl, hv11, f12, f13, f14, f15⟩ := hq
          have fx11 : FX KAq h h11 := FX.tr fx7 f15
          refine go_aload_n (pc := 42) rfl dX8_keptFor_42 ?_
          refine go_invV (pc := 43) (sl := 0) (s_X8_joins_x_f l (d + 4) hv11 ) mL_X8_407 iM_X8_joins sM_X8_joins (hv11.sh rfl) rfl rfl rfl (Nat.le_of_ble_eq_true rfl) (show d + 4 + 1 + 1 ≤ d + 6 by omega) (show 8 + (2 + 11) + 40 * (d + 4 + 1) ≤ 40 * (d + 6) by omega) (g_c0 hv11.ln) (Nat.le_of_ble_eq_true rfl) dX8_keptFor_43 ?_
          intro r h16 hq _
          obtain ⟨rfl, hv16, f17, f18⟩ := hq
          have fx16 : FX KAq h h16 := FX.tr fx11 f18
          have ctz := ct_lo h16.2.1 112
          refine go_iconst (pc := 46) (v := 1) (by decide) dX8_keptFor_46 ?_
          refine go_istore_n (pc := 47) (Nat.le_of_ble_eq_true rfl) dX8_keptFor_47 (go_lv (lv2 := [(0, .ref 70), (1, .int l1), (2, .int 1)]) rfl ?_)
          have z19 : (1 : Int32).toInt = 1 := (ti_c (v := 1) (a := 1) (by decide))
          exact go_lv rfl (ih.2.1 1 h16 hv16 (by omega) (by omega) ⟨ct_lo _ _, ct_hi _ _⟩ fx16 (by omega))
        ·
          refine go_aload_n (pc := 16) rfl dX8_keptFor_16 ?_
          refine gi_getF (pc := 17) (q := 112) hvx fL_X8_136 rfl (Nat.le_of_ble_eq_true rfl) rfl (hvx.rf (by decide)) dX8_keptFor_17 ?_
          refine go_iload_n (pc := 20) rfl dX8_keptFor_20 ?_
          refine go_iconst (pc := 21) (v := 0) (by decide) dX8_keptFor_21 ?_
          refine gi_iast (pc := 22) (lo := -2147483648) (hi := 2147483647) (len := 19) hvx (ti_rfl l2) (ti_c (v := 0) (a := 0) (by decide)) rfl (by omega) (by omega) (fun _ => rfl) (ti_ge (ti_c (v := 0) (a := 0) (by decide))) (ti_le2 (ti_c (v := 0) (a := 0) (by decide))) (by decide) dX8_keptFor_22 (fun h20 hv20 hv20e => ?_)
          have fx20 : FX KAq h h20 := FX.pI fxx hv20e (by unfold KAq; omega)
          refine gf_iinc (pc := 23) (Nat.le_of_ble_eq_true rfl) rfl (ti_rfl l2) (ti_c (by decide)) (by omega) (by omega) dX8_keptFor_23 (fun v21 e22 => ?_)
          refine go_lv (lv2 := [(0, .ref 70), (1, .int l1), (2, .int v21)]) rfl ?_
          refine go_goto (pc := 26) (tgt := 10) (by decide) dX8_keptFor_26 ?_
          have z23 : (v21 : Int32).toInt = (l2.toInt + 1) := e22
          exact go_lv rfl (ih.1 l1 v21 h20 hv20 (by omega) (by omega) (by omega) (by omega) fx20 (by omega))
      ·
        intro l2 hx hvx l2l l2u x0 fxx hm
        refine go_iload_n (pc := 48) rfl dX8_keptFor_48 ?_
        refine gf_if_eq (pc := 49) (tgt := 132) (ti_rfl l2) (by decide) dX8_keptFor_49 (fun q24 => ?_) (fun q24 => ?_)
        ·
          refine go_lconst (pc := 132) (v := 0) (by decide) dX8_keptFor_132 ?_
          refine go_lstore_n (pc := 133) (Nat.le_of_ble_eq_true rfl) dX8_keptFor_133 (go_lv (lv2 := [(0, .ref 70), (2, .int l2), (3, .long 0)]) rfl ?_)
          refine go_iconst (pc := 134) (v := 0) (by decide) dX8_keptFor_134 ?_
          refine go_istore (pc := 135) (Nat.le_of_ble_eq_true rfl) dX8_keptFor_135 (go_lv (lv2 := [(0, .ref 70), (2, .int l2), (3, .long 0), (5, .int 0)]) rfl ?_)
          have z25 : (0 : Int32).toInt = 0 := (ti_c (v := 0) (a := 0) (by decide))
          exact go_lv rfl (ih.2.2.2 0 0 hx hvx (by omega) (by omega) fxx (by omega))
        ·
          refine go_iconst (pc := 52) (v := 0) (by decide) dX8_keptFor_52 ?_
          refine go_istore_n (pc := 53) (Nat.le_of_ble_eq_true rfl) dX8_keptFor_53 (go_lv (lv2 := [(0, .ref 70), (2, .int 0)]) rfl ?_)
          refine go_iconst (pc := 54) (v := 0) (by decide) dX8_keptFor_54 ?_
          refine go_istore_n (pc := 55) (Nat.le_of_ble_eq_true rfl) dX8_keptFor_55 (go_lv (lv2 := [(0, .ref 70), (2, .int 0), (3, .int 0)]) rfl ?_)
          have z26 : (0 : Int32).toInt = 0 := (ti_c (v := 0) (a := 0) (by decide))
          have z27 : (0 : Int32).toInt = 0 := (ti_c (v := 0) (a := 0) (by decide))
          exact go_lv rfl (ih.2.2.1 0 0 hx hvx (by omega) (by omega) (by omega) (by omega) ⟨ct_lo _ _, ct_hi _ _⟩ fxx (by omega))
      ·
        intro l2 l3 hx hvx l2l l2u l3l l3u x0 fxx hm
        refine go_iload_n (pc := 56) rfl dX8_keptFor_56 ?_
        refine go_bipush (pc := 57) (v := 6) (by decide) dX8_keptFor_57 ?_
        refine go_aload_n (pc := 59) rfl dX8_keptFor_59 ?_
        refine gi_getF (pc := 60) (q := 75) hvx fL_X8_23 rfl (Nat.le_of_ble_eq_true rfl) rfl (hvx.rf (by decide)) dX8_keptFor_60 ?_
        refine go_aload_n (pc := 63) rfl dX8_keptFor_63 ?_
        refine gi_get (pc := 64) (lo := 0) (hi := 1) hvx fL_X8_228 rfl (Nat.le_of_ble_eq_true rfl) rfl rfl dX8_keptFor_64 (fun v28 v28l v28u v28w => ?_)
        refine gi_iald (pc := 67) (lo := 0) (hi := 40) (len := 2) hvx (ti_rfl v28) rfl (by omega) (by omega) (fun _ => rfl) dX8_keptFor_67 (fun v29 v29l v29u v29w => ?_)
        refine gf_imul (pc := 68) (ti_c (v := 6) (a := 6) (by decide)) (ti_rfl v29) (by omega) (by omega) dX8_keptFor_68 (fun v30 e31 => ?_)
        refine gf_icmp_ge (pc := 69) (tgt := 129) (ti_rfl l3) e31 (by decide) dX8_keptFor_69 (fun q32 => ?_) (fun q32 => ?_)
        ·
          refine go_goto (pc := 129) (tgt := 48) (by decide) dX8_keptFor_129 ?_
          exact go_lv rfl (ih.2.1 l2 hx hvx (by omega) (by omega) ⟨ct_lo _ _, ct_hi _ _⟩ fxx (by omega))
        ·
          refine go_aload_n (pc := 72) rfl dX8_keptFor_72 ?_
          refine go_iload_n (pc := 73) rfl dX8_keptFor_73 ?_
          refine go_bipush (pc := 74) (v := 6) (by decide) dX8_keptFor_74 ?_
          refine gf_idiv (pc := 76) (ti_rfl l3) (ti_c (v := 6) (a := 6) (by decide)) (by omega) (by omega) dX8_keptFor_76 (fun v33 e34 => ?_)
          refine go_iconst (pc := 77) (v := 1) (by decide) dX8_keptFor_77 ?_
          refine go_iload_n (pc := 78) rfl dX8_keptFor_78 ?_
          refine go_bipush (pc := 79) (v := 6) (by decide) dX8_keptFor_79 ?_
          refine gf_irem (pc := 81) (ti_rfl l3) (ti_c (v := 6) (a := 6) (by decide)) (by omega) (by omega) dX8_keptFor_81 (fun v35 e36 => ?_)
          refine gf_iadd (pc := 82) (ti_c (v := 1) (a := 1) (by decide)) e36 (by omega) (by omega) dX8_keptFor_82 (fun v37 e38 => ?_)
          refine go_invV (pc := 83) (sl := 0) (s_X8_isWanted_x l (d + 2) hvx v33 (by rw [show (v33 : Int32).toInt = (l3.toInt / 6) from e34]; omega) (by rw [show (v33 : Int32).toInt = (l3.toInt / 6) from e34]; omega) v37 (by rw [show (v37 : Int32).toInt = (1 + (l3.toInt % 6)) from e38]; omega) (by rw [show (v37 : Int32).toInt = (1 + (l3.toInt % 6)) from e38]; omega) (CKF.ve (VE.ofgs hv hvx) ckf)) mL_X8_410 iM_X8_isWanted sM_X8_isWanted (hvx.sh rfl) rfl rfl rfl (Nat.le_of_ble_eq_true rfl) (show d + 2 + 3 + 1 ≤ d + 6 by omega) (show 8 + (3 + 11) + 40 * (d + 2 + 3) ≤ 40 * (d + 6) by omega) (g_c0 hvx.ln) (Nat.le_of_ble_eq_true rfl) dX8_keptFor_83 ?_
          intro r h39 hq _
          obtain ⟨v41, rfl, v41l, v41u, rfl, f40⟩ := hq
          try rw [show (v33 : Int32).toInt = (l3.toInt / 6) from e34] at f40
          try rw [show (v37 : Int32).toInt = (1 + (l3.toInt % 6)) from e38] at f40
          refine gf_if_ne (pc := 86) (tgt := 92) (ti_rfl v41) (by decide) dX8_keptFor_86 (fun q42 => ?_) (fun q42 => ?_)
          ·
            refine go_aload_n (pc := 92) rfl dX8_keptFor_92 ?_
            refine go_invV (pc := 93) (sl := 0) (s_X8_empties_x2_f l (d + 4) hvx ) mL_X8_356 iM_X8_empties sM_X8_empties (hvx.sh rfl) rfl rfl rfl (Nat.le_of_ble_eq_true rfl) (show d + 4 + 1 + 1 ≤ d + 6 by omega) (show 8 + (2 + 11) + 40 * (d + 4 + 1) ≤ 40 * (d + 6) by omega) (g_c0 hvx.ln) (Nat.le_of_ble_eq_true rfl) dX8_keptFor_93 ?_
            intro r h43 hq _
            obtain ⟨rfl, hv43, f44, f45, f46, f47⟩ := hq
            have fx43 : FX KAq h h43 := FX.tr fxx f47
            refine go_aload_n (pc := 96) rfl dX8_keptFor_96 ?_
            refine go_iload_n (pc := 97) rfl dX8_keptFor_97 ?_
            refine go_bipush (pc := 98) (v := 6) (by decide) dX8_keptFor_98 ?_
            refine gf_idiv (pc := 100) (ti_rfl l3) (ti_c (v := 6) (a := 6) (by decide)) (by omega) (by omega) dX8_keptFor_100 (fun v48 e49 => ?_)
            refine go_iconst (pc := 101) (v := 1) (by decide) dX8_keptFor_101 ?_
            refine go_iload_n (pc := 102) rfl dX8_keptFor_102 ?_
            refine go_bipush (pc := 103) (v := 6) (by decide) dX8_keptFor_103 ?_
            refine gf_irem (pc := 105) (ti_rfl l3) (ti_c (v := 6) (a := 6) (by decide)) (by omega) (by omega) dX8_keptFor_105 (fun v50 e51 => ?_)
            refine gf_iadd (pc := 106) (ti_c (v := 1) (a := 1) (by decide)) e51 (by omega) (by omega) dX8_keptFor_106 (fun v52 e53 => ?_)
            refine go_invS (pc := 107) (sl := 0) (s_X8_statementPlace_x2_f l (d + 4) hv43 v48 (by rw [show (v48 : Int32).toInt = (l3.toInt / 6) from e49]; omega) (by rw [show (v48 : Int32).toInt = (l3.toInt / 6) from e49]; omega) v52 (by rw [show (v52 : Int32).toInt = (1 + (l3.toInt % 6)) from e53]; omega) (by rw [show (v52 : Int32).toInt = (1 + (l3.toInt % 6)) from e53]; omega)) mL_X8_291 iM_X8_statementPlace rfl rfl (Nat.le_of_ble_eq_true rfl) (show d + 4 + 1 + 1 ≤ d + 6 by omega) (show 8 + (2 + 11) + 40 * (d + 4 + 1) ≤ 40 * (d + 6) by omega) (g_c0 hv43.ln) (Nat.le_of_ble_eq_true rfl) dX8_keptFor_107 ?_
            intro r h54 hq _
            obtain ⟨v57, rfl, v57l, v57u, rfl, f55, f56⟩ := hq
            try rw [show (v48 : Int32).toInt = (l3.toInt / 6) from e49] at f55
            try rw [show (v52 : Int32).toInt = (1 + (l3.toInt % 6)) from e53] at f55
            try rw [show (v48 : Int32).toInt = (l3.toInt / 6) from e49] at f56
            try rw [show (v52 : Int32).toInt = (1 + (l3.toInt % 6)) from e53] at f56
            replace f56 : PE _ _ := f56
            refine go_invV (pc := 110) (sl := 0) (s_X8_reach2_f l (d + 3) hv43 v57 (by rw [show (v57 : Int32).toInt = v57.toInt from (ti_rfl v57)]; omega) (by rw [show (v57 : Int32).toInt = v57.toInt from (ti_rfl v57)]; omega) (EM.hw f44)) mL_X8_347 iM_X8_reach sM_X8_reach (hv43.sh rfl) rfl rfl rfl (Nat.le_of_ble_eq_true rfl) (show d + 3 + 2 + 1 ≤ d + 6 by omega) (show 8 + (2 + 11) + 40 * (d + 3 + 2) ≤ 40 * (d + 6) by omega) (g_c0 hv43.ln) (Nat.le_of_ble_eq_true rfl) dX8_keptFor_110 ?_
            intro r h58 hq _
            obtain ⟨rfl, hv58, f59, f60, f61⟩ := hq
            have fx58 : FX KAq h h58 := FX.tr fx43 f61
            refine go_aload_n (pc := 113) rfl dX8_keptFor_113 ?_
            refine go_invV (pc := 114) (sl := 0) (s_X8_goesBack2_f l (d + 0) hv58 (RC.ph f59 (by omega) (by omega) (EM.hw f44)).1 (CKF.ve (VE.ofgs hv hv58) ckf)) mL_X8_375 iM_X8_goesBack sM_X8_goesBack (hv58.sh rfl) rfl rfl rfl (Nat.le_of_ble_eq_true rfl) (show d + 0 + 5 + 1 ≤ d + 6 by omega) (show 8 + (2 + 11) + 40 * (d + 0 + 5) ≤ 40 * (d + 6) by omega) (g_c0 hv58.ln) (Nat.le_of_ble_eq_true rfl) dX8_keptFor_114 ?_
            intro r h62 hq _
            obtain ⟨rfl, hv62, f63, f64, f65, f66⟩ := hq
            have fx62 : FX KAq h h62 := FX.tr fx58 f66
            refine go_aload_n (pc := 117) rfl dX8_keptFor_117 ?_
            refine go_invV (pc := 118) (sl := 0) (s_X8_joins_x_f l (d + 4) hv62 ) mL_X8_407 iM_X8_joins sM_X8_joins (hv62.sh rfl) rfl rfl rfl (Nat.le_of_ble_eq_true rfl) (show d + 4 + 1 + 1 ≤ d + 6 by omega) (show 8 + (2 + 11) + 40 * (d + 4 + 1) ≤ 40 * (d + 6) by omega) (g_c0 hv62.ln) (Nat.le_of_ble_eq_true rfl) dX8_keptFor_118 ?_
            intro r h67 hq _
            obtain ⟨rfl, hv67, f68, f69⟩ := hq
            have fx67 : FX KAq h h67 := FX.tr fx62 f69
            have nw : ¬ sb hx.2.1 112 (13 * (l3.toInt / 6) + (1 + l3.toInt % 6)) := f40 (by omega)
            rw [← f55] at nw
            have stp := kept_step (by omega) (by omega) f45 f59 f63 f64 f68 nw
            have sth := ct_hi h67.2.1 112
            refine go_iconst (pc := 121) (v := 1) (by decide) dX8_keptFor_121 ?_
            refine go_istore_n (pc := 122) (Nat.le_of_ble_eq_true rfl) dX8_keptFor_122 (go_lv (lv2 := [(0, .ref 70), (2, .int 1), (3, .int l3)]) rfl ?_)
            refine gf_iinc (pc := 123) (Nat.le_of_ble_eq_true rfl) rfl (ti_rfl l3) (ti_c (by decide)) (by omega) (by omega) dX8_keptFor_123 (fun v70 e71 => ?_)
            refine go_lv (lv2 := [(0, .ref 70), (2, .int 1), (3, .int v70)]) rfl ?_
            refine go_goto (pc := 126) (tgt := 56) (by decide) dX8_keptFor_126 ?_
            have z72 : (1 : Int32).toInt = 1 := (ti_c (v := 1) (a := 1) (by decide))
            have z73 : (v70 : Int32).toInt = (l3.toInt + 1) := e71
            exact go_lv rfl (ih.2.2.1 1 v70 h67 hv67 (by omega) (by omega) (by omega) (by omega) ⟨ct_lo _ _, ct_hi _ _⟩ fx67 (by omega))
          ·
            refine go_goto (pc := 89) (tgt := 123) (by decide) dX8_keptFor_89 ?_
            refine gf_iinc (pc := 123) (Nat.le_of_ble_eq_true rfl) rfl (ti_rfl l3) (ti_c (by decide)) (by omega) (by omega) dX8_keptFor_123 (fun v74 e75 => ?_)
            refine go_lv (lv2 := [(0, .ref 70), (2, .int l2), (3, .int v74)]) rfl ?_
            refine go_goto (pc := 126) (tgt := 56) (by decide) dX8_keptFor_126 ?_
            have z76 : (v74 : Int32).toInt = (l3.toInt + 1) := e75
            exact go_lv rfl (ih.2.2.1 l2 v74 hx hvx (by omega) (by omega) (by omega) (by omega) ⟨ct_lo _ _, ct_hi _ _⟩ fxx (by omega))
      ·
        intro l3 l5 hx hvx l5l l5u fxx hm
        refine go_iload (pc := 137) rfl dX8_keptFor_137 ?_
        refine go_aload_n (pc := 139) rfl dX8_keptFor_139 ?_
        refine gi_getF (pc := 140) (q := 75) hvx fL_X8_23 rfl (Nat.le_of_ble_eq_true rfl) rfl (hvx.rf (by decide)) dX8_keptFor_140 ?_
        refine go_aload_n (pc := 143) rfl dX8_keptFor_143 ?_
        refine gi_get (pc := 144) (lo := 0) (hi := 1) hvx fL_X8_228 rfl (Nat.le_of_ble_eq_true rfl) rfl rfl dX8_keptFor_144 (fun v77 v77l v77u v77w => ?_)
        refine gi_iald (pc := 147) (lo := 0) (hi := 40) (len := 2) hvx (ti_rfl v77) rfl (by omega) (by omega) (fun _ => rfl) dX8_keptFor_147 (fun v78 v78l v78u v78w => ?_)
        refine gf_icmp_ge (pc := 148) (tgt := 173) (ti_rfl l5) (ti_rfl v78) (by decide) dX8_keptFor_148 (fun q79 => ?_) (fun q79 => ?_)
        ·
          refine go_lload_n (pc := 173) rfl dX8_keptFor_173 ?_
          exact gi_lret (pc := 174) ⟨_, rfl, hvx, fxx⟩ hvx dX8_keptFor_174
        ·
          refine go_aload_n (pc := 151) rfl dX8_keptFor_151 ?_
          refine go_iload (pc := 152) rfl dX8_keptFor_152 ?_
          refine go_invV (pc := 154) (sl := 0) (s_X8_isAnyKept l (d + 3) hvx l5 (by rw [show (l5 : Int32).toInt = l5.toInt from (ti_rfl l5)]; omega) (by rw [show (l5 : Int32).toInt = l5.toInt from (ti_rfl l5)]; omega)) mL_X8_404 iM_X8_isAnyKept sM_X8_isAnyKept (hvx.sh rfl) rfl rfl rfl (Nat.le_of_ble_eq_true rfl) (show d + 3 + 2 + 1 ≤ d + 6 by omega) (show 8 + (3 + 11) + 40 * (d + 3 + 2) ≤ 40 * (d + 6) by omega) (g_c0 hvx.ln) (Nat.le_of_ble_eq_true rfl) dX8_keptFor_154 ?_
          intro r h80 hq _
          obtain ⟨v81, rfl, v81l, v81u, rfl⟩ := hq
          refine gf_if_eq (pc := 157) (tgt := 167) (ti_rfl v81) (by decide) dX8_keptFor_157 (fun q82 => ?_) (fun q82 => ?_)
          ·
            refine gf_iinc (pc := 167) (Nat.le_of_ble_eq_true rfl) rfl (ti_rfl l5) (ti_c (by decide)) (by omega) (by omega) dX8_keptFor_167 (fun v83 e84 => ?_)
            refine go_lv (lv2 := [(0, .ref 70), (3, .long l3), (5, .int v83)]) rfl ?_
            refine go_goto (pc := 170) (tgt := 137) (by decide) dX8_keptFor_170 ?_
            have z85 : (v83 : Int32).toInt = (l5.toInt + 1) := e84
            exact go_lv rfl (ih.2.2.2 l3 v83 hx hvx (by omega) (by omega) fxx (by omega))
          ·
            refine go_lload_n (pc := 160) rfl dX8_keptFor_160 ?_
            refine go_lconst (pc := 161) (v := 1) (by decide) dX8_keptFor_161 ?_
            refine go_iload (pc := 162) rfl dX8_keptFor_162 ?_
            refine gu_lshl (pc := 164) dX8_keptFor_164 (fun v86 => ?_)
            refine gu_lor (pc := 165) dX8_keptFor_165 (fun v87 => ?_)
            refine go_lstore_n (pc := 166) (Nat.le_of_ble_eq_true rfl) dX8_keptFor_166 (go_lv (lv2 := [(0, .ref 70), (3, .long v87), (5, .int l5)]) rfl ?_)
            refine gf_iinc (pc := 167) (Nat.le_of_ble_eq_true rfl) rfl (ti_rfl l5) (ti_c (by decide)) (by omega) (by omega) dX8_keptFor_167 (fun v88 e89 => ?_)
            refine go_lv (lv2 := [(0, .ref 70), (3, .long v87), (5, .int v88)]) rfl ?_
            refine go_goto (pc := 170) (tgt := 137) (by decide) dX8_keptFor_170 ?_
            have z90 : (v88 : Int32).toInt = (l5.toInt + 1) := e89
            exact go_lv rfl (ih.2.2.2 v87 v88 hx hvx (by omega) (by omega) fxx (by omega))
  refine go_aload_n (pc := 0) rfl dX8_keptFor_0 ?_
  refine go_aload_n (pc := 1) rfl dX8_keptFor_1 ?_
  refine gi_get (pc := 2) (lo := 0) (hi := 1) hv fL_X8_228 rfl (Nat.le_of_ble_eq_true rfl) rfl rfl dX8_keptFor_2 (fun v91 v91l v91u v91w => ?_)
  refine gi_putS (pc := 5) hv v91w (fP_X8_187 _) dX8_keptFor_5 (fun h92 hv92 hv92e => ?_)
  have fx92 : FX KAq h h92 := FX.pI fx hv92e (by unfold KAq; omega)
  refine go_iconst (pc := 8) (v := 0) (by decide) dX8_keptFor_8 ?_
  refine go_istore_n (pc := 9) (Nat.le_of_ble_eq_true rfl) dX8_keptFor_9 (go_lv (lv2 := [(0, .ref 70), (1, .int a2), (2, .int 0)]) rfl ?_)
  have z93 : (0 : Int32).toInt = 0 := (ti_c (v := 0) (a := 0) (by decide))
  exact go_lv rfl ((key 200000001).1 a2 0 h92 hv92 (by omega) (by omega) (by omega) (by omega) fx92 (by omega))
set_option maxHeartbeats 4000000 in
set_option maxRecDepth 100000 in
theorem s_X8_kept2_f (l : Launch) (d : Nat) {P : PP} {h : HP} (hv : Iv P h) (a2 : Int32) (ckf : CKF h.2.1) : Mt l yX8_kept cX8_kept 2 (some .long) (d + 7) [.ref 70, .int a2] h 0 0 (fun r h' => ∃ v : Int64, r = some (.long v) ∧ (∃ Q : PP, Iv Q h' ∧ SQ P Q) ∧ (FX KAq h h')) := by
  refine Mt_iv hv (by decide) (Nat.le_of_ble_eq_true rfl) ?_
  show Go l RX8 cX8_kept 2 (g_rm (d + 7) 0 0) "kept" (some .long) 117 0 0 (fun _ _ => True) (fun r h' => ∃ v : Int64, r = some (.long v) ∧ (∃ Q : PP, Iv Q h' ∧ SQ P Q) ∧ (FX KAq h h')) 0 0 [(0, .ref 70), (1, .int a2)] [] h
  have fx : FX KAq h h := FX.rfl
  refine go_aload_n (pc := 0) rfl dX8_kept_0 ?_
  refine go_iload_n (pc := 1) rfl dX8_kept_1 ?_
  refine go_invV (pc := 2) (sl := 0) (s_X8_isStatement2_f l (d + 4) hv a2) mL_X8_389 iM_X8_isStatement sM_X8_isStatement (hv.sh rfl) rfl rfl rfl (Nat.le_of_ble_eq_true rfl) (show d + 4 + 2 + 1 ≤ d + 7 by omega) (show 8 + (2 + 11) + 40 * (d + 4 + 2) ≤ 40 * (d + 7) by omega) (g_c0 hv.ln) (Nat.le_of_ble_eq_true rfl) dX8_kept_2 ?_
  intro r h1 hq _
  obtain ⟨v3, rfl, v3l, v3u, rfl, f4, f2⟩ := hq
  replace f2 : PE _ _ := f2
  refine gf_if_eq (pc := 5) (tgt := 16) (ti_rfl v3) (by decide) dX8_kept_5 (fun q5 => ?_) (fun q5 => ?_)
  ·
    refine go_ldc2 (pc := 16) kL_X8_329 dX8_kept_16 ?_
    exact gi_lret (pc := 19) ⟨_, rfl, ⟨_, hv, (SQ.rfl _)⟩, fx⟩ hv dX8_kept_19
  ·
    refine go_aload_n (pc := 8) rfl dX8_kept_8 ?_
    refine go_iload_n (pc := 9) rfl dX8_kept_9 ?_
    refine go_invV (pc := 10) (sl := 0) (s_X8_keptFor2_f l (d + 0) hv a2 (by rw [show (a2 : Int32).toInt = a2.toInt from (ti_rfl a2)]; omega) (by rw [show (a2 : Int32).toInt = a2.toInt from (ti_rfl a2)]; omega) ckf) mL_X8_413 iM_X8_keptFor sM_X8_keptFor (hv.sh rfl) rfl rfl rfl (Nat.le_of_ble_eq_true rfl) (show d + 0 + 6 + 1 ≤ d + 7 by omega) (show 8 + (6 + 11) + 40 * (d + 0 + 6) ≤ 40 * (d + 7) by omega) (g_c0 hv.ln) (Nat.le_of_ble_eq_true rfl) dX8_kept_10 ?_
    intro r h6 hq _
    obtain ⟨v8, rfl, hv6, f7⟩ := hq
    have fx6 : FX KAq h h6 := FX.tr fx f7
    refine go_goto (pc := 13) (tgt := 19) (by decide) dX8_kept_13 ?_
    exact gi_lret (pc := 19) ⟨_, rfl, ⟨_, hv6, (SQ.ofgs _)⟩, fx6⟩ hv6 dX8_kept_19

