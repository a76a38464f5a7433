
set_option maxHeartbeats 4000000 in
set_option maxRecDepth 100000 in
theorem s_X8_hang_f (l : Launch) (d : Nat) {P : PP} {h : HP} (hv : Iv P h) (a2 : Int32) (a2l : 0 ≤ a2.toInt) (a2u : a2.toInt ≤ 584) (a3 : Int32) (a3l : 0 ≤ a3.toInt) (a3u : a3.toInt ≤ 584) : Mt l yX8_hang cX8_hang 3 none (d + 1) [.ref 70, .int a2, .int a3] h 0 0 (fun r h' => r = none ∧ Iv P h' ∧ (FX KAr h h')) := by
  refine Mt_iv hv (by decide) (Nat.le_of_ble_eq_true rfl) ?_
  show Go l RX8 cX8_hang 3 (g_rm (d + 1) 0 0) "hang" none 117 0 0 (fun _ _ => True) (fun r h' => r = none ∧ Iv P h' ∧ (FX KAr h h')) 0 0 [(0, .ref 70), (1, .int a2), (2, .int a3)] [] h
  have fx : FX KAr h h := FX.rfl
  refine go_aload_n (pc := 0) rfl dX8_hang_0 ?_
  refine gi_getF (pc := 1) (q := 103) hv fL_X8_108 rfl (Nat.le_of_ble_eq_true rfl) rfl (hv.rf (by decide)) dX8_hang_1 ?_
  refine go_bipush (pc := 4) (v := 19) (by decide) dX8_hang_4 ?_
  refine go_iload_n (pc := 6) rfl dX8_hang_6 ?_
  refine gf_imul (pc := 7) (ti_c (v := 19) (a := 19) (by decide)) (ti_rfl a2) (by omega) (by omega) dX8_hang_7 (fun v1 e2 => ?_)
  refine go_iload_n (pc := 8) rfl dX8_hang_8 ?_
  refine go_bipush (pc := 9) (v := 32) (by decide) dX8_hang_9 ?_
  refine gf_idiv (pc := 11) (ti_rfl a3) (ti_c (v := 32) (a := 32) (by decide)) (by omega) (by omega) dX8_hang_11 (fun v3 e4 => ?_)
  refine gf_iadd (pc := 12) e2 e4 (by omega) (by omega) dX8_hang_12 (fun v5 e6 => ?_)
  refine go_dup2 (pc := 13) rfl rfl dX8_hang_13 ?_
  refine gi_iald (pc := 14) (lo := -2147483648) (hi := 2147483647) (len := 11115) hv e6 rfl (by omega) (by omega) (fun _ => rfl) dX8_hang_14 (fun v7 v7l v7u v7w => ?_)
  refine go_iconst (pc := 15) (v := 1) (by decide) dX8_hang_15 ?_
  refine go_iload_n (pc := 16) rfl dX8_hang_16 ?_
  refine go_bipush (pc := 17) (v := 32) (by decide) dX8_hang_17 ?_
  refine gf_irem (pc := 19) (ti_rfl a3) (ti_c (v := 32) (a := 32) (by decide)) (by omega) (by omega) dX8_hang_19 (fun v8 e9 => ?_)
  refine gu_ishl (pc := 20) dX8_hang_20 (fun v10 => ?_)
  refine gu_ior (pc := 21) dX8_hang_21 (fun v11 => ?_)
  refine gi_iast (pc := 22) (lo := -2147483648) (hi := 2147483647) (len := 11115) hv e6 (ti_rfl v11) rfl (by omega) (by omega) (fun _ => rfl) (ti_ge (ti_rfl v11)) (ti_le2 (ti_rfl v11)) (by decide) dX8_hang_22 (fun h12 hv12 hv12e => ?_)
  have fx12 : FX KAr h h12 := FX.pI fx hv12e (by unfold KAr; omega)
  exact gi_vret (pc := 23) ⟨rfl, hv12, fx12⟩ hv12 dX8_hang_23
set_option maxHeartbeats 4000000 in
set_option maxRecDepth 100000 in
theorem s_X8_empties_f (l : Launch) (d : Nat) {P : PP} {h : HP} (hv : Iv P h)  : Mt l yX8_empties cX8_empties 2 none (d + 1) [.ref 70] h 0 0 (fun r h' => r = none ∧ Iv P h' ∧ (FX KAr h h')) := by
  refine Mt_iv hv (by decide) (Nat.le_of_ble_eq_true rfl) ?_
  show Go l RX8 cX8_empties 2 (g_rm (d + 1) 0 0) "empties" none 117 0 0 (fun _ _ => True) (fun r h' => r = none ∧ Iv P h' ∧ (FX KAr h h')) 0 0 [(0, .ref 70)] [] h
  have fx : FX KAr h h := FX.rfl
  have key : ∀ n : Nat, (∀ (l1 : Int32) (hx : HP), Iv P hx → 0 ≤ l1.toInt → l1.toInt ≤ 19 → FX KAr h hx → (3 * (19 - l1.toInt) + 2 : Int) < n → Go l RX8 cX8_empties 2 (g_rm (d + 1) 0 0) "empties" none 117 0 0 (fun _ _ => True) (fun r h' => r = none ∧ Iv P h' ∧ (FX KAr h h')) 0 2 [(0, .ref 70), (1, .int l1)] [] hx) := by
    intro n
    induction n with
    | zero => exact (by intros; omega)
    | succ n ih =>
      refine ?_
      ·
        intro l1 hx hvx l1l l1u fxx hm
        refine go_iload_n (pc := 2) rfl dX8_empties_2 ?_
        refine go_bipush (pc := 3) (v := 19) (by decide) dX8_empties_3 ?_
        refine gf_icmp_ge (pc := 5) (tgt := 21) (ti_rfl l1) (ti_c (v := 19) (a := 19) (by decide)) (by decide) dX8_empties_5 (fun q1 => ?_) (fun q1 => ?_)
        ·
          refine go_aload_n (pc := 21) rfl dX8_empties_21 ?_
          refine go_iconst (pc := 22) (v := 0) (by decide) dX8_empties_22 ?_
          refine gi_put (pc := 23) (lo := 0) (hi := 585) hvx (ti_c (v := 0) (a := 0) (by decide)) (fP_X8_344 _) rfl (Nat.le_of_ble_eq_true rfl) rfl rfl (by omega) (by omega) rfl rfl (by decide) (by decide) (by decide) (by decide) dX8_empties_23 (fun h2 hv2 hv2e => ?_)
          have fx2 : FX KAr h h2 := FX.pI fxx hv2e (by unfold KAr; omega)
          exact gi_vret (pc := 26) ⟨rfl, hv2, fx2⟩ hv2 dX8_empties_26
        ·
          refine go_aload_n (pc := 8) rfl dX8_empties_8 ?_
          refine gi_getF (pc := 9) (q := 109) hvx fL_X8_127 rfl (Nat.le_of_ble_eq_true rfl) rfl (hvx.rf (by decide)) dX8_empties_9 ?_
          refine go_iload_n (pc := 12) rfl dX8_empties_12 ?_
          refine go_iconst (pc := 13) (v := 0) (by decide) dX8_empties_13 ?_
          refine gi_iast (pc := 14) (lo := -2147483648) (hi := 2147483647) (len := 19) hvx (ti_rfl l1) (ti_c (v := 0) (a := 0) (by decide)) rfl (by omega) (by omega) (fun _ => rfl) (ti_ge (ti_c (v := 0) (a := 0) (by decide))) (ti_le2 (ti_c (v := 0) (a := 0) (by decide))) (by decide) dX8_empties_14 (fun h3 hv3 hv3e => ?_)
          have fx3 : FX KAr h h3 := FX.pI fxx hv3e (by unfold KAr; omega)
          refine gf_iinc (pc := 15) (Nat.le_of_ble_eq_true rfl) rfl (ti_rfl l1) (ti_c (by decide)) (by omega) (by omega) dX8_empties_15 (fun v4 e5 => ?_)
          refine go_lv (lv2 := [(0, .ref 70), (1, .int v4)]) rfl ?_
          refine go_goto (pc := 18) (tgt := 2) (by decide) dX8_empties_18 ?_
          have z6 : (v4 : Int32).toInt = (l1.toInt + 1) := e5
          exact go_lv rfl (ih v4 h3 hv3 (by omega) (by omega) fx3 (by omega))
  refine go_iconst (pc := 0) (v := 0) (by decide) dX8_empties_0 ?_
  refine go_istore_n (pc := 1) (Nat.le_of_ble_eq_true rfl) dX8_empties_1 (go_lv (lv2 := [(0, .ref 70), (1, .int 0)]) rfl ?_)
  have z7 : (0 : Int32).toInt = 0 := (ti_c (v := 0) (a := 0) (by decide))
  exact go_lv rfl ((key 76) 0 h hv (by omega) (by omega) fx (by omega))
set_option maxHeartbeats 4000000 in
set_option maxRecDepth 100000 in
theorem s_X8_joins_f (l : Launch) (d : Nat) {P : PP} {h : HP} (hv : Iv P h)  : Mt l yX8_joins cX8_joins 2 none (d + 1) [.ref 70] h 0 0 (fun r h' => r = none ∧ Iv P h' ∧ (FX KAr h h')) := by
  refine Mt_iv hv (by decide) (Nat.le_of_ble_eq_true rfl) ?_
  show Go l RX8 cX8_joins 2 (g_rm (d + 1) 0 0) "joins" none 117 0 0 (fun _ _ => True) (fun r h' => r = none ∧ Iv P h' ∧ (FX KAr h h')) 0 0 [(0, .ref 70)] [] h
  have fx : FX KAr h h := FX.rfl
  have key : ∀ n : Nat, (∀ (l1 : Int32) (hx : HP), Iv P hx → 0 ≤ l1.toInt → l1.toInt ≤ 19 → FX KAr h hx → (3 * (19 - l1.toInt) + 2 : Int) < n → Go l RX8 cX8_joins 2 (g_rm (d + 1) 0 0) "joins" none 117 0 0 (fun _ _ => True) (fun r h' => r = none ∧ Iv P h' ∧ (FX KAr h h')) 0 2 [(0, .ref 70), (1, .int l1)] [] hx) := by
    intro n
    induction n with
    | zero => exact (by intros; omega)
    | succ n ih =>
      refine ?_
      ·
        intro l1 hx hvx l1l l1u fxx hm
        refine go_iload_n (pc := 2) rfl dX8_joins_2 ?_
        refine go_bipush (pc := 3) (v := 19) (by decide) dX8_joins_3 ?_
        refine gf_icmp_ge (pc := 5) (tgt := 29) (ti_rfl l1) (ti_c (v := 19) (a := 19) (by decide)) (by decide) dX8_joins_5 (fun q1 => ?_) (fun q1 => ?_)
        ·
          exact gi_vret (pc := 29) ⟨rfl, hvx, fxx⟩ hvx dX8_joins_29
        ·
          refine go_aload_n (pc := 8) rfl dX8_joins_8 ?_
          refine gi_getF (pc := 9) (q := 112) hvx fL_X8_136 rfl (Nat.le_of_ble_eq_true rfl) rfl (hvx.rf (by decide)) dX8_joins_9 ?_
          refine go_iload_n (pc := 12) rfl dX8_joins_12 ?_
          refine go_dup2 (pc := 13) rfl rfl dX8_joins_13 ?_
          refine gi_iald (pc := 14) (lo := -2147483648) (hi := 2147483647) (len := 19) hvx (ti_rfl l1) rfl (by omega) (by omega) (fun _ => rfl) dX8_joins_14 (fun v2 v2l v2u v2w => ?_)
          refine go_aload_n (pc := 15) rfl dX8_joins_15 ?_
          refine gi_getF (pc := 16) (q := 109) hvx fL_X8_127 rfl (Nat.le_of_ble_eq_true rfl) rfl (hvx.rf (by decide)) dX8_joins_16 ?_
          refine go_iload_n (pc := 19) rfl dX8_joins_19 ?_
          refine gi_iald (pc := 20) (lo := -2147483648) (hi := 2147483647) (len := 19) hvx (ti_rfl l1) rfl (by omega) (by omega) (fun _ => rfl) dX8_joins_20 (fun v3 v3l v3u v3w => ?_)
          refine gu_ior (pc := 21) dX8_joins_21 (fun v4 => ?_)
          refine gi_iast (pc := 22) (lo := -2147483648) (hi := 2147483647) (len := 19) hvx (ti_rfl l1) (ti_rfl v4) rfl (by omega) (by omega) (fun _ => rfl) (ti_ge (ti_rfl v4)) (ti_le2 (ti_rfl v4)) (by decide) dX8_joins_22 (fun h5 hv5 hv5e => ?_)
          have fx5 : FX KAr h h5 := FX.pI fxx hv5e (by unfold KAr; omega)
          refine gf_iinc (pc := 23) (Nat.le_of_ble_eq_true rfl) rfl (ti_rfl l1) (ti_c (by decide)) (by omega) (by omega) dX8_joins_23 (fun v6 e7 => ?_)
          refine go_lv (lv2 := [(0, .ref 70), (1, .int v6)]) rfl ?_
          refine go_goto (pc := 26) (tgt := 2) (by decide) dX8_joins_26 ?_
          have z8 : (v6 : Int32).toInt = (l1.toInt + 1) := e7
          exact go_lv rfl (ih v6 h5 hv5 (by omega) (by omega) fx5 (by omega))
  refine go_iconst (pc := 0) (v := 0) (by decide) dX8_joins_0 ?_
  refine go_istore_n (pc := 1) (Nat.le_of_ble_eq_true rfl) dX8_joins_1 (go_lv (lv2 := [(0, .ref 70), (1, .int 0)]) rfl ?_)
  have z9 : (0 : Int32).toInt = 0 := (ti_c (v := 0) (a := 0) (by decide))
  exact go_lv rfl ((key 76) 0 h hv (by omega) (by omega) fx (by omega))
set_option maxHeartbeats 4000000 in
set_option maxRecDepth 100000 in
theorem s_X8_tellsName_f (l : Launch) (d : Nat) {P : PP} {h : HP} (hv : Iv P h) (a2 : Int32) (a2l : 0 ≤ a2.toInt) (a2u : a2.toInt ≤ 30) (a3 : Int32) (a3l : 0 ≤ a3.toInt) (a3u : a3.toInt ≤ 9) (a4 : Int32) : Mt l yX8_tellsName cX8_tellsName 4 none (d + 1) [.ref 70, .int a2, .int a3, .int a4] h 0 0 (fun r h' => r = none ∧ Iv P h' ∧ (FX KAr h h')) := by
  refine Mt_iv hv (by decide) (Nat.le_of_ble_eq_true rfl) ?_
  show Go l RX8 cX8_tellsName 4 (g_rm (d + 1) 0 0) "tellsName" none 117 0 0 (fun _ _ => True) (fun r h' => r = none ∧ Iv P h' ∧ (FX KAr h h')) 0 0 [(0, .ref 70), (1, .int a2), (2, .int a3), (3, .int a4)] [] h
  have fx : FX KAr h h := FX.rfl
  have key : ∀ n : Nat, (∀  (hx : HP), Iv P hx → FX KAr h hx → (1 : Int) < n → Go l RX8 cX8_tellsName 4 (g_rm (d + 1) 0 0) "tellsName" none 117 0 0 (fun _ _ => True) (fun r h' => r = none ∧ Iv P h' ∧ (FX KAr h h')) 0 31 [] [] hx) := by
    intro n
    induction n with
    | zero => exact (by intros; omega)
    | succ n ih =>
      refine ?_
      ·
        intro hx hvx fxx hm
        exact gi_vret (pc := 31) ⟨rfl, hvx, fxx⟩ hvx dX8_tellsName_31
  refine go_iload_n (pc := 0) rfl dX8_tellsName_0 ?_
  refine go_bipush (pc := 1) (v := 6) (by decide) dX8_tellsName_1 ?_
  refine gf_icmp_ge (pc := 3) (tgt := 21) (ti_rfl a3) (ti_c (v := 6) (a := 6) (by decide)) (by decide) dX8_tellsName_3 (fun q1 => ?_) (fun q1 => ?_)
  ·
    refine go_aload_n (pc := 21) rfl dX8_tellsName_21 ?_
    refine gi_getF (pc := 22) (q := 113) hv fL_X8_139 rfl (Nat.le_of_ble_eq_true rfl) rfl (hv.rf (by decide)) dX8_tellsName_22 ?_
    refine go_iload_n (pc := 25) rfl dX8_tellsName_25 ?_
    refine go_bipush (pc := 26) (v := 6) (by decide) dX8_tellsName_26 ?_
    refine gf_isub (pc := 28) (ti_rfl a3) (ti_c (v := 6) (a := 6) (by decide)) (by omega) (by omega) dX8_tellsName_28 (fun v2 e3 => ?_)
    refine go_iload_n (pc := 29) rfl dX8_tellsName_29 ?_
    refine gi_iast (pc := 30) (lo := -2147483648) (hi := 2147483647) (len := 4) hv e3 (ti_rfl a4) rfl (by omega) (by omega) (fun _ => rfl) (ti_ge (ti_rfl a4)) (ti_le2 (ti_rfl a4)) (by decide) dX8_tellsName_30 (fun h4 hv4 hv4e => ?_)
    have fx4 : FX KAr h h4 := FX.pI fx hv4e (by unfold KAr; omega)
    exact go_lv rfl ((key 14)  h4 hv4 fx4 (by omega))
  ·
    refine go_aload_n (pc := 6) rfl dX8_tellsName_6 ?_
    refine gi_getF (pc := 7) (q := 114) hv fL_X8_142 rfl (Nat.le_of_ble_eq_true rfl) rfl (hv.rf (by decide)) dX8_tellsName_7 ?_
    refine go_bipush (pc := 10) (v := 6) (by decide) dX8_tellsName_10 ?_
    refine go_iload_n (pc := 12) rfl dX8_tellsName_12 ?_
    refine gf_imul (pc := 13) (ti_c (v := 6) (a := 6) (by decide)) (ti_rfl a2) (by omega) (by omega) dX8_tellsName_13 (fun v5 e6 => ?_)
    refine go_iload_n (pc := 14) rfl dX8_tellsName_14 ?_
    refine gf_iadd (pc := 15) e6 (ti_rfl a3) (by omega) (by omega) dX8_tellsName_15 (fun v7 e8 => ?_)
    refine go_iload_n (pc := 16) rfl dX8_tellsName_16 ?_
    refine gi_iast (pc := 17) (lo := -2147483648) (hi := 2147483647) (len := 192) hv e8 (ti_rfl a4) rfl (by omega) (by omega) (fun _ => rfl) (ti_ge (ti_rfl a4)) (ti_le2 (ti_rfl a4)) (by decide) dX8_tellsName_17 (fun h9 hv9 hv9e => ?_)
    have fx9 : FX KAr h h9 := FX.pI fx hv9e (by unfold KAr; omega)
    refine go_goto (pc := 18) (tgt := 31) (by decide) dX8_tellsName_18 ?_
    exact go_lv rfl ((key 14)  h9 hv9 fx9 (by omega))
set_option maxHeartbeats 4000000 in
set_option maxRecDepth 100000 in
theorem s_X8_sees_f (l : Launch) (d : Nat) {P : PP} {h : HP} (hv : Iv P h) (a2 : Int32) (a2l : 0 ≤ a2.toInt) (a2u : a2.toInt ≤ 259) (a3 : Int32) : Mt l yX8_sees cX8_sees 3 none (d + 1) [.ref 70, .int a2, .int a3] h 0 0 (fun r h' => r = none ∧ Iv P h' ∧ (FX KAr h h')) := by
  refine Mt_iv hv (by decide) (Nat.le_of_ble_eq_true rfl) ?_
  show Go l RX8 cX8_sees 3 (g_rm (d + 1) 0 0) "sees" none 117 0 0 (fun _ _ => True) (fun r h' => r = none ∧ Iv P h' ∧ (FX KAr h h')) 0 0 [(0, .ref 70), (1, .int a2), (2, .int a3)] [] h
  have fx : FX KAr h h := FX.rfl
  refine go_aload_n (pc := 0) rfl dX8_sees_0 ?_
  refine gi_get (pc := 1) (lo := 0) (hi := 500) hv fL_X8_418 rfl (Nat.le_of_ble_eq_true rfl) rfl rfl dX8_sees_1 (fun v1 v1l v1u v1w => ?_)
  refine go_sipush (pc := 4) (v := 500) (by decide) dX8_sees_4 ?_
  refine gf_icmp_ne (pc := 7) (tgt := 11) (ti_rfl v1) (ti_c (v := 500) (a := 500) (by decide)) (by decide) dX8_sees_7 (fun q2 => ?_) (fun q2 => ?_)
  ·
    refine go_aload_n (pc := 11) rfl dX8_sees_11 ?_
    refine gi_getF (pc := 12) (q := 115) hv fL_X8_145 rfl (Nat.le_of_ble_eq_true rfl) rfl (hv.rf (by decide)) dX8_sees_12 ?_
    refine go_aload_n (pc := 15) rfl dX8_sees_15 ?_
    refine gi_get (pc := 16) (lo := 0) (hi := 500) hv fL_X8_418 rfl (Nat.le_of_ble_eq_true rfl) rfl rfl dX8_sees_16 (fun v3 v3l v3u v3w => ?_)
    have v3r : v1 = h.2.1 70 54 := v1w
    have v3q : TI v3 v1.toInt := by rw [v3w.trans v3r.symm]; exact (ti_rfl v1)
    refine go_aload_n (pc := 19) rfl dX8_sees_19 ?_
    refine gi_getF (pc := 20) (q := 78) hv fL_X8_32 rfl (Nat.le_of_ble_eq_true rfl) rfl (hv.rf (by decide)) dX8_sees_20 ?_
    refine go_iload_n (pc := 23) rfl dX8_sees_23 ?_
    refine gi_iald (pc := 24) (lo := -1) (hi := 39) (len := 260) hv (ti_rfl a2) rfl (by omega) (by omega) (fun _ => rfl) dX8_sees_24 (fun v4 v4l v4u v4w => ?_)
    refine gi_iast (pc := 25) (lo := -2147483648) (hi := 2147483647) (len := 500) hv v3q (ti_rfl v4) rfl (by omega) (by omega) (fun _ => rfl) (ti_ge (ti_rfl v4)) (ti_le2 (ti_rfl v4)) (by decide) dX8_sees_25 (fun h5 hv5 hv5e => ?_)
    have fx5 : FX KAr h h5 := FX.pI fx hv5e (by unfold KAr; omega)
    refine go_aload_n (pc := 26) rfl dX8_sees_26 ?_
    refine gi_getF (pc := 27) (q := 116) hv5 fL_X8_148 rfl (Nat.le_of_ble_eq_true rfl) rfl (hv5.rf (by decide)) dX8_sees_27 ?_
    refine go_aload_n (pc := 30) rfl dX8_sees_30 ?_
    refine gi_get (pc := 31) (lo := 0) (hi := 500) hv5 fL_X8_418 rfl (Nat.le_of_ble_eq_true rfl) rfl rfl dX8_sees_31 (fun v6 v6l v6u v6w => ?_)
    have v6r : v1 = h5.2.1 70 54 := (show v1 = h5.2.1 70 54 from by rw [hv5e]; exact (g_iI rfl v1w.symm).symm)
    have v6q : TI v6 v1.toInt := by rw [v6w.trans v6r.symm]; exact (ti_rfl v1)
    refine go_iload_n (pc := 34) rfl dX8_sees_34 ?_
    refine gi_iast (pc := 35) (lo := -2147483648) (hi := 2147483647) (len := 500) hv5 v6q (ti_rfl a3) rfl (by omega) (by omega) (fun _ => rfl) (ti_ge (ti_rfl a3)) (ti_le2 (ti_rfl a3)) (by decide) dX8_sees_35 (fun h7 hv7 hv7e => ?_)
    have fx7 : FX KAr h h7 := FX.pI fx5 hv7e (by unfold KAr; omega)
    refine go_aload_n (pc := 36) rfl dX8_sees_36 ?_
    refine go_dup (pc := 37) rfl dX8_sees_37 ?_
    refine gi_get (pc := 38) (lo := 0) (hi := 500) hv7 fL_X8_418 rfl (Nat.le_of_ble_eq_true rfl) rfl rfl dX8_sees_38 (fun v8 v8l v8u v8w => ?_)
    have v8r : v1 = h7.2.1 70 54 := (show v1 = h7.2.1 70 54 from by rw [hv7e]; exact (g_iI rfl (show v1 = h5.2.1 70 54 from by rw [hv5e]; exact (g_iI rfl v1w.symm).symm).symm).symm)
    have v8q : TI v8 v1.toInt := by rw [v8w.trans v8r.symm]; exact (ti_rfl v1)
    refine go_iconst (pc := 41) (v := 1) (by decide) dX8_sees_41 ?_
    refine gf_iadd (pc := 42) v8q (ti_c (v := 1) (a := 1) (by decide)) (by omega) (by omega) dX8_sees_42 (fun v9 e10 => ?_)
    refine gi_put (pc := 43) (lo := 0) (hi := 500) hv7 e10 (fP_X8_418 _) rfl (Nat.le_of_ble_eq_true rfl) rfl rfl (by omega) (by omega) rfl rfl (by decide) (by decide) (by decide) (by decide) dX8_sees_43 (fun h11 hv11 hv11e => ?_)
    have fx11 : FX KAr h h11 := FX.pI fx7 hv11e (by unfold KAr; omega)
    exact gi_vret (pc := 46) ⟨rfl, hv11, fx11⟩ hv11 dX8_sees_46
  ·
    exact gi_vret (pc := 10) ⟨rfl, hv, fx⟩ hv dX8_sees_10
