
set_option maxHeartbeats 4000000 in
set_option maxRecDepth 100000 in
theorem s_X2_enter_f (l : Launch) (d : Nat) {P : PP} {h : HP} (hv : Iv P h) (a2 : Int32) (a2l : 0 ≤ a2.toInt) (a2u : a2.toInt ≤ 4) (a3 : Int32) (a4 : Int32) : Mt l yX2_enter cX2_enter 6 none (d + 1) [.ref 64, .int a2, .int a3, .int a4] h 0 0 (fun r h' => r = none ∧ Iv P h' ∧ (FX KAc h h')) := by
  refine Mt_iv hv (by decide) (Nat.le_of_ble_eq_true rfl) ?_
  show Go l RX2 cX2_enter 6 (g_rm (d + 1) 0 0) "enter" none 117 0 0 (fun _ _ => True) (fun r h' => r = none ∧ Iv P h' ∧ (FX KAc h h')) 0 0 [(0, .ref 64), (1, .int a2), (2, .int a3), (3, .int a4)] [] h
  have fx : FX KAc h h := FX.rfl
  have key : ∀ n : Nat, (∀ (l1 : Int32) (l2 : Int32) (l3 : Int32) (l4 : Int32) (l5 : Int32) (hx : HP), Iv P hx → 0 ≤ l1.toInt → l1.toInt ≤ 4 → 0 ≤ l4.toInt → l4.toInt ≤ 180 → 0 ≤ l5.toInt → l5.toInt ≤ 6 → FX KAc h hx → (3 * (6 - l5.toInt) + 2 : Int) < n → Go l RX2 cX2_enter 6 (g_rm (d + 1) 0 0) "enter" none 117 0 0 (fun _ _ => True) (fun r h' => r = none ∧ Iv P h' ∧ (FX KAc h h')) 0 12 [(0, .ref 64), (1, .int l1), (2, .int l2), (3, .int l3), (4, .int l4), (5, .int l5)] [] hx) := by
    intro n
    induction n with
    | zero => exact (by intros; omega)
    | succ n ih =>
      refine ?_
      ·
        intro l1 l2 l3 l4 l5 hx hvx l1l l1u l4l l4u l5l l5u fxx hm
        refine go_iload (pc := 12) rfl dX2_enter_12 ?_
        refine go_bipush (pc := 14) (v := 6) (by decide) dX2_enter_14 ?_
        refine gf_icmp_ge (pc := 16) (tgt := 36) (ti_rfl l5) (ti_c (v := 6) (a := 6) (by decide)) (by decide) dX2_enter_16 (fun q1 => ?_) (fun q1 => ?_)
        ·
          refine go_aload_n (pc := 36) rfl dX2_enter_36 ?_
          refine gi_getF (pc := 37) (q := 66) hvx fL_X2_15 rfl (Nat.le_of_ble_eq_true rfl) rfl (hvx.rf (by decide)) dX2_enter_37 ?_
          refine go_iload (pc := 40) rfl dX2_enter_40 ?_
          refine go_iload_n (pc := 42) rfl dX2_enter_42 ?_
          refine gi_iast (pc := 43) (lo := -2147483648) (hi := 2147483647) (len := 186) hvx (ti_rfl l4) (ti_rfl l2) rfl (by omega) (by omega) (fun _ => rfl) (ti_ge (ti_rfl l2)) (ti_le2 (ti_rfl l2)) (by decide) dX2_enter_43 (fun h2 hv2 hv2e => ?_)
          have fx2 : FX KAc h h2 := FX.pI fxx hv2e (by unfold KAc; omega)
          refine go_aload_n (pc := 44) rfl dX2_enter_44 ?_
          refine gi_getF (pc := 45) (q := 66) hv2 fL_X2_15 rfl (Nat.le_of_ble_eq_true rfl) rfl (hv2.rf (by decide)) dX2_enter_45 ?_
          refine go_iload (pc := 48) rfl dX2_enter_48 ?_
          refine go_iconst (pc := 50) (v := 1) (by decide) dX2_enter_50 ?_
          refine gf_iadd (pc := 51) (ti_rfl l4) (ti_c (v := 1) (a := 1) (by decide)) (by omega) (by omega) dX2_enter_51 (fun v3 e4 => ?_)
          refine go_iload_n (pc := 52) rfl dX2_enter_52 ?_
          refine gi_iast (pc := 53) (lo := -2147483648) (hi := 2147483647) (len := 186) hv2 e4 (ti_rfl l3) rfl (by omega) (by omega) (fun _ => rfl) (ti_ge (ti_rfl l3)) (ti_le2 (ti_rfl l3)) (by decide) dX2_enter_53 (fun h5 hv5 hv5e => ?_)
          have fx5 : FX KAc h h5 := FX.pI fx2 hv5e (by unfold KAc; omega)
          refine go_aload_n (pc := 54) rfl dX2_enter_54 ?_
          refine go_aload_n (pc := 55) rfl dX2_enter_55 ?_
          refine gi_getC (pc := 56) hv5 fL_X2_50 rfl (Nat.le_of_ble_eq_true rfl) rfl (by decide) dX2_enter_56 (fun c6 hc6 fc6 => ?_)
          refine gi_getF (pc := 59) (q := c6 + 1) hv5 fL_X2_68 (by rcases hc6 with rfl | rfl <;> rfl) (Nat.le_of_ble_eq_true rfl) rfl (by rcases hc6 with rfl | rfl <;> exact hv5.rf (by decide)) dX2_enter_59 ?_
          refine go_iload_n (pc := 62) rfl dX2_enter_62 ?_
          refine gi_iald (pc := 63) (lo := 0) (hi := 44) (len := 5) hv5 (ti_rfl l1) (by rcases hc6 with rfl | rfl <;> rfl) (by omega) (by omega) (fun _ => by rcases hc6 with rfl | rfl <;> rfl) dX2_enter_63 (fun v7 v7l v7u v7w => ?_)
          refine gi_put (pc := 64) (lo := 0) (hi := 44) hv5 (ti_rfl v7) (fP_X2_25 _) rfl (Nat.le_of_ble_eq_true rfl) rfl rfl (by omega) (by omega) rfl rfl (by decide) (by decide) (by decide) (by decide) dX2_enter_64 (fun h8 hv8 hv8e => ?_)
          have fx8 : FX KAc h h8 := FX.pI fx5 hv8e (by unfold KAc; omega)
          exact gi_vret (pc := 67) ⟨rfl, hv8, fx8⟩ hv8 dX2_enter_67
        ·
          refine go_aload_n (pc := 19) rfl dX2_enter_19 ?_
          refine gi_getF (pc := 20) (q := 66) hvx fL_X2_15 rfl (Nat.le_of_ble_eq_true rfl) rfl (hvx.rf (by decide)) dX2_enter_20 ?_
          refine go_iload (pc := 23) rfl dX2_enter_23 ?_
          refine go_iload (pc := 25) rfl dX2_enter_25 ?_
          refine gf_iadd (pc := 27) (ti_rfl l4) (ti_rfl l5) (by omega) (by omega) dX2_enter_27 (fun v9 e10 => ?_)
          refine go_iconst (pc := 28) (v := 0) (by decide) dX2_enter_28 ?_
          refine gi_iast (pc := 29) (lo := -2147483648) (hi := 2147483647) (len := 186) hvx e10 (ti_c (v := 0) (a := 0) (by decide)) rfl (by omega) (by omega) (fun _ => rfl) (ti_ge (ti_c (v := 0) (a := 0) (by decide))) (ti_le2 (ti_c (v := 0) (a := 0) (by decide))) (by decide) dX2_enter_29 (fun h11 hv11 hv11e => ?_)
          have fx11 : FX KAc h h11 := FX.pI fxx hv11e (by unfold KAc; omega)
          refine gf_iinc (pc := 30) (Nat.le_of_ble_eq_true rfl) rfl (ti_rfl l5) (ti_c (by decide)) (by omega) (by omega) dX2_enter_30 (fun v12 e13 => ?_)
          refine go_lv (lv2 := [(0, .ref 64), (1, .int l1), (2, .int l2), (3, .int l3), (4, .int l4), (5, .int v12)]) rfl ?_
          refine go_goto (pc := 33) (tgt := 12) (by decide) dX2_enter_33 ?_
          have z14 : (v12 : Int32).toInt = (l5.toInt + 1) := e13
          exact go_lv rfl (ih l1 l2 l3 l4 v12 h11 hv11 (by omega) (by omega) (by omega) (by omega) (by omega) (by omega) fx11 (by omega))
  refine go_aload_n (pc := 0) rfl dX2_enter_0 ?_
  refine gi_get (pc := 1) (lo := 0) (hi := 30) hv fL_X2_21 rfl (Nat.le_of_ble_eq_true rfl) rfl rfl dX2_enter_1 (fun v15 v15l v15u v15w => ?_)
  refine go_bipush (pc := 4) (v := 6) (by decide) dX2_enter_4 ?_
  refine gf_imul (pc := 6) (ti_rfl v15) (ti_c (v := 6) (a := 6) (by decide)) (by omega) (by omega) dX2_enter_6 (fun v16 e17 => ?_)
  refine go_istore (pc := 7) (Nat.le_of_ble_eq_true rfl) dX2_enter_7 (go_lv (lv2 := [(0, .ref 64), (1, .int a2), (2, .int a3), (3, .int a4), (4, .int v16)]) rfl ?_)
  refine go_iconst (pc := 9) (v := 0) (by decide) dX2_enter_9 ?_
  refine go_istore (pc := 10) (Nat.le_of_ble_eq_true rfl) dX2_enter_10 (go_lv (lv2 := [(0, .ref 64), (1, .int a2), (2, .int a3), (3, .int a4), (4, .int v16), (5, .int 0)]) rfl ?_)
  have z18 : (v16 : Int32).toInt = (v15.toInt * 6) := e17
  have z19 : (0 : Int32).toInt = 0 := (ti_c (v := 0) (a := 0) (by decide))
  exact go_lv rfl ((key 37) a2 a3 a4 v16 0 h hv (by omega) (by omega) (by omega) (by omega) (by omega) (by omega) fx (by omega))
set_option maxHeartbeats 4000000 in
set_option maxRecDepth 100000 in
theorem s_X2_store_f (l : Launch) (d : Nat) {P : PP} {h : HP} (hv : Iv P h) (a2 : Int32) (a2l : -1 ≤ a2.toInt) (a2u : a2.toInt ≤ 9) (a3 : Int32) : Mt l yX2_store cX2_store 3 none (d + 1) [.ref 64, .int a2, .int a3] h 0 0 (fun r h' => r = none ∧ Iv P h' ∧ (FX KAc h h')) := by
  refine Mt_iv hv (by decide) (Nat.le_of_ble_eq_true rfl) ?_
  show Go l RX2 cX2_store 3 (g_rm (d + 1) 0 0) "store" none 117 0 0 (fun _ _ => True) (fun r h' => r = none ∧ Iv P h' ∧ (FX KAc h h')) 0 0 [(0, .ref 64), (1, .int a2), (2, .int a3)] [] h
  have fx : FX KAc h h := FX.rfl
  have key : ∀ n : Nat, (∀  (hx : HP), Iv P hx → FX KAc h hx → (1 : Int) < n → Go l RX2 cX2_store 3 (g_rm (d + 1) 0 0) "store" none 117 0 0 (fun _ _ => True) (fun r h' => r = none ∧ Iv P h' ∧ (FX KAc h h')) 0 38 [] [] hx) := by
    intro n
    induction n with
    | zero => exact (by intros; omega)
    | succ n ih =>
      refine ?_
      ·
        intro hx hvx fxx hm
        exact gi_vret (pc := 38) ⟨rfl, hvx, fxx⟩ hvx dX2_store_38
  refine go_iload_n (pc := 0) rfl dX2_store_0 ?_
  refine go_bipush (pc := 1) (v := 6) (by decide) dX2_store_1 ?_
  refine gf_icmp_lt (pc := 3) (tgt := 19) (ti_rfl a2) (ti_c (v := 6) (a := 6) (by decide)) (by decide) dX2_store_3 (fun q1 => ?_) (fun q1 => ?_)
  ·
    refine go_iload_n (pc := 19) rfl dX2_store_19 ?_
    refine gf_if_lt (pc := 20) (tgt := 38) (ti_rfl a2) (by decide) dX2_store_20 (fun q2 => ?_) (fun q2 => ?_)
    ·
      exact go_lv rfl ((key 14)  h hv fx (by omega))
    ·
      refine go_aload_n (pc := 23) rfl dX2_store_23 ?_
      refine gi_getF (pc := 24) (q := 66) hv fL_X2_15 rfl (Nat.le_of_ble_eq_true rfl) rfl (hv.rf (by decide)) dX2_store_24 ?_
      refine go_aload_n (pc := 27) rfl dX2_store_27 ?_
      refine gi_get (pc := 28) (lo := 0) (hi := 30) hv fL_X2_21 rfl (Nat.le_of_ble_eq_true rfl) rfl rfl dX2_store_28 (fun v3 v3l v3u v3w => ?_)
      refine go_bipush (pc := 31) (v := 6) (by decide) dX2_store_31 ?_
      refine gf_imul (pc := 33) (ti_rfl v3) (ti_c (v := 6) (a := 6) (by decide)) (by omega) (by omega) dX2_store_33 (fun v4 e5 => ?_)
      refine go_iload_n (pc := 34) rfl dX2_store_34 ?_
      refine gf_iadd (pc := 35) e5 (ti_rfl a2) (by omega) (by omega) dX2_store_35 (fun v6 e7 => ?_)
      refine go_iload_n (pc := 36) rfl dX2_store_36 ?_
      refine gi_iast (pc := 37) (lo := -2147483648) (hi := 2147483647) (len := 186) hv e7 (ti_rfl a3) rfl (by omega) (by omega) (fun _ => rfl) (ti_ge (ti_rfl a3)) (ti_le2 (ti_rfl a3)) (by decide) dX2_store_37 (fun h8 hv8 hv8e => ?_)
      have fx8 : FX KAc h h8 := FX.pI fx hv8e (by unfold KAc; omega)
      exact go_lv rfl ((key 14)  h8 hv8 fx8 (by omega))
  ·
    refine go_aload_n (pc := 6) rfl dX2_store_6 ?_
    refine gi_getF (pc := 7) (q := 65) hv fL_X2_9 rfl (Nat.le_of_ble_eq_true rfl) rfl (hv.rf (by decide)) dX2_store_7 ?_
    refine go_iload_n (pc := 10) rfl dX2_store_10 ?_
    refine go_bipush (pc := 11) (v := 6) (by decide) dX2_store_11 ?_
    refine gf_isub (pc := 13) (ti_rfl a2) (ti_c (v := 6) (a := 6) (by decide)) (by omega) (by omega) dX2_store_13 (fun v9 e10 => ?_)
    refine go_iload_n (pc := 14) rfl dX2_store_14 ?_
    refine gi_iast (pc := 15) (lo := -2147483648) (hi := 2147483647) (len := 4) hv e10 (ti_rfl a3) rfl (by omega) (by omega) (fun _ => rfl) (ti_ge (ti_rfl a3)) (ti_le2 (ti_rfl a3)) (by decide) dX2_store_15 (fun h11 hv11 hv11e => ?_)
    have fx11 : FX KAc h h11 := FX.pI fx hv11e (by unfold KAc; omega)
    refine go_goto (pc := 16) (tgt := 38) (by decide) dX2_store_16 ?_
    exact go_lv rfl ((key 14)  h11 hv11 fx11 (by omega))
set_option maxHeartbeats 4000000 in
set_option maxRecDepth 100000 in
theorem s_X2_see_f (l : Launch) (d : Nat) {P : PP} {h : HP} (hv : Iv P h) (a2 : Int32) (a3 : Int32) : Mt l yX2_see cX2_see 3 none (d + 1) [.ref 64, .int a2, .int a3] h 0 0 (fun r h' => r = none ∧ Iv P h' ∧ (FX KAc h h')) := by
  refine Mt_iv hv (by decide) (Nat.le_of_ble_eq_true rfl) ?_
  show Go l RX2 cX2_see 3 (g_rm (d + 1) 0 0) "see" none 117 0 0 (fun _ _ => True) (fun r h' => r = none ∧ Iv P h' ∧ (FX KAc h h')) 0 0 [(0, .ref 64), (1, .int a2), (2, .int a3)] [] h
  have fx : FX KAc h h := FX.rfl
  have key : ∀ n : Nat, (∀  (hx : HP), Iv P hx → FX KAc h hx → (1 : Int) < n → Go l RX2 cX2_see 3 (g_rm (d + 1) 0 0) "see" none 117 0 0 (fun _ _ => True) (fun r h' => r = none ∧ Iv P h' ∧ (FX KAc h h')) 0 40 [] [] hx) := by
    intro n
    induction n with
    | zero => exact (by intros; omega)
    | succ n ih =>
      refine ?_
      ·
        intro hx hvx fxx hm
        exact gi_vret (pc := 40) ⟨rfl, hvx, fxx⟩ hvx dX2_see_40
  refine go_aload_n (pc := 0) rfl dX2_see_0 ?_
  refine gi_get (pc := 1) (lo := 0) (hi := 500) hv fL_X2_43 rfl (Nat.le_of_ble_eq_true rfl) rfl rfl dX2_see_1 (fun v1 v1l v1u v1w => ?_)
  refine go_sipush (pc := 4) (v := 500) (by decide) dX2_see_4 ?_
  refine gf_icmp_ge (pc := 7) (tgt := 40) (ti_rfl v1) (ti_c (v := 500) (a := 500) (by decide)) (by decide) dX2_see_7 (fun q2 => ?_) (fun q2 => ?_)
  ·
    exact go_lv rfl ((key 14)  h hv fx (by omega))
  ·
    refine go_aload_n (pc := 10) rfl dX2_see_10 ?_
    refine gi_getF (pc := 11) (q := 68) hv fL_X2_37 rfl (Nat.le_of_ble_eq_true rfl) rfl (hv.rf (by decide)) dX2_see_11 ?_
    refine go_aload_n (pc := 14) rfl dX2_see_14 ?_
    refine gi_get (pc := 15) (lo := 0) (hi := 500) hv fL_X2_43 rfl (Nat.le_of_ble_eq_true rfl) rfl rfl dX2_see_15 (fun v3 v3l v3u v3w => ?_)
    have v3r : v1 = h.2.1 64 10 := v1w
    have v3q : TI v3 v1.toInt := by rw [v3w.trans v3r.symm]; exact (ti_rfl v1)
    refine go_iload_n (pc := 18) rfl dX2_see_18 ?_
    refine gi_iast (pc := 19) (lo := -2147483648) (hi := 2147483647) (len := 500) hv v3q (ti_rfl a2) rfl (by omega) (by omega) (fun _ => rfl) (ti_ge (ti_rfl a2)) (ti_le2 (ti_rfl a2)) (by decide) dX2_see_19 (fun h4 hv4 hv4e => ?_)
    have fx4 : FX KAc h h4 := FX.pI fx hv4e (by unfold KAc; omega)
    refine go_aload_n (pc := 20) rfl dX2_see_20 ?_
    refine gi_getF (pc := 21) (q := 69) hv4 fL_X2_40 rfl (Nat.le_of_ble_eq_true rfl) rfl (hv4.rf (by decide)) dX2_see_21 ?_
    refine go_aload_n (pc := 24) rfl dX2_see_24 ?_
    refine gi_get (pc := 25) (lo := 0) (hi := 500) hv4 fL_X2_43 rfl (Nat.le_of_ble_eq_true rfl) rfl rfl dX2_see_25 (fun v5 v5l v5u v5w => ?_)
    have v5r : v1 = h4.2.1 64 10 := (show v1 = h4.2.1 64 10 from by rw [hv4e]; exact (g_iI rfl v1w.symm).symm)
    have v5q : TI v5 v1.toInt := by rw [v5w.trans v5r.symm]; exact (ti_rfl v1)
    refine go_iload_n (pc := 28) rfl dX2_see_28 ?_
    refine gi_iast (pc := 29) (lo := -2147483648) (hi := 2147483647) (len := 500) hv4 v5q (ti_rfl a3) rfl (by omega) (by omega) (fun _ => rfl) (ti_ge (ti_rfl a3)) (ti_le2 (ti_rfl a3)) (by decide) dX2_see_29 (fun h6 hv6 hv6e => ?_)
    have fx6 : FX KAc h h6 := FX.pI fx4 hv6e (by unfold KAc; omega)
    refine go_aload_n (pc := 30) rfl dX2_see_30 ?_
    refine go_dup (pc := 31) rfl dX2_see_31 ?_
    refine gi_get (pc := 32) (lo := 0) (hi := 500) hv6 fL_X2_43 rfl (Nat.le_of_ble_eq_true rfl) rfl rfl dX2_see_32 (fun v7 v7l v7u v7w => ?_)
    have v7r : v1 = h6.2.1 64 10 := (show v1 = h6.2.1 64 10 from by rw [hv6e]; exact (g_iI rfl (show v1 = h4.2.1 64 10 from by rw [hv4e]; exact (g_iI rfl v1w.symm).symm).symm).symm)
    have v7q : TI v7 v1.toInt := by rw [v7w.trans v7r.symm]; exact (ti_rfl v1)
    refine go_iconst (pc := 35) (v := 1) (by decide) dX2_see_35 ?_
    refine gf_iadd (pc := 36) v7q (ti_c (v := 1) (a := 1) (by decide)) (by omega) (by omega) dX2_see_36 (fun v8 e9 => ?_)
    refine gi_put (pc := 37) (lo := 0) (hi := 500) hv6 e9 (fP_X2_43 _) rfl (Nat.le_of_ble_eq_true rfl) rfl rfl (by omega) (by omega) rfl rfl (by decide) (by decide) (by decide) (by decide) dX2_see_37 (fun h10 hv10 hv10e => ?_)
    have fx10 : FX KAc h h10 := FX.pI fx6 hv10e (by unfold KAc; omega)
    exact go_lv rfl ((key 14)  h10 hv10 fx10 (by omega))
set_option maxHeartbeats 4000000 in
set_option maxRecDepth 100000 in
theorem s_X2_leave_f (l : Launch) (d : Nat) {P : PP} {h : HP} (hv : Iv P h) (a2 : Int32) (a3 : Int32) (a3l : 0 ≤ a3.toInt) (a3u : a3.toInt ≤ 1) : Mt l yX2_leave cX2_leave 6 none (d + 2) [.ref 64, .int a2, .int a3] h 0 0 (fun r h' => r = none ∧ Iv P h' ∧ (FX KAc h h')) := by
  refine Mt_iv hv (by decide) (Nat.le_of_ble_eq_true rfl) ?_
  show Go l RX2 cX2_leave 6 (g_rm (d + 2) 0 0) "leave" none 117 0 0 (fun _ _ => True) (fun r h' => r = none ∧ Iv P h' ∧ (FX KAc h h')) 0 0 [(0, .ref 64), (1, .int a2), (2, .int a3)] [] h
  have fx : FX KAc h h := FX.rfl
  have key : ∀ n : Nat, (∀ (l1 : Int32) (l2 : Int32) (l3 : Int32) (l4 : Int32) (hx : HP), Iv P hx → 0 ≤ l2.toInt → l2.toInt ≤ 1 → 0 ≤ l3.toInt → l3.toInt ≤ 1 → 0 ≤ l4.toInt → l4.toInt ≤ 31 → FX KAc h hx → (8 * (31 - l4.toInt) + 10 : Int) < n → Go l RX2 cX2_leave 6 (g_rm (d + 2) 0 0) "leave" none 117 0 0 (fun _ _ => True) (fun r h' => r = none ∧ Iv P h' ∧ (FX KAc h h')) 0 5 [(0, .ref 64), (1, .int l1), (2, .int l2), (3, .int l3), (4, .int l4)] [] hx) ∧ (∀ (l1 : Int32) (l2 : Int32) (l4 : Int32) (l5 : Int32) (hx : HP), Iv P hx → 0 ≤ l2.toInt → l2.toInt ≤ 1 → 0 ≤ l4.toInt → l4.toInt ≤ 30 → 0 ≤ l5.toInt → l5.toInt ≤ 39 → FX KAc h hx → (8 * (31 - l4.toInt) + 9 : Int) < n → Go l RX2 cX2_leave 6 (g_rm (d + 2) 0 0) "leave" none 117 0 0 (fun _ _ => True) (fun r h' => r = none ∧ Iv P h' ∧ (FX KAc h h')) 0 68 [(0, .ref 64), (1, .int l1), (2, .int l2), (4, .int l4), (5, .int l5)] [] hx) ∧ (∀ (l1 : Int32) (l2 : Int32) (l4 : Int32) (l5 : Int32) (s0 : Int32) (hx : HP), Iv P hx → 0 ≤ l2.toInt → l2.toInt ≤ 1 → 0 ≤ l4.toInt → l4.toInt ≤ 30 → 0 ≤ l5.toInt → l5.toInt ≤ 39 → 0 ≤ s0.toInt → s0.toInt ≤ 1 → FX KAc h hx → (8 * (31 - l4.toInt) + 8 : Int) < n → Go l RX2 cX2_leave 6 (g_rm (d + 2) 0 0) "leave" none 117 0 0 (fun _ _ => True) (fun r h' => r = none ∧ Iv P h' ∧ (FX KAc h h')) 0 73 [(0, .ref 64), (1, .int l1), (2, .int l2), (4, .int l4), (5, .int l5)] [.int s0] hx) ∧ (∀ (l1 : Int32) (l2 : Int32) (l3 : Int32) (l4 : Int32) (l5 : Int32) (s0 : Int32) (hx : HP), Iv P hx → 0 ≤ l2.toInt → l2.toInt ≤ 1 → 1 ≤ l3.toInt → l3.toInt ≤ 1 → 0 ≤ l4.toInt → l4.toInt ≤ 30 → 0 ≤ l5.toInt → l5.toInt ≤ 39 → -1 ≤ s0.toInt → s0.toInt ≤ 9 → FX KAc h hx → (8 * (31 - l4.toInt) + 7 : Int) < n → Go l RX2 cX2_leave 6 (g_rm (d + 2) 0 0) "leave" none 117 0 0 (fun _ _ => True) (fun r h' => r = none ∧ Iv P h' ∧ (FX KAc h h')) 0 106 [(0, .ref 64), (1, .int l1), (2, .int l2), (3, .int l3), (4, .int l4), (5, .int l5)] [.int s0, .ref 64] hx) ∧ (∀ (l1 : Int32) (l2 : Int32) (l3 : Int32) (l4 : Int32) (s0 : Int32) (hx : HP), Iv P hx → 0 ≤ l2.toInt → l2.toInt ≤ 1 → 1 ≤ l3.toInt → l3.toInt ≤ 1 → 0 ≤ l4.toInt → l4.toInt ≤ 30 → 0 ≤ s0.toInt → s0.toInt ≤ 44 → FX KAc h hx → (8 * (31 - l4.toInt) + 6 : Int) < n → Go l RX2 cX2_leave 6 (g_rm (d + 2) 0 0) "leave" none 117 0 0 (fun _ _ => True) (fun r h' => r = none ∧ Iv P h' ∧ (FX KAc h h')) 0 138 [(0, .ref 64), (1, .int l1), (2, .int l2), (3, .int l3), (4, .int l4)] [.int s0, .ref 64] hx) ∧ (∀ (l1 : Int32) (l2 : Int32) (l3 : Int32) (l4 : Int32) (hx : HP), Iv P hx → 0 ≤ l2.toInt → l2.toInt ≤ 1 → 0 ≤ l3.toInt → l3.toInt ≤ 1 → 0 ≤ l4.toInt → l4.toInt ≤ 30 → FX KAc h hx → (8 * (31 - l4.toInt) + 5 : Int) < n → Go l RX2 cX2_leave 6 (g_rm (d + 2) 0 0) "leave" none 117 0 0 (fun _ _ => True) (fun r h' => r = none ∧ Iv P h' ∧ (FX KAc h h')) 0 141 [(0, .ref 64), (1, .int l1), (2, .int l2), (3, .int l3), (4, .int l4)] [] hx) ∧ (∀ (l1 : Int32) (l2 : Int32) (l3 : Int32) (hx : HP), Iv P hx → 0 ≤ l2.toInt → l2.toInt ≤ 1 → 0 ≤ l3.toInt → l3.toInt ≤ 1 → FX KAc h hx → (3 : Int) < n → Go l RX2 cX2_leave 6 (g_rm (d + 2) 0 0) "leave" none 117 0 0 (fun _ _ => True) (fun r h' => r = none ∧ Iv P h' ∧ (FX KAc h h')) 0 147 [(0, .ref 64), (1, .int l1), (2, .int l2), (3, .int l3)] [] hx) ∧ (∀ (l1 : Int32) (s0 : Int32) (hx : HP), Iv P hx → 0 ≤ s0.toInt → s0.toInt ≤ 1 → FX KAc h hx → (2 : Int) < n → Go l RX2 cX2_leave 6 (g_rm (d + 2) 0 0) "leave" none 117 0 0 (fun _ _ => True) (fun r h' => r = none ∧ Iv P h' ∧ (FX KAc h h')) 0 161 [(0, .ref 64), (1, .int l1)] [.int s0, .ref 64] hx) ∧ (∀  (hx : HP), Iv P hx → FX KAc h hx → (1 : Int) < n → Go l RX2 cX2_leave 6 (g_rm (d + 2) 0 0) "leave" none 117 0 0 (fun _ _ => True) (fun r h' => r = none ∧ Iv P h' ∧ (FX KAc h h')) 0 169 [] [] hx) := by
    intro n
    induction n with
    | zero => exact ⟨(by intros; omega), (by intros; omega), (by intros; omega), (by intros; omega), (by intros; omega), (by intros; omega), (by intros; omega), (by intros; omega), (by intros; omega)⟩
    | succ n ih =>
      refine ⟨?_, ?_, ?_, ?_, ?_, ?_, ?_, ?_, ?_⟩
      ·
        intro l1 l2 l3 l4 hx hvx l2l l2u l3l l3u l4l l4u fxx hm
        refine go_iload (pc := 5) rfl dX2_leave_5 ?_
        refine go_bipush (pc := 7) (v := 31) (by decide) dX2_leave_7 ?_
        refine gf_icmp_ge (pc := 9) (tgt := 147) (ti_rfl l4) (ti_c (v := 31) (a := 31) (by decide)) (by decide) dX2_leave_9 (fun q1 => ?_) (fun q1 => ?_)
        ·
          exact go_lv rfl (ih.2.2.2.2.2.2.1 l1 l2 l3 hx hvx (by omega) (by omega) (by omega) (by omega) fxx (by omega))
        ·
          refine go_aload_n (pc := 12) rfl dX2_leave_12 ?_
          refine gi_get (pc := 13) (lo := 0) (hi := 30) hvx fL_X2_21 rfl (Nat.le_of_ble_eq_true rfl) rfl rfl dX2_leave_13 (fun v2 v2l v2u v2w => ?_)
          refine gf_if_le (pc := 16) (tgt := 147) (ti_rfl v2) (by decide) dX2_leave_16 (fun q3 => ?_) (fun q3 => ?_)
          ·
            exact go_lv rfl (ih.2.2.2.2.2.2.1 l1 l2 l3 hx hvx (by omega) (by omega) (by omega) (by omega) fxx (by omega))
          ·
            refine go_iload_n (pc := 19) rfl dX2_leave_19 ?_
            refine gf_if_ne (pc := 20) (tgt := 147) (ti_rfl l3) (by decide) dX2_leave_20 (fun q4 => ?_) (fun q4 => ?_)
            ·
              exact go_lv rfl (ih.2.2.2.2.2.2.1 l1 l2 l3 hx hvx (by omega) (by omega) (by omega) (by omega) fxx (by omega))
            ·
              refine go_aload_n (pc := 23) rfl dX2_leave_23 ?_
              refine gi_getF (pc := 24) (q := 67) hvx fL_X2_18 rfl (Nat.le_of_ble_eq_true rfl) rfl (hvx.rf (by decide)) dX2_leave_24 ?_
              refine go_aload_n (pc := 27) rfl dX2_leave_27 ?_
              refine gi_get (pc := 28) (lo := 0) (hi := 30) hvx fL_X2_21 rfl (Nat.le_of_ble_eq_true rfl) rfl rfl dX2_leave_28 (fun v5 v5l v5u v5w => ?_)
              have v5r : v2 = hx.2.1 64 3 := v2w
              have v5q : TI v5 v2.toInt := by rw [v5w.trans v5r.symm]; exact (ti_rfl v2)
              refine gi_iald (pc := 31) (lo := 0) (hi := 39) (len := 31) hvx v5q rfl (by omega) (by omega) (fun _ => rfl) dX2_leave_31 (fun v6 v6l v6u v6w => ?_)
              refine go_istore (pc := 32) (Nat.le_of_ble_eq_true rfl) dX2_leave_32 (go_lv (lv2 := [(0, .ref 64), (1, .int l1), (2, .int l2), (3, .int l3), (4, .int l4), (5, .int v6)]) rfl ?_)
              refine go_aload_n (pc := 34) rfl dX2_leave_34 ?_
              refine go_dup (pc := 35) rfl dX2_leave_35 ?_
              refine gi_get (pc := 36) (lo := 0) (hi := 30) hvx fL_X2_21 rfl (Nat.le_of_ble_eq_true rfl) rfl rfl dX2_leave_36 (fun v7 v7l v7u v7w => ?_)
              have v7r : v2 = hx.2.1 64 3 := v2w
              have v7q : TI v7 v2.toInt := by rw [v7w.trans v7r.symm]; exact (ti_rfl v2)
              refine go_iconst (pc := 39) (v := 1) (by decide) dX2_leave_39 ?_
              refine gf_isub (pc := 40) v7q (ti_c (v := 1) (a := 1) (by decide)) (by omega) (by omega) dX2_leave_40 (fun v8 e9 => ?_)
              refine gi_put (pc := 41) (lo := 0) (hi := 30) hvx e9 (fP_X2_21 _) rfl (Nat.le_of_ble_eq_true rfl) rfl rfl (by omega) (by omega) rfl rfl (by decide) (by decide) (by decide) (by decide) dX2_leave_41 (fun h10 hv10 hv10e => ?_)
              have fx10 : FX KAc h h10 := FX.pI fxx hv10e (by unfold KAc; omega)
              refine go_aload_n (pc := 44) rfl dX2_leave_44 ?_
              refine go_iload (pc := 45) rfl dX2_leave_45 ?_
              refine go_iload_n (pc := 47) rfl dX2_leave_47 ?_
              refine go_invV (pc := 48) (sl := 0) (s_X2_see_f l (d + 0) hv10 v6 l1) mL_X2_102 iM_X2_see sM_X2_see (hv10.sh rfl) rfl rfl rfl (Nat.le_of_ble_eq_true rfl) (show d + 0 + 1 + 1 ≤ d + 2 by omega) (show 8 + (3 + 11) + 40 * (d + 0 + 1) ≤ 40 * (d + 2) by omega) (g_c0 hv10.ln) (Nat.le_of_ble_eq_true rfl) dX2_leave_48 ?_
              intro r h11 hq _
              obtain ⟨rfl, hv11, f12⟩ := hq
              have fx11 : FX KAc h h11 := FX.tr fx10 f12
              refine go_iload_n (pc := 51) rfl dX2_leave_51 ?_
              refine gf_if_eq (pc := 52) (tgt := 68) (ti_rfl l2) (by decide) dX2_leave_52 (fun q13 => ?_) (fun q13 => ?_)
              ·
                exact go_lv rfl (ih.2.1 l1 l2 l4 v6 h11 hv11 (by omega) (by omega) (by omega) (by omega) (by omega) (by omega) fx11 (by omega))
              ·
                refine go_aload_n (pc := 55) rfl dX2_leave_55 ?_
                refine gi_getC (pc := 56) hv11 fL_X2_50 rfl (Nat.le_of_ble_eq_true rfl) rfl (by decide) dX2_leave_56 (fun c14 hc14 fc14 => ?_)
                refine gi_getF (pc := 59) (q := c14 + 14) hv11 fL_X2_132 (by rcases hc14 with rfl | rfl <;> rfl) (Nat.le_of_ble_eq_true rfl) rfl (by rcases hc14 with rfl | rfl <;> exact hv11.rf (by decide)) dX2_leave_59 ?_
                refine go_iload (pc := 62) rfl dX2_leave_62 ?_
                refine gi_iald (pc := 64) (lo := -1) (hi := 5) (len := 40) hv11 (ti_rfl v6) (by rcases hc14 with rfl | rfl <;> rfl) (by omega) (by omega) (fun _ => by rcases hc14 with rfl | rfl <;> rfl) dX2_leave_64 (fun v15 v15l v15u v15w => ?_)
                refine gf_if_lt (pc := 65) (tgt := 72) (ti_rfl v15) (by decide) dX2_leave_65 (fun q16 => ?_) (fun q16 => ?_)
                ·
                  refine go_iconst (pc := 72) (v := 0) (by decide) dX2_leave_72 ?_
                  have z17 : (0 : Int32).toInt = 0 := (ti_c (v := 0) (a := 0) (by decide))
                  exact go_lv rfl (ih.2.2.1 l1 l2 l4 v6 0 h11 hv11 (by omega) (by omega) (by omega) (by omega) (by omega) (by omega) (by omega) (by omega) fx11 (by omega))
                ·
                  exact go_lv rfl (ih.2.1 l1 l2 l4 v6 h11 hv11 (by omega) (by omega) (by omega) (by omega) (by omega) (by omega) fx11 (by omega))
      ·
        intro l1 l2 l4 l5 hx hvx l2l l2u l4l l4u l5l l5u fxx hm
        refine go_iconst (pc := 68) (v := 1) (by decide) dX2_leave_68 ?_
        refine go_goto (pc := 69) (tgt := 73) (by decide) dX2_leave_69 ?_
        have z18 : (1 : Int32).toInt = 1 := (ti_c (v := 1) (a := 1) (by decide))
        exact go_lv rfl (ih.2.2.1 l1 l2 l4 l5 1 hx hvx (by omega) (by omega) (by omega) (by omega) (by omega) (by omega) (by omega) (by omega) fxx (by omega))
      ·
        intro l1 l2 l4 l5 s0 hx hvx l2l l2u l4l l4u l5l l5u s0l s0u fxx hm
        refine go_istore_n (pc := 73) (Nat.le_of_ble_eq_true rfl) dX2_leave_73 (go_lv (lv2 := [(0, .ref 64), (1, .int l1), (2, .int l2), (3, .int s0), (4, .int l4), (5, .int l5)]) rfl ?_)
        refine go_iload_n (pc := 74) rfl dX2_leave_74 ?_
        refine gf_if_eq (pc := 75) (tgt := 141) (ti_rfl s0) (by decide) dX2_leave_75 (fun q19 => ?_) (fun q19 => ?_)
        ·
          exact go_lv rfl (ih.2.2.2.2.2.1 l1 l2 s0 l4 hx hvx (by omega) (by omega) (by omega) (by omega) (by omega) (by omega) fxx (by omega))
        ·
          refine go_aload_n (pc := 78) rfl dX2_leave_78 ?_
          refine go_iload_n (pc := 79) rfl dX2_leave_79 ?_
          refine gf_if_eq (pc := 80) (tgt := 96) (ti_rfl l2) (by decide) dX2_leave_80 (fun q20 => ?_) (fun q20 => ?_)
          ·
            refine go_aload_n (pc := 96) rfl dX2_leave_96 ?_
            refine gi_getC (pc := 97) hvx fL_X2_50 rfl (Nat.le_of_ble_eq_true rfl) rfl (by decide) dX2_leave_97 (fun c21 hc21 fc21 => ?_)
            refine gi_getF (pc := 100) (q := c21 + 6) hvx fL_X2_95 (by rcases hc21 with rfl | rfl <;> rfl) (Nat.le_of_ble_eq_true rfl) rfl (by rcases hc21 with rfl | rfl <;> exact hvx.rf (by decide)) dX2_leave_100 ?_
            refine go_iload (pc := 103) rfl dX2_leave_103 ?_
            refine gi_iald (pc := 105) (lo := -1) (hi := 9) (len := 40) hvx (ti_rfl l5) (by rcases hc21 with rfl | rfl <;> rfl) (by omega) (by omega) (fun _ => by rcases hc21 with rfl | rfl <;> rfl) dX2_leave_105 (fun v22 v22l v22u v22w => ?_)
            exact go_lv rfl (ih.2.2.2.1 l1 l2 s0 l4 l5 v22 hx hvx (by omega) (by omega) (by omega) (by omega) (by omega) (by omega) (by omega) (by omega) (by omega) (by omega) fxx (by omega))
          ·
            refine go_aload_n (pc := 83) rfl dX2_leave_83 ?_
            refine gi_getC (pc := 84) hvx fL_X2_50 rfl (Nat.le_of_ble_eq_true rfl) rfl (by decide) dX2_leave_84 (fun c23 hc23 fc23 => ?_)
            refine gi_getF (pc := 87) (q := c23 + 14) hvx fL_X2_132 (by rcases hc23 with rfl | rfl <;> rfl) (Nat.le_of_ble_eq_true rfl) rfl (by rcases hc23 with rfl | rfl <;> exact hvx.rf (by decide)) dX2_leave_87 ?_
            refine go_iload (pc := 90) rfl dX2_leave_90 ?_
            refine gi_iald (pc := 92) (lo := -1) (hi := 5) (len := 40) hvx (ti_rfl l5) (by rcases hc23 with rfl | rfl <;> rfl) (by omega) (by omega) (fun _ => by rcases hc23 with rfl | rfl <;> rfl) dX2_leave_92 (fun v24 v24l v24u v24w => ?_)
            refine go_goto (pc := 93) (tgt := 106) (by decide) dX2_leave_93 ?_
            exact go_lv rfl (ih.2.2.2.1 l1 l2 s0 l4 l5 v24 hx hvx (by omega) (by omega) (by omega) (by omega) (by omega) (by omega) (by omega) (by omega) (by omega) (by omega) fxx (by omega))
      ·
        intro l1 l2 l3 l4 l5 s0 hx hvx l2l l2u l3l l3u l4l l4u l5l l5u s0l s0u fxx hm
        refine go_iload_n (pc := 106) rfl dX2_leave_106 ?_
        refine go_invV (pc := 107) (sl := 0) (s_X2_store_f l (d + 0) hvx s0 (by rw [show (s0 : Int32).toInt = s0.toInt from (ti_rfl s0)]; omega) (by rw [show (s0 : Int32).toInt = s0.toInt from (ti_rfl s0)]; omega) l1) mL_X2_98 iM_X2_store sM_X2_store (hvx.sh rfl) rfl rfl rfl (Nat.le_of_ble_eq_true rfl) (show d + 0 + 1 + 1 ≤ d + 2 by omega) (show 8 + (3 + 11) + 40 * (d + 0 + 1) ≤ 40 * (d + 2) by omega) (g_c0 hvx.ln) (Nat.le_of_ble_eq_true rfl) dX2_leave_107 ?_
        intro r h25 hq _
        obtain ⟨rfl, hv25, f26⟩ := hq
        have fx25 : FX KAc h h25 := FX.tr fxx f26
        refine go_aload_n (pc := 110) rfl dX2_leave_110 ?_
        refine go_iload_n (pc := 111) rfl dX2_leave_111 ?_
        refine gf_if_eq (pc := 112) (tgt := 128) (ti_rfl l2) (by decide) dX2_leave_112 (fun q27 => ?_) (fun q27 => ?_)
        ·
          refine go_aload_n (pc := 128) rfl dX2_leave_128 ?_
          refine gi_getC (pc := 129) hv25 fL_X2_50 rfl (Nat.le_of_ble_eq_true rfl) rfl (by decide) dX2_leave_129 (fun c28 hc28 fc28 => ?_)
          refine gi_getF (pc := 132) (q := c28 + 12) hv25 fL_X2_105 (by rcases hc28 with rfl | rfl <;> rfl) (Nat.le_of_ble_eq_true rfl) rfl (by rcases hc28 with rfl | rfl <;> exact hv25.rf (by decide)) dX2_leave_132 ?_
          refine go_iload (pc := 135) rfl dX2_leave_135 ?_
          refine gi_iald (pc := 137) (lo := 0) (hi := 44) (len := 40) hv25 (ti_rfl l5) (by rcases hc28 with rfl | rfl <;> rfl) (by omega) (by omega) (fun _ => by rcases hc28 with rfl | rfl <;> rfl) dX2_leave_137 (fun v29 v29l v29u v29w => ?_)
          exact go_lv rfl (ih.2.2.2.2.1 l1 l2 l3 l4 v29 h25 hv25 (by omega) (by omega) (by omega) (by omega) (by omega) (by omega) (by omega) (by omega) fx25 (by omega))
        ·
          refine go_aload_n (pc := 115) rfl dX2_leave_115 ?_
          refine gi_getC (pc := 116) hv25 fL_X2_50 rfl (Nat.le_of_ble_eq_true rfl) rfl (by decide) dX2_leave_116 (fun c30 hc30 fc30 => ?_)
          refine gi_getF (pc := 119) (q := c30 + 13) hv25 fL_X2_123 (by rcases hc30 with rfl | rfl <;> rfl) (Nat.le_of_ble_eq_true rfl) rfl (by rcases hc30 with rfl | rfl <;> exact hv25.rf (by decide)) dX2_leave_119 ?_
          refine go_iload (pc := 122) rfl dX2_leave_122 ?_
          refine gi_iald (pc := 124) (lo := 0) (hi := 44) (len := 40) hv25 (ti_rfl l5) (by rcases hc30 with rfl | rfl <;> rfl) (by omega) (by omega) (fun _ => by rcases hc30 with rfl | rfl <;> rfl) dX2_leave_124 (fun v31 v31l v31u v31w => ?_)
          refine go_goto (pc := 125) (tgt := 138) (by decide) dX2_leave_125 ?_
          exact go_lv rfl (ih.2.2.2.2.1 l1 l2 l3 l4 v31 h25 hv25 (by omega) (by omega) (by omega) (by omega) (by omega) (by omega) (by omega) (by omega) fx25 (by omega))
      ·
        intro l1 l2 l3 l4 s0 hx hvx l2l l2u l3l l3u l4l l4u s0l s0u fxx hm
        refine gi_put (pc := 138) (lo := 0) (hi := 44) hvx (ti_rfl s0) (fP_X2_25 _) rfl (Nat.le_of_ble_eq_true rfl) rfl rfl (by omega) (by omega) rfl rfl (by decide) (by decide) (by decide) (by decide) dX2_leave_138 (fun h32 hv32 hv32e => ?_)
        have fx32 : FX KAc h h32 := FX.pI fxx hv32e (by unfold KAc; omega)
        exact go_lv rfl (ih.2.2.2.2.2.1 l1 l2 l3 l4 h32 hv32 (by omega) (by omega) (by omega) (by omega) (by omega) (by omega) fx32 (by omega))
      ·
        intro l1 l2 l3 l4 hx hvx l2l l2u l3l l3u l4l l4u fxx hm
        refine gf_iinc (pc := 141) (Nat.le_of_ble_eq_true rfl) rfl (ti_rfl l4) (ti_c (by decide)) (by omega) (by omega) dX2_leave_141 (fun v33 e34 => ?_)
        refine go_lv (lv2 := [(0, .ref 64), (1, .int l1), (2, .int l2), (3, .int l3), (4, .int v33)]) rfl ?_
        refine go_goto (pc := 144) (tgt := 5) (by decide) dX2_leave_144 ?_
        have z35 : (v33 : Int32).toInt = (l4.toInt + 1) := e34
        exact go_lv rfl (ih.1 l1 l2 l3 v33 hx hvx (by omega) (by omega) (by omega) (by omega) (by omega) (by omega) fxx (by omega))
      ·
        intro l1 l2 l3 hx hvx l2l l2u l3l l3u fxx hm
        refine go_iload_n (pc := 147) rfl dX2_leave_147 ?_
        refine gf_if_ne (pc := 148) (tgt := 169) (ti_rfl l3) (by decide) dX2_leave_148 (fun q36 => ?_) (fun q36 => ?_)
        ·
          exact go_lv rfl (ih.2.2.2.2.2.2.2.2  hx hvx fxx (by omega))
        ·
          refine go_aload_n (pc := 151) rfl dX2_leave_151 ?_
          refine go_iload_n (pc := 152) rfl dX2_leave_152 ?_
          refine gf_if_eq (pc := 153) (tgt := 160) (ti_rfl l2) (by decide) dX2_leave_153 (fun q37 => ?_) (fun q37 => ?_)
          ·
            refine go_iconst (pc := 160) (v := 0) (by decide) dX2_leave_160 ?_
            have z38 : (0 : Int32).toInt = 0 := (ti_c (v := 0) (a := 0) (by decide))
            exact go_lv rfl (ih.2.2.2.2.2.2.2.1 l1 0 hx hvx (by omega) (by omega) fxx (by omega))
          ·
            refine go_iconst (pc := 156) (v := 1) (by decide) dX2_leave_156 ?_
            refine go_goto (pc := 157) (tgt := 161) (by decide) dX2_leave_157 ?_
            have z39 : (1 : Int32).toInt = 1 := (ti_c (v := 1) (a := 1) (by decide))
            exact go_lv rfl (ih.2.2.2.2.2.2.2.1 l1 1 hx hvx (by omega) (by omega) fxx (by omega))
      ·
        intro l1 s0 hx hvx s0l s0u fxx hm
        refine gi_put (pc := 161) (lo := -1) (hi := 3) hvx (ti_rfl s0) (fP_X2_31 _) rfl (Nat.le_of_ble_eq_true rfl) rfl rfl (by omega) (by omega) rfl rfl (by decide) (by decide) (by decide) (by decide) dX2_leave_161 (fun h40 hv40 hv40e => ?_)
        have fx40 : FX KAc h h40 := FX.pI fxx hv40e (by unfold KAc; omega)
        refine go_aload_n (pc := 164) rfl dX2_leave_164 ?_
        refine go_iload_n (pc := 165) rfl dX2_leave_165 ?_
        refine gi_put (pc := 166) (lo := -2147483648) (hi := 2147483647) hv40 (ti_rfl l1) (fP_X2_34 _) rfl (Nat.le_of_ble_eq_true rfl) rfl rfl (ti_ge (ti_rfl l1)) (ti_le2 (ti_rfl l1)) rfl rfl (by decide) (by decide) (by decide) (by decide) dX2_leave_166 (fun h41 hv41 hv41e => ?_)
        have fx41 : FX KAc h h41 := FX.pI fx40 hv41e (by unfold KAc; omega)
        exact go_lv rfl (ih.2.2.2.2.2.2.2.2  h41 hv41 fx41 (by omega))
      ·
        intro hx hvx fxx hm
        exact gi_vret (pc := 169) ⟨rfl, hvx, fxx⟩ hvx dX2_leave_169
  refine go_iconst (pc := 0) (v := 0) (by decide) dX2_leave_0 ?_
  refine go_istore_n (pc := 1) (Nat.le_of_ble_eq_true rfl) dX2_leave_1 (go_lv (lv2 := [(0, .ref 64), (1, .int a2), (2, .int a3), (3, .int 0)]) rfl ?_)
  refine go_iconst (pc := 2) (v := 0) (by decide) dX2_leave_2 ?_
  refine go_istore (pc := 3) (Nat.le_of_ble_eq_true rfl) dX2_leave_3 (go_lv (lv2 := [(0, .ref 64), (1, .int a2), (2, .int a3), (3, .int 0), (4, .int 0)]) rfl ?_)
  have z42 : (0 : Int32).toInt = 0 := (ti_c (v := 0) (a := 0) (by decide))
  have z43 : (0 : Int32).toInt = 0 := (ti_c (v := 0) (a := 0) (by decide))
  exact go_lv rfl ((key 280).1 a2 a3 0 0 h hv (by omega) (by omega) (by omega) (by omega) (by omega) (by omega) fx (by omega))
set_option maxHeartbeats 4000000 in
set_option maxRecDepth 100000 in
theorem s_X2_raise_f (l : Launch) (d : Nat) {P : PP} {h : HP} (hv : Iv P h) (a2 : Int32) (a2l : 0 ≤ a2.toInt) (a2u : a2.toInt ≤ 39) (a3 : Int32) : Mt l yX2_raise cX2_raise 3 none (d + 3) [.ref 64, .int a2, .int a3] h 0 0 (fun r h' => r = none ∧ Iv P h' ∧ (FX KAc h h')) := by
  refine Mt_iv hv (by decide) (Nat.le_of_ble_eq_true rfl) ?_
  show Go l RX2 cX2_raise 3 (g_rm (d + 3) 0 0) "raise" none 117 0 0 (fun _ _ => True) (fun r h' => r = none ∧ Iv P h' ∧ (FX KAc h h')) 0 0 [(0, .ref 64), (1, .int a2), (2, .int a3)] [] h
  have fx : FX KAc h h := FX.rfl
  have key : ∀ n : Nat, (∀  (hx : HP), Iv P hx → FX KAc h hx → (1 : Int) < n → Go l RX2 cX2_raise 3 (g_rm (d + 3) 0 0) "raise" none 117 0 0 (fun _ _ => True) (fun r h' => r = none ∧ Iv P h' ∧ (FX KAc h h')) 0 48 [] [] hx) := by
    intro n
    induction n with
    | zero => exact (by intros; omega)
    | succ n ih =>
      refine ?_
      ·
        intro hx hvx fxx hm
        exact gi_vret (pc := 48) ⟨rfl, hvx, fxx⟩ hvx dX2_raise_48
  refine go_aload_n (pc := 0) rfl dX2_raise_0 ?_
  refine gi_getC (pc := 1) hv fL_X2_50 rfl (Nat.le_of_ble_eq_true rfl) rfl (by decide) dX2_raise_1 (fun c1 hc1 fc1 => ?_)
  refine gi_getF (pc := 4) (q := c1 + 14) hv fL_X2_132 (by rcases hc1 with rfl | rfl <;> rfl) (Nat.le_of_ble_eq_true rfl) rfl (by rcases hc1 with rfl | rfl <;> exact hv.rf (by decide)) dX2_raise_4 ?_
  refine go_iload_n (pc := 7) rfl dX2_raise_7 ?_
  refine gi_iald (pc := 8) (lo := -1) (hi := 5) (len := 40) hv (ti_rfl a2) (by rcases hc1 with rfl | rfl <;> rfl) (by omega) (by omega) (fun _ => by rcases hc1 with rfl | rfl <;> rfl) dX2_raise_8 (fun v2 v2l v2u v2w => ?_)
  refine gf_if_lt (pc := 9) (tgt := 42) (ti_rfl v2) (by decide) dX2_raise_9 (fun q3 => ?_) (fun q3 => ?_)
  ·
    refine go_aload_n (pc := 42) rfl dX2_raise_42 ?_
    refine go_iload_n (pc := 43) rfl dX2_raise_43 ?_
    refine go_iconst (pc := 44) (v := 1) (by decide) dX2_raise_44 ?_
    refine go_invV (pc := 45) (sl := 0) (s_X2_leave_f l (d + 0) hv a3 1 (by rw [show (1 : Int32).toInt = 1 from (ti_c (v := 1) (a := 1) (by decide))]; omega) (by rw [show (1 : Int32).toInt = 1 from (ti_c (v := 1) (a := 1) (by decide))]; omega)) mL_X2_73 iM_X2_leave sM_X2_leave (hv.sh rfl) rfl rfl rfl (Nat.le_of_ble_eq_true rfl) (show d + 0 + 2 + 1 ≤ d + 3 by omega) (show 8 + (6 + 11) + 40 * (d + 0 + 2) ≤ 40 * (d + 3) by omega) (g_c0 hv.ln) (Nat.le_of_ble_eq_true rfl) dX2_raise_45 ?_
    intro r h4 hq _
    obtain ⟨rfl, hv4, f5⟩ := hq
    try rw [show (1 : Int32).toInt = 1 from (ti_c (v := 1) (a := 1) (by decide))] at f5
    have fx4 : FX KAc h h4 := FX.tr fx f5
    exact go_lv rfl ((key 14)  h4 hv4 fx4 (by omega))
  ·
    refine go_aload_n (pc := 12) rfl dX2_raise_12 ?_
    refine go_aload_n (pc := 13) rfl dX2_raise_13 ?_
    refine gi_getC (pc := 14) hv fL_X2_50 rfl (Nat.le_of_ble_eq_true rfl) rfl (by decide) dX2_raise_14 (fun c6 hc6 fc6 => ?_)
    refine gi_getF (pc := 17) (q := c6 + 14) hv fL_X2_132 (by rcases hc6 with rfl | rfl <;> rfl) (Nat.le_of_ble_eq_true rfl) rfl (by rcases hc6 with rfl | rfl <;> exact hv.rf (by decide)) dX2_raise_17 ?_
    refine go_iload_n (pc := 20) rfl dX2_raise_20 ?_
    refine gi_iald (pc := 21) (lo := -1) (hi := 5) (len := 40) hv (ti_rfl a2) (by rcases hc6 with rfl | rfl <;> rfl) (by omega) (by omega) (fun _ => by rcases hc6 with rfl | rfl <;> rfl) dX2_raise_21 (fun v7 v7l v7u v7w => ?_)
    refine go_iload_n (pc := 22) rfl dX2_raise_22 ?_
    refine go_invV (pc := 23) (sl := 0) (s_X2_store_f l (d + 1) hv v7 (by rw [show (v7 : Int32).toInt = v7.toInt from (ti_rfl v7)]; omega) (by rw [show (v7 : Int32).toInt = v7.toInt from (ti_rfl v7)]; omega) a3) mL_X2_98 iM_X2_store sM_X2_store (hv.sh rfl) rfl rfl rfl (Nat.le_of_ble_eq_true rfl) (show d + 1 + 1 + 1 ≤ d + 3 by omega) (show 8 + (3 + 11) + 40 * (d + 1 + 1) ≤ 40 * (d + 3) by omega) (g_c0 hv.ln) (Nat.le_of_ble_eq_true rfl) dX2_raise_23 ?_
    intro r h8 hq _
    obtain ⟨rfl, hv8, f9⟩ := hq
    have fx8 : FX KAc h h8 := FX.tr fx f9
    refine go_aload_n (pc := 26) rfl dX2_raise_26 ?_
    refine go_aload_n (pc := 27) rfl dX2_raise_27 ?_
    refine gi_getC (pc := 28) hv8 fL_X2_50 rfl (Nat.le_of_ble_eq_true rfl) rfl (by decide) dX2_raise_28 (fun c10 hc10 fc10 => ?_)
    refine gi_getF (pc := 31) (q := c10 + 13) hv8 fL_X2_123 (by rcases hc10 with rfl | rfl <;> rfl) (Nat.le_of_ble_eq_true rfl) rfl (by rcases hc10 with rfl | rfl <;> exact hv8.rf (by decide)) dX2_raise_31 ?_
    refine go_iload_n (pc := 34) rfl dX2_raise_34 ?_
    refine gi_iald (pc := 35) (lo := 0) (hi := 44) (len := 40) hv8 (ti_rfl a2) (by rcases hc10 with rfl | rfl <;> rfl) (by omega) (by omega) (fun _ => by rcases hc10 with rfl | rfl <;> rfl) dX2_raise_35 (fun v11 v11l v11u v11w => ?_)
    refine gi_put (pc := 36) (lo := 0) (hi := 44) hv8 (ti_rfl v11) (fP_X2_25 _) rfl (Nat.le_of_ble_eq_true rfl) rfl rfl (by omega) (by omega) rfl rfl (by decide) (by decide) (by decide) (by decide) dX2_raise_36 (fun h12 hv12 hv12e => ?_)
    have fx12 : FX KAc h h12 := FX.pI fx8 hv12e (by unfold KAc; omega)
    refine go_goto (pc := 39) (tgt := 48) (by decide) dX2_raise_39 ?_
    exact go_lv rfl ((key 14)  h12 hv12 fx12 (by omega))
set_option maxHeartbeats 4000000 in
set_option maxRecDepth 100000 in
theorem s_X2_open_f (l : Launch) (d : Nat) {P : PP} {h : HP} (hv : Iv P h) (a2 : Int32) (a2l : 0 ≤ a2.toInt) (a2u : a2.toInt ≤ 39) (hp : ∀ c, h.2.2.2 64 11 = .ref c → (h.2.1 (c + 2) a2.toInt.toNat).toInt = 1) : Mt l yX2_open cX2_open 4 none (d + 2) [.ref 64, .int a2] h 0 0 (fun r h' => r = none ∧ Iv P h' ∧ (FX KAc h h')) := by
  refine Mt_iv hv (by decide) (Nat.le_of_ble_eq_true rfl) ?_
  show Go l RX2 cX2_open 4 (g_rm (d + 2) 0 0) "open" none 117 0 0 (fun _ _ => True) (fun r h' => r = none ∧ Iv P h' ∧ (FX KAc h h')) 0 0 [(0, .ref 64), (1, .int a2)] [] h
  have fx : FX KAc h h := FX.rfl
  refine go_aload_n (pc := 0) rfl dX2_open_0 ?_
  refine gi_get (pc := 1) (lo := 0) (hi := 30) hv fL_X2_21 rfl (Nat.le_of_ble_eq_true rfl) rfl rfl dX2_open_1 (fun v1 v1l v1u v1w => ?_)
  refine go_iconst (pc := 4) (v := 1) (by decide) dX2_open_4 ?_
  refine gf_iadd (pc := 5) (ti_rfl v1) (ti_c (v := 1) (a := 1) (by decide)) (by omega) (by omega) dX2_open_5 (fun v2 e3 => ?_)
  refine go_bipush (pc := 6) (v := 31) (by decide) dX2_open_6 ?_
  refine gf_icmp_lt (pc := 8) (tgt := 17) e3 (ti_c (v := 31) (a := 31) (by decide)) (by decide) dX2_open_8 (fun q4 => ?_) (fun q4 => ?_)
  ·
    refine go_aload_n (pc := 17) rfl dX2_open_17 ?_
    refine go_aload_n (pc := 18) rfl dX2_open_18 ?_
    refine gi_getC (pc := 19) hv fL_X2_50 rfl (Nat.le_of_ble_eq_true rfl) rfl (by decide) dX2_open_19 (fun c5 hc5 fc5 => ?_)
    refine gi_getF (pc := 22) (q := c5 + 9) hv fL_X2_111 (by rcases hc5 with rfl | rfl <;> rfl) (Nat.le_of_ble_eq_true rfl) rfl (by rcases hc5 with rfl | rfl <;> exact hv.rf (by decide)) dX2_open_22 ?_
    refine go_iload_n (pc := 25) rfl dX2_open_25 ?_
    refine gi_iald (pc := 26) (lo := -2147483648) (hi := 2147483647) (len := 40) hv (ti_rfl a2) (by rcases hc5 with rfl | rfl <;> rfl) (by omega) (by omega) (fun _ => by rcases hc5 with rfl | rfl <;> rfl) dX2_open_26 (fun v6 v6l v6u v6w => ?_)
    refine go_invV (pc := 27) (sl := 0) (s_X2_load l (d + 0) hv v6) mL_X2_114 iM_X2_load sM_X2_load (hv.sh rfl) rfl rfl rfl (Nat.le_of_ble_eq_true rfl) (show d + 0 + 1 + 1 ≤ d + 2 by omega) (show 8 + (2 + 11) + 40 * (d + 0 + 1) ≤ 40 * (d + 2) by omega) (g_c0 hv.ln) (Nat.le_of_ble_eq_true rfl) dX2_open_27 ?_
    intro r h7 hq _
    obtain ⟨v8, rfl, v8l, v8u, rfl⟩ := hq
    refine go_istore_n (pc := 30) (Nat.le_of_ble_eq_true rfl) dX2_open_30 (go_lv (lv2 := [(0, .ref 64), (1, .int a2), (2, .int v8)]) rfl ?_)
    refine go_aload_n (pc := 31) rfl dX2_open_31 ?_
    refine go_aload_n (pc := 32) rfl dX2_open_32 ?_
    refine gi_getC (pc := 33) hv fL_X2_50 rfl (Nat.le_of_ble_eq_true rfl) rfl (by decide) dX2_open_33 (fun c9 hc9 fc9 => ?_)
    refine gi_getF (pc := 36) (q := c9 + 10) hv fL_X2_120 (by rcases hc9 with rfl | rfl <;> rfl) (Nat.le_of_ble_eq_true rfl) rfl (by rcases hc9 with rfl | rfl <;> exact hv.rf (by decide)) dX2_open_36 ?_
    refine go_iload_n (pc := 39) rfl dX2_open_39 ?_
    refine gi_iald (pc := 40) (lo := -2147483648) (hi := 2147483647) (len := 40) hv (ti_rfl a2) (by rcases hc9 with rfl | rfl <;> rfl) (by omega) (by omega) (fun _ => by rcases hc9 with rfl | rfl <;> rfl) dX2_open_40 (fun v10 v10l v10u v10w => ?_)
    refine go_invV (pc := 41) (sl := 0) (s_X2_load l (d + 0) hv v10) mL_X2_114 iM_X2_load sM_X2_load (hv.sh rfl) rfl rfl rfl (Nat.le_of_ble_eq_true rfl) (show d + 0 + 1 + 1 ≤ d + 2 by omega) (show 8 + (2 + 11) + 40 * (d + 0 + 1) ≤ 40 * (d + 2) by omega) (g_c0 hv.ln) (Nat.le_of_ble_eq_true rfl) dX2_open_41 ?_
    intro r h11 hq _
    obtain ⟨v12, rfl, v12l, v12u, rfl⟩ := hq
    refine go_istore_n (pc := 44) (Nat.le_of_ble_eq_true rfl) dX2_open_44 (go_lv (lv2 := [(0, .ref 64), (1, .int a2), (2, .int v8), (3, .int v12)]) rfl ?_)
    refine go_aload_n (pc := 45) rfl dX2_open_45 ?_
    refine go_dup (pc := 46) rfl dX2_open_46 ?_
    refine gi_get (pc := 47) (lo := 0) (hi := 30) hv fL_X2_21 rfl (Nat.le_of_ble_eq_true rfl) rfl rfl dX2_open_47 (fun v13 v13l v13u v13w => ?_)
    have v13r : v1 = h.2.1 64 3 := v1w
    have v13q : TI v13 v1.toInt := by rw [v13w.trans v13r.symm]; exact (ti_rfl v1)
    refine go_iconst (pc := 50) (v := 1) (by decide) dX2_open_50 ?_
    refine gf_iadd (pc := 51) v13q (ti_c (v := 1) (a := 1) (by decide)) (by omega) (by omega) dX2_open_51 (fun v14 e15 => ?_)
    refine gi_put (pc := 52) (lo := 0) (hi := 30) hv e15 (fP_X2_21 _) rfl (Nat.le_of_ble_eq_true rfl) rfl rfl (by omega) (by omega) rfl rfl (by decide) (by decide) (by decide) (by decide) dX2_open_52 (fun h16 hv16 hv16e => ?_)
    have fx16 : FX KAc h h16 := FX.pI fx hv16e (by unfold KAc; omega)
    refine go_aload_n (pc := 55) rfl dX2_open_55 ?_
    refine gi_getF (pc := 56) (q := 67) hv16 fL_X2_18 rfl (Nat.le_of_ble_eq_true rfl) rfl (hv16.rf (by decide)) dX2_open_56 ?_
    refine go_aload_n (pc := 59) rfl dX2_open_59 ?_
    refine gi_get (pc := 60) (lo := 0) (hi := 30) hv16 fL_X2_21 rfl (Nat.le_of_ble_eq_true rfl) rfl rfl dX2_open_60 (fun v17 v17l v17u v17w => ?_)
    have v17r : v14 = h16.2.1 64 3 := (show v14 = h16.2.1 64 3 from by rw [hv16e]; exact g_iS.symm)
    have v17q : TI v17 ((v1.toInt + 1)) := by rw [v17w.trans v17r.symm]; exact e15
    refine go_iload_n (pc := 63) rfl dX2_open_63 ?_
    refine gi_iast (pc := 64) (lo := 0) (hi := 39) (len := 31) hv16 v17q (ti_rfl a2) rfl (by omega) (by omega) (fun _ => rfl) (by omega) (by omega) (by decide) dX2_open_64 (fun h18 hv18 hv18e => ?_)
    have fx18 : FX KAc h h18 := FX.pI fx16 hv18e (by unfold KAc; omega)
    refine go_aload_n (pc := 65) rfl dX2_open_65 ?_
    refine go_aload_n (pc := 66) rfl dX2_open_66 ?_
    refine gi_getC (pc := 67) hv18 fL_X2_50 rfl (Nat.le_of_ble_eq_true rfl) rfl (by decide) dX2_open_67 (fun c19 hc19 fc19 => ?_)
    refine gi_getF (pc := 70) (q := c19 + 7) hv18 fL_X2_129 (by rcases hc19 with rfl | rfl <;> rfl) (Nat.le_of_ble_eq_true rfl) rfl (by rcases hc19 with rfl | rfl <;> exact hv18.rf (by decide)) dX2_open_70 ?_
    refine go_iload_n (pc := 73) rfl dX2_open_73 ?_
    refine gi_iald (pc := 74) (lo := -2) (hi := 4) (len := 40) hv18 (ti_rfl a2) (by rcases hc19 with rfl | rfl <;> rfl) (by omega) (by omega) (fun _ => by rcases hc19 with rfl | rfl <;> rfl) dX2_open_74 (fun v20 v20l v20u v20w => ?_)
    refine go_iload_n (pc := 75) rfl dX2_open_75 ?_
    refine go_iload_n (pc := 76) rfl dX2_open_76 ?_
    have kk : 0 ≤ v20.toInt := by
      rw [v20w]
      refine hv18.2.2.2.2.2.1 c19 hc19 _ ?_
      have e1 : (h18.2.1 (c19 + 2) a2.toInt.toNat) = h.2.1 (c19 + 2) a2.toInt.toNat := by rw [hv18e, hv16e]; rcases hc19 with rfl | rfl <;> rfl
      rw [e1]
      exact hp c19 (by rw [← fc19, hv18e, hv16e]; rfl)
    refine go_invV (pc := 77) (sl := 0) (s_X2_enter_f l (d + 0) hv18 v20 (by rw [show (v20 : Int32).toInt = v20.toInt from (ti_rfl v20)]; omega) (by rw [show (v20 : Int32).toInt = v20.toInt from (ti_rfl v20)]; omega) v8 v12) mL_X2_60 iM_X2_enter sM_X2_enter (hv18.sh rfl) rfl rfl rfl (Nat.le_of_ble_eq_true rfl) (show d + 0 + 1 + 1 ≤ d + 2 by omega) (show 8 + (6 + 11) + 40 * (d + 0 + 1) ≤ 40 * (d + 2) by omega) (g_c0 hv18.ln) (Nat.le_of_ble_eq_true rfl) dX2_open_77 ?_
    intro r h21 hq _
    obtain ⟨rfl, hv21, f22⟩ := hq
    have fx21 : FX KAc h h21 := FX.tr fx18 f22
    exact gi_vret (pc := 80) ⟨rfl, hv21, fx21⟩ hv21 dX2_open_80
  ·
    refine go_aload_n (pc := 11) rfl dX2_open_11 ?_
    refine go_iconst (pc := 12) (v := 2) (by decide) dX2_open_12 ?_
    refine gi_put (pc := 13) (lo := -1) (hi := 3) hv (ti_c (v := 2) (a := 2) (by decide)) (fP_X2_31 _) rfl (Nat.le_of_ble_eq_true rfl) rfl rfl (by omega) (by omega) rfl rfl (by decide) (by decide) (by decide) (by decide) dX2_open_13 (fun h23 hv23 hv23e => ?_)
    have fx23 : FX KAc h h23 := FX.pI fx hv23e (by unfold KAc; omega)
    exact gi_vret (pc := 16) ⟨rfl, hv23, fx23⟩ hv23 dX2_open_16
set_option maxHeartbeats 4000000 in
set_option maxRecDepth 100000 in
theorem s_X2_perform_f (l : Launch) (d : Nat) {P : PP} {h : HP} (hv : Iv P h) (a2 : Int32) (a2l : 0 ≤ a2.toInt) (a2u : a2.toInt ≤ 39) : Mt l yX2_perform cX2_perform 4 none (d + 4) [.ref 64, .int a2] h 0 0 (fun r h' => r = none ∧ Iv P h' ∧ (FX KAc h h')) := by
  refine Mt_iv hv (by decide) (Nat.le_of_ble_eq_true rfl) ?_
  show Go l RX2 cX2_perform 4 (g_rm (d + 4) 0 0) "perform" none 117 0 0 (fun _ _ => True) (fun r h' => r = none ∧ Iv P h' ∧ (FX KAc h h')) 0 0 [(0, .ref 64), (1, .int a2)] [] h
  have fx : FX KAc h h := FX.rfl
  have key : ∀ n : Nat, (∀ (l1 : Int32) (s0 : Int32) (hx : HP), Iv P hx → 0 ≤ l1.toInt → l1.toInt ≤ 39 → 0 ≤ s0.toInt → s0.toInt ≤ 1 → FX KAc h hx → (4 : Int) < n → Go l RX2 cX2_perform 4 (g_rm (d + 4) 0 0) "perform" none 117 0 0 (fun _ _ => True) (fun r h' => r = none ∧ Iv P h' ∧ (FX KAc h h')) 0 210 [(0, .ref 64), (1, .int l1)] [.int s0] hx) ∧ (∀ (l1 : Int32) (l3 : Int32) (s0 : Int32) (s1 : Int32) (hx : HP), Iv P hx → 0 ≤ l1.toInt → l1.toInt ≤ 39 → 0 ≤ l3.toInt → l3.toInt ≤ 1 → 0 ≤ s0.toInt → s0.toInt ≤ 1 → 0 ≤ s1.toInt → s1.toInt ≤ 39 → FX KAc h hx → (3 : Int) < n → Go l RX2 cX2_perform 4 (g_rm (d + 4) 0 0) "perform" none 117 0 0 (fun _ _ => True) (fun r h' => r = none ∧ Iv P h' ∧ (FX KAc h h')) 0 222 [(0, .ref 64), (1, .int l1), (3, .int l3)] [.int s0, .int s1, .ref 64] hx) ∧ (∀ (s0 : Int32) (hx : HP), Iv P hx → 0 ≤ s0.toInt → s0.toInt ≤ 44 → FX KAc h hx → (2 : Int) < n → Go l RX2 cX2_perform 4 (g_rm (d + 4) 0 0) "perform" none 117 0 0 (fun _ _ => True) (fun r h' => r = none ∧ Iv P h' ∧ (FX KAc h h')) 0 251 [] [.int s0, .ref 64] hx) ∧ (∀  (hx : HP), Iv P hx → FX KAc h hx → (1 : Int) < n → Go l RX2 cX2_perform 4 (g_rm (d + 4) 0 0) "perform" none 117 0 0 (fun _ _ => True) (fun r h' => r = none ∧ Iv P h' ∧ (FX KAc h h')) 0 254 [] [] hx) := by
    intro n
    induction n with
    | zero => exact ⟨(by intros; omega), (by intros; omega), (by intros; omega), (by intros; omega)⟩
    | succ n ih =>
      refine ⟨?_, ?_, ?_, ?_⟩
      ·
        intro l1 s0 hx hvx l1l l1u s0l s0u fxx hm
        refine go_istore_n (pc := 210) (Nat.le_of_ble_eq_true rfl) dX2_perform_210 (go_lv (lv2 := [(0, .ref 64), (1, .int l1), (3, .int s0)]) rfl ?_)
        refine go_aload_n (pc := 211) rfl dX2_perform_211 ?_
        refine go_iload_n (pc := 212) rfl dX2_perform_212 ?_
        refine go_iload_n (pc := 213) rfl dX2_perform_213 ?_
        refine gf_if_eq (pc := 214) (tgt := 221) (ti_rfl s0) (by decide) dX2_perform_214 (fun q1 => ?_) (fun q1 => ?_)
        ·
          refine go_iconst (pc := 221) (v := 0) (by decide) dX2_perform_221 ?_
          have z2 : (0 : Int32).toInt = 0 := (ti_c (v := 0) (a := 0) (by decide))
          exact go_lv rfl (ih.2.1 l1 s0 0 l1 hx hvx (by omega) (by omega) (by omega) (by omega) (by omega) (by omega) (by omega) (by omega) fxx (by omega))
        ·
          refine go_iconst (pc := 217) (v := 1) (by decide) dX2_perform_217 ?_
          refine go_goto (pc := 218) (tgt := 222) (by decide) dX2_perform_218 ?_
          have z3 : (1 : Int32).toInt = 1 := (ti_c (v := 1) (a := 1) (by decide))
          exact go_lv rfl (ih.2.1 l1 s0 1 l1 hx hvx (by omega) (by omega) (by omega) (by omega) (by omega) (by omega) (by omega) (by omega) fxx (by omega))
      ·
        intro l1 l3 s0 s1 hx hvx l1l l1u l3l l3u s0l s0u s1l s1u fxx hm
        refine go_invV (pc := 222) (sl := 0) (s_X2_see_f l (d + 2) hvx s1 s0) mL_X2_102 iM_X2_see sM_X2_see (hvx.sh rfl) rfl rfl rfl (Nat.le_of_ble_eq_true rfl) (show d + 2 + 1 + 1 ≤ d + 4 by omega) (show 8 + (3 + 11) + 40 * (d + 2 + 1) ≤ 40 * (d + 4) by omega) (g_c0 hvx.ln) (Nat.le_of_ble_eq_true rfl) dX2_perform_222 ?_
        intro r h4 hq _
        obtain ⟨rfl, hv4, f5⟩ := hq
        have fx4 : FX KAc h h4 := FX.tr fxx f5
        refine go_aload_n (pc := 225) rfl dX2_perform_225 ?_
        refine go_iload_n (pc := 226) rfl dX2_perform_226 ?_
        refine gf_if_eq (pc := 227) (tgt := 242) (ti_rfl l3) (by decide) dX2_perform_227 (fun q6 => ?_) (fun q6 => ?_)
        ·
          refine go_aload_n (pc := 242) rfl dX2_perform_242 ?_
          refine gi_getC (pc := 243) hv4 fL_X2_50 rfl (Nat.le_of_ble_eq_true rfl) rfl (by decide) dX2_perform_243 (fun c7 hc7 fc7 => ?_)
          refine gi_getF (pc := 246) (q := c7 + 12) hv4 fL_X2_105 (by rcases hc7 with rfl | rfl <;> rfl) (Nat.le_of_ble_eq_true rfl) rfl (by rcases hc7 with rfl | rfl <;> exact hv4.rf (by decide)) dX2_perform_246 ?_
          refine go_iload_n (pc := 249) rfl dX2_perform_249 ?_
          refine gi_iald (pc := 250) (lo := 0) (hi := 44) (len := 40) hv4 (ti_rfl l1) (by rcases hc7 with rfl | rfl <;> rfl) (by omega) (by omega) (fun _ => by rcases hc7 with rfl | rfl <;> rfl) dX2_perform_250 (fun v8 v8l v8u v8w => ?_)
          exact go_lv rfl (ih.2.2.1 v8 h4 hv4 (by omega) (by omega) fx4 (by omega))
        ·
          refine go_aload_n (pc := 230) rfl dX2_perform_230 ?_
          refine gi_getC (pc := 231) hv4 fL_X2_50 rfl (Nat.le_of_ble_eq_true rfl) rfl (by decide) dX2_perform_231 (fun c9 hc9 fc9 => ?_)
          refine gi_getF (pc := 234) (q := c9 + 13) hv4 fL_X2_123 (by rcases hc9 with rfl | rfl <;> rfl) (Nat.le_of_ble_eq_true rfl) rfl (by rcases hc9 with rfl | rfl <;> exact hv4.rf (by decide)) dX2_perform_234 ?_
          refine go_iload_n (pc := 237) rfl dX2_perform_237 ?_
          refine gi_iald (pc := 238) (lo := 0) (hi := 44) (len := 40) hv4 (ti_rfl l1) (by rcases hc9 with rfl | rfl <;> rfl) (by omega) (by omega) (fun _ => by rcases hc9 with rfl | rfl <;> rfl) dX2_perform_238 (fun v10 v10l v10u v10w => ?_)
          refine go_goto (pc := 239) (tgt := 251) (by decide) dX2_perform_239 ?_
          exact go_lv rfl (ih.2.2.1 v10 h4 hv4 (by omega) (by omega) fx4 (by omega))
      ·
        intro s0 hx hvx s0l s0u fxx hm
        refine gi_put (pc := 251) (lo := 0) (hi := 44) hvx (ti_rfl s0) (fP_X2_25 _) rfl (Nat.le_of_ble_eq_true rfl) rfl rfl (by omega) (by omega) rfl rfl (by decide) (by decide) (by decide) (by decide) dX2_perform_251 (fun h11 hv11 hv11e => ?_)
        have fx11 : FX KAc h h11 := FX.pI fxx hv11e (by unfold KAc; omega)
        exact go_lv rfl (ih.2.2.2  h11 hv11 fx11 (by omega))
      ·
        intro hx hvx fxx hm
        exact gi_vret (pc := 254) ⟨rfl, hvx, fxx⟩ hvx dX2_perform_254
  refine go_aload_n (pc := 0) rfl dX2_perform_0 ?_
  refine gi_getC (pc := 1) hv fL_X2_50 rfl (Nat.le_of_ble_eq_true rfl) rfl (by decide) dX2_perform_1 (fun c12 hc12 fc12 => ?_)
  refine gi_getF (pc := 4) (q := c12 + 2) hv fL_X2_88 (by rcases hc12 with rfl | rfl <;> rfl) (Nat.le_of_ble_eq_true rfl) rfl (by rcases hc12 with rfl | rfl <;> exact hv.rf (by decide)) dX2_perform_4 ?_
  refine go_iload_n (pc := 7) rfl dX2_perform_7 ?_
  refine gi_iald (pc := 8) (lo := 0) (hi := 5) (len := 40) hv (ti_rfl a2) (by rcases hc12 with rfl | rfl <;> rfl) (by omega) (by omega) (fun _ => by rcases hc12 with rfl | rfl <;> rfl) dX2_perform_8 (fun v13 v13l v13u v13w => ?_)
  by_cases q14 : v13.toInt = 0
  ·
    refine go_tableIn (pc := 9) (tgt := 48) (off := 39) (by rw [show (v13 : Int32).toInt = v13.toInt from (ti_rfl v13)]; omega) (by rw [show (v13 : Int32).toInt = v13.toInt from (ti_rfl v13)]; omega) (by rw [show (v13 : Int32).toInt = v13.toInt from (ti_rfl v13), q14]; rfl) (by decide) dX2_perform_9 ?_
    refine go_aload_n (pc := 48) rfl dX2_perform_48 ?_
    refine go_iload_n (pc := 49) rfl dX2_perform_49 ?_
    refine go_invV (pc := 50) (sl := 0) (s_X2_compute l (d + 1) hv a2 (by rw [show (a2 : Int32).toInt = a2.toInt from (ti_rfl a2)]; omega) (by rw [show (a2 : Int32).toInt = a2.toInt from (ti_rfl a2)]; omega)) mL_X2_91 iM_X2_compute sM_X2_compute (hv.sh rfl) rfl rfl rfl (Nat.le_of_ble_eq_true rfl) (show d + 1 + 2 + 1 ≤ d + 4 by omega) (show 8 + (4 + 11) + 40 * (d + 1 + 2) ≤ 40 * (d + 4) by omega) (g_c0 hv.ln) (Nat.le_of_ble_eq_true rfl) dX2_perform_50 ?_
    intro r h15 hq _
    obtain ⟨v16, rfl, v16l, v16u, rfl⟩ := hq
    refine go_istore_n (pc := 53) (Nat.le_of_ble_eq_true rfl) dX2_perform_53 (go_lv (lv2 := [(0, .ref 64), (1, .int a2), (2, .int v16)]) rfl ?_)
    refine go_aload_n (pc := 54) rfl dX2_perform_54 ?_
    refine go_aload_n (pc := 55) rfl dX2_perform_55 ?_
    refine gi_getC (pc := 56) hv fL_X2_50 rfl (Nat.le_of_ble_eq_true rfl) rfl (by decide) dX2_perform_56 (fun c17 hc17 fc17 => ?_)
    refine gi_getF (pc := 59) (q := c17 + 6) hv fL_X2_95 (by rcases hc17 with rfl | rfl <;> rfl) (Nat.le_of_ble_eq_true rfl) rfl (by rcases hc17 with rfl | rfl <;> exact hv.rf (by decide)) dX2_perform_59 ?_
    refine go_iload_n (pc := 62) rfl dX2_perform_62 ?_
    refine gi_iald (pc := 63) (lo := -1) (hi := 9) (len := 40) hv (ti_rfl a2) (by rcases hc17 with rfl | rfl <;> rfl) (by omega) (by omega) (fun _ => by rcases hc17 with rfl | rfl <;> rfl) dX2_perform_63 (fun v18 v18l v18u v18w => ?_)
    refine go_iload_n (pc := 64) rfl dX2_perform_64 ?_
    refine go_invV (pc := 65) (sl := 0) (s_X2_store_f l (d + 2) hv v18 (by rw [show (v18 : Int32).toInt = v18.toInt from (ti_rfl v18)]; omega) (by rw [show (v18 : Int32).toInt = v18.toInt from (ti_rfl v18)]; omega) v16) mL_X2_98 iM_X2_store sM_X2_store (hv.sh rfl) rfl rfl rfl (Nat.le_of_ble_eq_true rfl) (show d + 2 + 1 + 1 ≤ d + 4 by omega) (show 8 + (3 + 11) + 40 * (d + 2 + 1) ≤ 40 * (d + 4) by omega) (g_c0 hv.ln) (Nat.le_of_ble_eq_true rfl) dX2_perform_65 ?_
    intro r h19 hq _
    obtain ⟨rfl, hv19, f20⟩ := hq
    have fx19 : FX KAc h h19 := FX.tr fx f20
    refine go_aload_n (pc := 68) rfl dX2_perform_68 ?_
    refine go_iload_n (pc := 69) rfl dX2_perform_69 ?_
    refine go_iload_n (pc := 70) rfl dX2_perform_70 ?_
    refine go_invV (pc := 71) (sl := 0) (s_X2_see_f l (d + 2) hv19 a2 v16) mL_X2_102 iM_X2_see sM_X2_see (hv19.sh rfl) rfl rfl rfl (Nat.le_of_ble_eq_true rfl) (show d + 2 + 1 + 1 ≤ d + 4 by omega) (show 8 + (3 + 11) + 40 * (d + 2 + 1) ≤ 40 * (d + 4) by omega) (g_c0 hv19.ln) (Nat.le_of_ble_eq_true rfl) dX2_perform_71 ?_
    intro r h21 hq _
    obtain ⟨rfl, hv21, f22⟩ := hq
    have fx21 : FX KAc h h21 := FX.tr fx19 f22
    refine go_aload_n (pc := 74) rfl dX2_perform_74 ?_
    refine go_aload_n (pc := 75) rfl dX2_perform_75 ?_
    refine gi_getC (pc := 76) hv21 fL_X2_50 rfl (Nat.le_of_ble_eq_true rfl) rfl (by decide) dX2_perform_76 (fun c23 hc23 fc23 => ?_)
    refine gi_getF (pc := 79) (q := c23 + 12) hv21 fL_X2_105 (by rcases hc23 with rfl | rfl <;> rfl) (Nat.le_of_ble_eq_true rfl) rfl (by rcases hc23 with rfl | rfl <;> exact hv21.rf (by decide)) dX2_perform_79 ?_
    refine go_iload_n (pc := 82) rfl dX2_perform_82 ?_
    refine gi_iald (pc := 83) (lo := 0) (hi := 44) (len := 40) hv21 (ti_rfl a2) (by rcases hc23 with rfl | rfl <;> rfl) (by omega) (by omega) (fun _ => by rcases hc23 with rfl | rfl <;> rfl) dX2_perform_83 (fun v24 v24l v24u v24w => ?_)
    refine gi_put (pc := 84) (lo := 0) (hi := 44) hv21 (ti_rfl v24) (fP_X2_25 _) rfl (Nat.le_of_ble_eq_true rfl) rfl rfl (by omega) (by omega) rfl rfl (by decide) (by decide) (by decide) (by decide) dX2_perform_84 (fun h25 hv25 hv25e => ?_)
    have fx25 : FX KAc h h25 := FX.pI fx21 hv25e (by unfold KAc; omega)
    refine go_goto (pc := 87) (tgt := 254) (by decide) dX2_perform_87 ?_
    exact go_lv rfl ((key 17).2.2.2  h25 hv25 fx25 (by omega))
  by_cases q26 : v13.toInt = 1
  ·
    refine go_tableIn (pc := 9) (tgt := 90) (off := 81) (by rw [show (v13 : Int32).toInt = v13.toInt from (ti_rfl v13)]; omega) (by rw [show (v13 : Int32).toInt = v13.toInt from (ti_rfl v13)]; omega) (by rw [show (v13 : Int32).toInt = v13.toInt from (ti_rfl v13), q26]; rfl) (by decide) dX2_perform_9 ?_
    refine go_aload_n (pc := 90) rfl dX2_perform_90 ?_
    refine go_iload_n (pc := 91) rfl dX2_perform_91 ?_
    refine go_invV (pc := 92) (sl := 0) (s_X2_open_f l (d + 1) hv a2 (by rw [show (a2 : Int32).toInt = a2.toInt from (ti_rfl a2)]; omega) (by rw [show (a2 : Int32).toInt = a2.toInt from (ti_rfl a2)]; omega) (fun c2 hc2 => by have e := fc12.symm.trans hc2; cases e; rw [← v13w]; exact q26)) mL_X2_108 iM_X2_open sM_X2_open (hv.sh rfl) rfl rfl rfl (Nat.le_of_ble_eq_true rfl) (show d + 1 + 2 + 1 ≤ d + 4 by omega) (show 8 + (4 + 11) + 40 * (d + 1 + 2) ≤ 40 * (d + 4) by omega) (g_c0 hv.ln) (Nat.le_of_ble_eq_true rfl) dX2_perform_92 ?_
    intro r h27 hq _
    obtain ⟨rfl, hv27, f28⟩ := hq
    have fx27 : FX KAc h h27 := FX.tr fx f28
    refine go_goto (pc := 95) (tgt := 254) (by decide) dX2_perform_95 ?_
    exact go_lv rfl ((key 17).2.2.2  h27 hv27 fx27 (by omega))
  by_cases q29 : v13.toInt = 2
  ·
    refine go_tableIn (pc := 9) (tgt := 176) (off := 167) (by rw [show (v13 : Int32).toInt = v13.toInt from (ti_rfl v13)]; omega) (by rw [show (v13 : Int32).toInt = v13.toInt from (ti_rfl v13)]; omega) (by rw [show (v13 : Int32).toInt = v13.toInt from (ti_rfl v13), q29]; rfl) (by decide) dX2_perform_9 ?_
    refine go_aload_n (pc := 176) rfl dX2_perform_176 ?_
    refine go_aload_n (pc := 177) rfl dX2_perform_177 ?_
    refine gi_getC (pc := 178) hv fL_X2_50 rfl (Nat.le_of_ble_eq_true rfl) rfl (by decide) dX2_perform_178 (fun c30 hc30 fc30 => ?_)
    refine gi_getF (pc := 181) (q := c30 + 9) hv fL_X2_111 (by rcases hc30 with rfl | rfl <;> rfl) (Nat.le_of_ble_eq_true rfl) rfl (by rcases hc30 with rfl | rfl <;> exact hv.rf (by decide)) dX2_perform_181 ?_
    refine go_iload_n (pc := 184) rfl dX2_perform_184 ?_
    refine gi_iald (pc := 185) (lo := -2147483648) (hi := 2147483647) (len := 40) hv (ti_rfl a2) (by rcases hc30 with rfl | rfl <;> rfl) (by omega) (by omega) (fun _ => by rcases hc30 with rfl | rfl <;> rfl) dX2_perform_185 (fun v31 v31l v31u v31w => ?_)
    refine go_invV (pc := 186) (sl := 0) (s_X2_load l (d + 2) hv v31) mL_X2_114 iM_X2_load sM_X2_load (hv.sh rfl) rfl rfl rfl (Nat.le_of_ble_eq_true rfl) (show d + 2 + 1 + 1 ≤ d + 4 by omega) (show 8 + (2 + 11) + 40 * (d + 2 + 1) ≤ 40 * (d + 4) by omega) (g_c0 hv.ln) (Nat.le_of_ble_eq_true rfl) dX2_perform_186 ?_
    intro r h32 hq _
    obtain ⟨v33, rfl, v33l, v33u, rfl⟩ := hq
    refine go_aload_n (pc := 189) rfl dX2_perform_189 ?_
    refine go_aload_n (pc := 190) rfl dX2_perform_190 ?_
    refine gi_getC (pc := 191) hv fL_X2_50 rfl (Nat.le_of_ble_eq_true rfl) rfl (by decide) dX2_perform_191 (fun c34 hc34 fc34 => ?_)
    refine gi_getF (pc := 194) (q := c34 + 10) hv fL_X2_120 (by rcases hc34 with rfl | rfl <;> rfl) (Nat.le_of_ble_eq_true rfl) rfl (by rcases hc34 with rfl | rfl <;> exact hv.rf (by decide)) dX2_perform_194 ?_
    refine go_iload_n (pc := 197) rfl dX2_perform_197 ?_
    refine gi_iald (pc := 198) (lo := -2147483648) (hi := 2147483647) (len := 40) hv (ti_rfl a2) (by rcases hc34 with rfl | rfl <;> rfl) (by omega) (by omega) (fun _ => by rcases hc34 with rfl | rfl <;> rfl) dX2_perform_198 (fun v35 v35l v35u v35w => ?_)
    refine go_invV (pc := 199) (sl := 0) (s_X2_load l (d + 2) hv v35) mL_X2_114 iM_X2_load sM_X2_load (hv.sh rfl) rfl rfl rfl (Nat.le_of_ble_eq_true rfl) (show d + 2 + 1 + 1 ≤ d + 4 by omega) (show 8 + (2 + 11) + 40 * (d + 2 + 1) ≤ 40 * (d + 4) by omega) (g_c0 hv.ln) (Nat.le_of_ble_eq_true rfl) dX2_perform_199 ?_
    intro r h36 hq _
    obtain ⟨v37, rfl, v37l, v37u, rfl⟩ := hq
    refine gf_icmp_ge (pc := 202) (tgt := 209) (ti_rfl v33) (ti_rfl v37) (by decide) dX2_perform_202 (fun q38 => ?_) (fun q38 => ?_)
    ·
      refine go_iconst (pc := 209) (v := 0) (by decide) dX2_perform_209 ?_
      have z39 : (0 : Int32).toInt = 0 := (ti_c (v := 0) (a := 0) (by decide))
      exact go_lv rfl ((key 17).1 a2 0 h hv (by omega) (by omega) (by omega) (by omega) fx (by omega))
    ·
      refine go_iconst (pc := 205) (v := 1) (by decide) dX2_perform_205 ?_
      refine go_goto (pc := 206) (tgt := 210) (by decide) dX2_perform_206 ?_
      have z40 : (1 : Int32).toInt = 1 := (ti_c (v := 1) (a := 1) (by decide))
      exact go_lv rfl ((key 17).1 a2 1 h hv (by omega) (by omega) (by omega) (by omega) fx (by omega))
  by_cases q41 : v13.toInt = 3
  ·
    refine go_tableIn (pc := 9) (tgt := 176) (off := 167) (by rw [show (v13 : Int32).toInt = v13.toInt from (ti_rfl v13)]; omega) (by rw [show (v13 : Int32).toInt = v13.toInt from (ti_rfl v13)]; omega) (by rw [show (v13 : Int32).toInt = v13.toInt from (ti_rfl v13), q41]; rfl) (by decide) dX2_perform_9 ?_
    refine go_aload_n (pc := 176) rfl dX2_perform_176 ?_
    refine go_aload_n (pc := 177) rfl dX2_perform_177 ?_
    refine gi_getC (pc := 178) hv fL_X2_50 rfl (Nat.le_of_ble_eq_true rfl) rfl (by decide) dX2_perform_178 (fun c42 hc42 fc42 => ?_)
    refine gi_getF (pc := 181) (q := c42 + 9) hv fL_X2_111 (by rcases hc42 with rfl | rfl <;> rfl) (Nat.le_of_ble_eq_true rfl) rfl (by rcases hc42 with rfl | rfl <;> exact hv.rf (by decide)) dX2_perform_181 ?_
    refine go_iload_n (pc := 184) rfl dX2_perform_184 ?_
    refine gi_iald (pc := 185) (lo := -2147483648) (hi := 2147483647) (len := 40) hv (ti_rfl a2) (by rcases hc42 with rfl | rfl <;> rfl) (by omega) (by omega) (fun _ => by rcases hc42 with rfl | rfl <;> rfl) dX2_perform_185 (fun v43 v43l v43u v43w => ?_)
    refine go_invV (pc := 186) (sl := 0) (s_X2_load l (d + 2) hv v43) mL_X2_114 iM_X2_load sM_X2_load (hv.sh rfl) rfl rfl rfl (Nat.le_of_ble_eq_true rfl) (show d + 2 + 1 + 1 ≤ d + 4 by omega) (show 8 + (2 + 11) + 40 * (d + 2 + 1) ≤ 40 * (d + 4) by omega) (g_c0 hv.ln) (Nat.le_of_ble_eq_true rfl) dX2_perform_186 ?_
    intro r h44 hq _
    obtain ⟨v45, rfl, v45l, v45u, rfl⟩ := hq
    refine go_aload_n (pc := 189) rfl dX2_perform_189 ?_
    refine go_aload_n (pc := 190) rfl dX2_perform_190 ?_
    refine gi_getC (pc := 191) hv fL_X2_50 rfl (Nat.le_of_ble_eq_true rfl) rfl (by decide) dX2_perform_191 (fun c46 hc46 fc46 => ?_)
    refine gi_getF (pc := 194) (q := c46 + 10) hv fL_X2_120 (by rcases hc46 with rfl | rfl <;> rfl) (Nat.le_of_ble_eq_true rfl) rfl (by rcases hc46 with rfl | rfl <;> exact hv.rf (by decide)) dX2_perform_194 ?_
    refine go_iload_n (pc := 197) rfl dX2_perform_197 ?_
    refine gi_iald (pc := 198) (lo := -2147483648) (hi := 2147483647) (len := 40) hv (ti_rfl a2) (by rcases hc46 with rfl | rfl <;> rfl) (by omega) (by omega) (fun _ => by rcases hc46 with rfl | rfl <;> rfl) dX2_perform_198 (fun v47 v47l v47u v47w => ?_)
    refine go_invV (pc := 199) (sl := 0) (s_X2_load l (d + 2) hv v47) mL_X2_114 iM_X2_load sM_X2_load (hv.sh rfl) rfl rfl rfl (Nat.le_of_ble_eq_true rfl) (show d + 2 + 1 + 1 ≤ d + 4 by omega) (show 8 + (2 + 11) + 40 * (d + 2 + 1) ≤ 40 * (d + 4) by omega) (g_c0 hv.ln) (Nat.le_of_ble_eq_true rfl) dX2_perform_199 ?_
    intro r h48 hq _
    obtain ⟨v49, rfl, v49l, v49u, rfl⟩ := hq
    refine gf_icmp_ge (pc := 202) (tgt := 209) (ti_rfl v45) (ti_rfl v49) (by decide) dX2_perform_202 (fun q50 => ?_) (fun q50 => ?_)
    ·
      refine go_iconst (pc := 209) (v := 0) (by decide) dX2_perform_209 ?_
      have z51 : (0 : Int32).toInt = 0 := (ti_c (v := 0) (a := 0) (by decide))
      exact go_lv rfl ((key 17).1 a2 0 h hv (by omega) (by omega) (by omega) (by omega) fx (by omega))
    ·
      refine go_iconst (pc := 205) (v := 1) (by decide) dX2_perform_205 ?_
      refine go_goto (pc := 206) (tgt := 210) (by decide) dX2_perform_206 ?_
      have z52 : (1 : Int32).toInt = 1 := (ti_c (v := 1) (a := 1) (by decide))
      exact go_lv rfl ((key 17).1 a2 1 h hv (by omega) (by omega) (by omega) (by omega) fx (by omega))
  by_cases q53 : v13.toInt = 4
  ·
    refine go_tableIn (pc := 9) (tgt := 98) (off := 89) (by rw [show (v13 : Int32).toInt = v13.toInt from (ti_rfl v13)]; omega) (by rw [show (v13 : Int32).toInt = v13.toInt from (ti_rfl v13)]; omega) (by rw [show (v13 : Int32).toInt = v13.toInt from (ti_rfl v13), q53]; rfl) (by decide) dX2_perform_9 ?_
    refine go_aload_n (pc := 98) rfl dX2_perform_98 ?_
    refine go_iload_n (pc := 99) rfl dX2_perform_99 ?_
    refine go_aload_n (pc := 100) rfl dX2_perform_100 ?_
    refine go_aload_n (pc := 101) rfl dX2_perform_101 ?_
    refine gi_getC (pc := 102) hv fL_X2_50 rfl (Nat.le_of_ble_eq_true rfl) rfl (by decide) dX2_perform_102 (fun c54 hc54 fc54 => ?_)
    refine gi_getF (pc := 105) (q := c54 + 9) hv fL_X2_111 (by rcases hc54 with rfl | rfl <;> rfl) (Nat.le_of_ble_eq_true rfl) rfl (by rcases hc54 with rfl | rfl <;> exact hv.rf (by decide)) dX2_perform_105 ?_
    refine go_iload_n (pc := 108) rfl dX2_perform_108 ?_
    refine gi_iald (pc := 109) (lo := -2147483648) (hi := 2147483647) (len := 40) hv (ti_rfl a2) (by rcases hc54 with rfl | rfl <;> rfl) (by omega) (by omega) (fun _ => by rcases hc54 with rfl | rfl <;> rfl) dX2_perform_109 (fun v55 v55l v55u v55w => ?_)
    refine go_invV (pc := 110) (sl := 0) (s_X2_load l (d + 2) hv v55) mL_X2_114 iM_X2_load sM_X2_load (hv.sh rfl) rfl rfl rfl (Nat.le_of_ble_eq_true rfl) (show d + 2 + 1 + 1 ≤ d + 4 by omega) (show 8 + (2 + 11) + 40 * (d + 2 + 1) ≤ 40 * (d + 4) by omega) (g_c0 hv.ln) (Nat.le_of_ble_eq_true rfl) dX2_perform_110 ?_
    intro r h56 hq _
    obtain ⟨v57, rfl, v57l, v57u, rfl⟩ := hq
    refine go_invV (pc := 113) (sl := 0) (s_X2_see_f l (d + 2) hv a2 v57) mL_X2_102 iM_X2_see sM_X2_see (hv.sh rfl) rfl rfl rfl (Nat.le_of_ble_eq_true rfl) (show d + 2 + 1 + 1 ≤ d + 4 by omega) (show 8 + (3 + 11) + 40 * (d + 2 + 1) ≤ 40 * (d + 4) by omega) (g_c0 hv.ln) (Nat.le_of_ble_eq_true rfl) dX2_perform_113 ?_
    intro r h58 hq _
    obtain ⟨rfl, hv58, f59⟩ := hq
    have fx58 : FX KAc h h58 := FX.tr fx f59
    refine go_aload_n (pc := 116) rfl dX2_perform_116 ?_
    refine go_iload_n (pc := 117) rfl dX2_perform_117 ?_
    refine go_aload_n (pc := 118) rfl dX2_perform_118 ?_
    refine go_aload_n (pc := 119) rfl dX2_perform_119 ?_
    refine gi_getC (pc := 120) hv58 fL_X2_50 rfl (Nat.le_of_ble_eq_true rfl) rfl (by decide) dX2_perform_120 (fun c60 hc60 fc60 => ?_)
    refine gi_getF (pc := 123) (q := c60 + 9) hv58 fL_X2_111 (by rcases hc60 with rfl | rfl <;> rfl) (Nat.le_of_ble_eq_true rfl) rfl (by rcases hc60 with rfl | rfl <;> exact hv58.rf (by decide)) dX2_perform_123 ?_
    refine go_iload_n (pc := 126) rfl dX2_perform_126 ?_
    refine gi_iald (pc := 127) (lo := -2147483648) (hi := 2147483647) (len := 40) hv58 (ti_rfl a2) (by rcases hc60 with rfl | rfl <;> rfl) (by omega) (by omega) (fun _ => by rcases hc60 with rfl | rfl <;> rfl) dX2_perform_127 (fun v61 v61l v61u v61w => ?_)
    refine go_invV (pc := 128) (sl := 0) (s_X2_load l (d + 2) hv58 v61) mL_X2_114 iM_X2_load sM_X2_load (hv58.sh rfl) rfl rfl rfl (Nat.le_of_ble_eq_true rfl) (show d + 2 + 1 + 1 ≤ d + 4 by omega) (show 8 + (2 + 11) + 40 * (d + 2 + 1) ≤ 40 * (d + 4) by omega) (g_c0 hv58.ln) (Nat.le_of_ble_eq_true rfl) dX2_perform_128 ?_
    intro r h62 hq _
    obtain ⟨v63, rfl, v63l, v63u, rfl⟩ := hq
    refine go_invV (pc := 131) (sl := 0) (s_X2_raise_f l (d + 0) hv58 a2 (by rw [show (a2 : Int32).toInt = a2.toInt from (ti_rfl a2)]; omega) (by rw [show (a2 : Int32).toInt = a2.toInt from (ti_rfl a2)]; omega) v63) mL_X2_117 iM_X2_raise sM_X2_raise (hv58.sh rfl) rfl rfl rfl (Nat.le_of_ble_eq_true rfl) (show d + 0 + 3 + 1 ≤ d + 4 by omega) (show 8 + (3 + 11) + 40 * (d + 0 + 3) ≤ 40 * (d + 4) by omega) (g_c0 hv58.ln) (Nat.le_of_ble_eq_true rfl) dX2_perform_131 ?_
    intro r h64 hq _
    obtain ⟨rfl, hv64, f65⟩ := hq
    have fx64 : FX KAc h h64 := FX.tr fx58 f65
    refine go_goto (pc := 134) (tgt := 254) (by decide) dX2_perform_134 ?_
    exact go_lv rfl ((key 17).2.2.2  h64 hv64 fx64 (by omega))
  by_cases q66 : v13.toInt = 5
  ·
    refine go_tableIn (pc := 9) (tgt := 137) (off := 128) (by rw [show (v13 : Int32).toInt = v13.toInt from (ti_rfl v13)]; omega) (by rw [show (v13 : Int32).toInt = v13.toInt from (ti_rfl v13)]; omega) (by rw [show (v13 : Int32).toInt = v13.toInt from (ti_rfl v13), q66]; rfl) (by decide) dX2_perform_9 ?_
    refine go_aload_n (pc := 137) rfl dX2_perform_137 ?_
    refine go_iload_n (pc := 138) rfl dX2_perform_138 ?_
    refine go_aload_n (pc := 139) rfl dX2_perform_139 ?_
    refine go_aload_n (pc := 140) rfl dX2_perform_140 ?_
    refine gi_getC (pc := 141) hv fL_X2_50 rfl (Nat.le_of_ble_eq_true rfl) rfl (by decide) dX2_perform_141 (fun c67 hc67 fc67 => ?_)
    refine gi_getF (pc := 144) (q := c67 + 9) hv fL_X2_111 (by rcases hc67 with rfl | rfl <;> rfl) (Nat.le_of_ble_eq_true rfl) rfl (by rcases hc67 with rfl | rfl <;> exact hv.rf (by decide)) dX2_perform_144 ?_
    refine go_iload_n (pc := 147) rfl dX2_perform_147 ?_
    refine gi_iald (pc := 148) (lo := -2147483648) (hi := 2147483647) (len := 40) hv (ti_rfl a2) (by rcases hc67 with rfl | rfl <;> rfl) (by omega) (by omega) (fun _ => by rcases hc67 with rfl | rfl <;> rfl) dX2_perform_148 (fun v68 v68l v68u v68w => ?_)
    refine go_invV (pc := 149) (sl := 0) (s_X2_load l (d + 2) hv v68) mL_X2_114 iM_X2_load sM_X2_load (hv.sh rfl) rfl rfl rfl (Nat.le_of_ble_eq_true rfl) (show d + 2 + 1 + 1 ≤ d + 4 by omega) (show 8 + (2 + 11) + 40 * (d + 2 + 1) ≤ 40 * (d + 4) by omega) (g_c0 hv.ln) (Nat.le_of_ble_eq_true rfl) dX2_perform_149 ?_
    intro r h69 hq _
    obtain ⟨v70, rfl, v70l, v70u, rfl⟩ := hq
    refine go_invV (pc := 152) (sl := 0) (s_X2_see_f l (d + 2) hv a2 v70) mL_X2_102 iM_X2_see sM_X2_see (hv.sh rfl) rfl rfl rfl (Nat.le_of_ble_eq_true rfl) (show d + 2 + 1 + 1 ≤ d + 4 by omega) (show 8 + (3 + 11) + 40 * (d + 2 + 1) ≤ 40 * (d + 4) by omega) (g_c0 hv.ln) (Nat.le_of_ble_eq_true rfl) dX2_perform_152 ?_
    intro r h71 hq _
    obtain ⟨rfl, hv71, f72⟩ := hq
    have fx71 : FX KAc h h71 := FX.tr fx f72
    refine go_aload_n (pc := 155) rfl dX2_perform_155 ?_
    refine go_aload_n (pc := 156) rfl dX2_perform_156 ?_
    refine go_aload_n (pc := 157) rfl dX2_perform_157 ?_
    refine gi_getC (pc := 158) hv71 fL_X2_50 rfl (Nat.le_of_ble_eq_true rfl) rfl (by decide) dX2_perform_158 (fun c73 hc73 fc73 => ?_)
    refine gi_getF (pc := 161) (q := c73 + 9) hv71 fL_X2_111 (by rcases hc73 with rfl | rfl <;> rfl) (Nat.le_of_ble_eq_true rfl) rfl (by rcases hc73 with rfl | rfl <;> exact hv71.rf (by decide)) dX2_perform_161 ?_
    refine go_iload_n (pc := 164) rfl dX2_perform_164 ?_
    refine gi_iald (pc := 165) (lo := -2147483648) (hi := 2147483647) (len := 40) hv71 (ti_rfl a2) (by rcases hc73 with rfl | rfl <;> rfl) (by omega) (by omega) (fun _ => by rcases hc73 with rfl | rfl <;> rfl) dX2_perform_165 (fun v74 v74l v74u v74w => ?_)
    refine go_invV (pc := 166) (sl := 0) (s_X2_load l (d + 2) hv71 v74) mL_X2_114 iM_X2_load sM_X2_load (hv71.sh rfl) rfl rfl rfl (Nat.le_of_ble_eq_true rfl) (show d + 2 + 1 + 1 ≤ d + 4 by omega) (show 8 + (2 + 11) + 40 * (d + 2 + 1) ≤ 40 * (d + 4) by omega) (g_c0 hv71.ln) (Nat.le_of_ble_eq_true rfl) dX2_perform_166 ?_
    intro r h75 hq _
    obtain ⟨v76, rfl, v76l, v76u, rfl⟩ := hq
    refine go_iconst (pc := 169) (v := 0) (by decide) dX2_perform_169 ?_
    refine go_invV (pc := 170) (sl := 0) (s_X2_leave_f l (d + 1) hv71 v76 0 (by rw [show (0 : Int32).toInt = 0 from (ti_c (v := 0) (a := 0) (by decide))]; omega) (by rw [show (0 : Int32).toInt = 0 from (ti_c (v := 0) (a := 0) (by decide))]; omega)) mL_X2_73 iM_X2_leave sM_X2_leave (hv71.sh rfl) rfl rfl rfl (Nat.le_of_ble_eq_true rfl) (show d + 1 + 2 + 1 ≤ d + 4 by omega) (show 8 + (6 + 11) + 40 * (d + 1 + 2) ≤ 40 * (d + 4) by omega) (g_c0 hv71.ln) (Nat.le_of_ble_eq_true rfl) dX2_perform_170 ?_
    intro r h77 hq _
    obtain ⟨rfl, hv77, f78⟩ := hq
    try rw [show (0 : Int32).toInt = 0 from (ti_c (v := 0) (a := 0) (by decide))] at f78
    have fx77 : FX KAc h h77 := FX.tr fx71 f78
    refine go_goto (pc := 173) (tgt := 254) (by decide) dX2_perform_173 ?_
    exact go_lv rfl ((key 17).2.2.2  h77 hv77 fx77 (by omega))
  exact False.elim (by omega)
set_option maxHeartbeats 4000000 in
set_option maxRecDepth 100000 in
theorem s_X2_step_f (l : Launch) (d : Nat) {P : PP} {h : HP} (hv : Iv P h)  : Mt l yX2_step cX2_step 1 none (d + 5) [.ref 64] h 0 0 (fun r h' => r = none ∧ Iv P h' ∧ (FX KAc h h')) := by
  refine Mt_iv hv (by decide) (Nat.le_of_ble_eq_true rfl) ?_
  show Go l RX2 cX2_step 1 (g_rm (d + 5) 0 0) "step" none 117 0 0 (fun _ _ => True) (fun r h' => r = none ∧ Iv P h' ∧ (FX KAc h h')) 0 0 [(0, .ref 64)] [] h
  have fx : FX KAc h h := FX.rfl
  have key : ∀ n : Nat, (∀  (hx : HP), Iv P hx → FX KAc h hx → (1 : Int) < n → Go l RX2 cX2_step 1 (g_rm (d + 5) 0 0) "step" none 117 0 0 (fun _ _ => True) (fun r h' => r = none ∧ Iv P h' ∧ (FX KAc h h')) 0 87 [] [] hx) := by
    intro n
    induction n with
    | zero => exact (by intros; omega)
    | succ n ih =>
      refine ?_
      ·
        intro hx hvx fxx hm
        exact gi_vret (pc := 87) ⟨rfl, hvx, fxx⟩ hvx dX2_step_87
  refine go_aload_n (pc := 0) rfl dX2_step_0 ?_
  refine gi_get (pc := 1) (lo := 0) (hi := 44) hv fL_X2_25 rfl (Nat.le_of_ble_eq_true rfl) rfl rfl dX2_step_1 (fun v1 v1l v1u v1w => ?_)
  refine go_bipush (pc := 4) (v := 40) (by decide) dX2_step_4 ?_
  refine gf_icmp_lt (pc := 6) (tgt := 18) (ti_rfl v1) (ti_c (v := 40) (a := 40) (by decide)) (by decide) dX2_step_6 (fun q2 => ?_) (fun q2 => ?_)
  ·
    refine go_aload_n (pc := 18) rfl dX2_step_18 ?_
    refine gi_getL (pc := 19) hv fL_X2_46 rfl (Nat.le_of_ble_eq_true rfl) rfl dX2_step_19 (fun v3 => ?_)
    refine go_aload_n (pc := 22) rfl dX2_step_22 ?_
    refine gi_get (pc := 23) (lo := 0) (hi := 44) hv fL_X2_25 rfl (Nat.le_of_ble_eq_true rfl) rfl rfl dX2_step_23 (fun v4 v4l v4u v4w => ?_)
    have v4r : v1 = h.2.1 64 4 := v1w
    have v4q : TI v4 v1.toInt := by rw [v4w.trans v4r.symm]; exact (ti_rfl v1)
    refine go_invS (pc := 26) (sl := 0) (s_X7_has_f l (d + 3) hv v3 v4) mL_X2_77 iM_X7_has rfl rfl (Nat.le_of_ble_eq_true rfl) (show d + 3 + 1 + 1 ≤ d + 5 by omega) (show 8 + (3 + 11) + 40 * (d + 3 + 1) ≤ 40 * (d + 5) by omega) (g_c0 hv.ln) (Nat.le_of_ble_eq_true rfl) dX2_step_26 ?_
    intro r h5 hq _
    obtain ⟨v7, rfl, v7l, v7u, rfl, f6⟩ := hq
    try rw [show (v4 : Int32).toInt = v1.toInt from v4q] at f6
    refine gf_if_ne (pc := 29) (tgt := 51) (ti_rfl v7) (by decide) dX2_step_29 (fun q8 => ?_) (fun q8 => ?_)
    ·
      refine go_aload_n (pc := 51) rfl dX2_step_51 ?_
      refine gi_get (pc := 52) (lo := 0) (hi := 3000) hv fL_X2_28 rfl (Nat.le_of_ble_eq_true rfl) rfl rfl dX2_step_52 (fun v9 v9l v9u v9w => ?_)
      refine go_sipush (pc := 55) (v := 3000) (by decide) dX2_step_55 ?_
      refine gf_icmp_lt (pc := 58) (tgt := 69) (ti_rfl v9) (ti_c (v := 3000) (a := 3000) (by decide)) (by decide) dX2_step_58 (fun q10 => ?_) (fun q10 => ?_)
      ·
        refine go_aload_n (pc := 69) rfl dX2_step_69 ?_
        refine go_dup (pc := 70) rfl dX2_step_70 ?_
        refine gi_get (pc := 71) (lo := 0) (hi := 3000) hv fL_X2_28 rfl (Nat.le_of_ble_eq_true rfl) rfl rfl dX2_step_71 (fun v11 v11l v11u v11w => ?_)
        have v11r : v9 = h.2.1 64 5 := v9w
        have v11q : TI v11 v9.toInt := by rw [v11w.trans v11r.symm]; exact (ti_rfl v9)
        refine go_iconst (pc := 74) (v := 1) (by decide) dX2_step_74 ?_
        refine gf_iadd (pc := 75) v11q (ti_c (v := 1) (a := 1) (by decide)) (by omega) (by omega) dX2_step_75 (fun v12 e13 => ?_)
        refine gi_put (pc := 76) (lo := 0) (hi := 3000) hv e13 (fP_X2_28 _) rfl (Nat.le_of_ble_eq_true rfl) rfl rfl (by omega) (by omega) rfl rfl (by decide) (by decide) (by decide) (by decide) dX2_step_76 (fun h14 hv14 hv14e => ?_)
        have fx14 : FX KAc h h14 := FX.pI fx hv14e (by unfold KAc; omega)
        refine go_aload_n (pc := 79) rfl dX2_step_79 ?_
        refine go_aload_n (pc := 80) rfl dX2_step_80 ?_
        refine gi_get (pc := 81) (lo := 0) (hi := 44) hv14 fL_X2_25 rfl (Nat.le_of_ble_eq_true rfl) rfl rfl dX2_step_81 (fun v15 v15l v15u v15w => ?_)
        have v15r : v1 = h14.2.1 64 4 := (show v1 = h14.2.1 64 4 from by rw [hv14e]; exact (g_iI rfl v1w.symm).symm)
        have v15q : TI v15 v1.toInt := by rw [v15w.trans v15r.symm]; exact (ti_rfl v1)
        refine go_invV (pc := 84) (sl := 0) (s_X2_perform_f l (d + 0) hv14 v15 (by rw [show (v15 : Int32).toInt = v1.toInt from v15q]; omega) (by rw [show (v15 : Int32).toInt = v1.toInt from v15q]; omega)) mL_X2_84 iM_X2_perform sM_X2_perform (hv14.sh rfl) rfl rfl rfl (Nat.le_of_ble_eq_true rfl) (show d + 0 + 4 + 1 ≤ d + 5 by omega) (show 8 + (4 + 11) + 40 * (d + 0 + 4) ≤ 40 * (d + 5) by omega) (g_c0 hv14.ln) (Nat.le_of_ble_eq_true rfl) dX2_step_84 ?_
        intro r h16 hq _
        obtain ⟨rfl, hv16, f17⟩ := hq
        try rw [show (v15 : Int32).toInt = v1.toInt from v15q] at f17
        have fx16 : FX KAc h h16 := FX.tr fx14 f17
        exact go_lv rfl ((key 14)  h16 hv16 fx16 (by omega))
      ·
        refine go_aload_n (pc := 61) rfl dX2_step_61 ?_
        refine go_iconst (pc := 62) (v := 2) (by decide) dX2_step_62 ?_
        refine gi_put (pc := 63) (lo := -1) (hi := 3) hv (ti_c (v := 2) (a := 2) (by decide)) (fP_X2_31 _) rfl (Nat.le_of_ble_eq_true rfl) rfl rfl (by omega) (by omega) rfl rfl (by decide) (by decide) (by decide) (by decide) dX2_step_63 (fun h18 hv18 hv18e => ?_)
        have fx18 : FX KAc h h18 := FX.pI fx hv18e (by unfold KAc; omega)
        refine go_goto (pc := 66) (tgt := 87) (by decide) dX2_step_66 ?_
        exact go_lv rfl ((key 14)  h18 hv18 fx18 (by omega))
    ·
      refine go_aload_n (pc := 32) rfl dX2_step_32 ?_
      refine go_aload_n (pc := 33) rfl dX2_step_33 ?_
      refine gi_getC (pc := 34) hv fL_X2_50 rfl (Nat.le_of_ble_eq_true rfl) rfl (by decide) dX2_step_34 (fun c19 hc19 fc19 => ?_)
      refine gi_getF (pc := 37) (q := c19 + 11) hv fL_X2_81 (by rcases hc19 with rfl | rfl <;> rfl) (Nat.le_of_ble_eq_true rfl) rfl (by rcases hc19 with rfl | rfl <;> exact hv.rf (by decide)) dX2_step_37 ?_
      refine go_aload_n (pc := 40) rfl dX2_step_40 ?_
      refine gi_get (pc := 41) (lo := 0) (hi := 44) hv fL_X2_25 rfl (Nat.le_of_ble_eq_true rfl) rfl rfl dX2_step_41 (fun v20 v20l v20u v20w => ?_)
      have v20r : v1 = h.2.1 64 4 := v1w
      have v20q : TI v20 v1.toInt := by rw [v20w.trans v20r.symm]; exact (ti_rfl v1)
      refine gi_iald (pc := 44) (lo := 0) (hi := 44) (len := 40) hv v20q (by rcases hc19 with rfl | rfl <;> rfl) (by omega) (by omega) (fun _ => by rcases hc19 with rfl | rfl <;> rfl) dX2_step_44 (fun v21 v21l v21u v21w => ?_)
      refine gi_put (pc := 45) (lo := 0) (hi := 44) hv (ti_rfl v21) (fP_X2_25 _) rfl (Nat.le_of_ble_eq_true rfl) rfl rfl (by omega) (by omega) rfl rfl (by decide) (by decide) (by decide) (by decide) dX2_step_45 (fun h22 hv22 hv22e => ?_)
      have fx22 : FX KAc h h22 := FX.pI fx hv22e (by unfold KAc; omega)
      refine go_goto (pc := 48) (tgt := 87) (by decide) dX2_step_48 ?_
      exact go_lv rfl ((key 14)  h22 hv22 fx22 (by omega))
  ·
    refine go_aload_n (pc := 9) rfl dX2_step_9 ?_
    refine go_iconst (pc := 10) (v := 0) (by decide) dX2_step_10 ?_
    refine go_iconst (pc := 11) (v := 0) (by decide) dX2_step_11 ?_
    refine go_invV (pc := 12) (sl := 0) (s_X2_leave_f l (d + 2) hv 0 0 (by rw [show (0 : Int32).toInt = 0 from (ti_c (v := 0) (a := 0) (by decide))]; omega) (by rw [show (0 : Int32).toInt = 0 from (ti_c (v := 0) (a := 0) (by decide))]; omega)) mL_X2_73 iM_X2_leave sM_X2_leave (hv.sh rfl) rfl rfl rfl (Nat.le_of_ble_eq_true rfl) (show d + 2 + 2 + 1 ≤ d + 5 by omega) (show 8 + (6 + 11) + 40 * (d + 2 + 2) ≤ 40 * (d + 5) by omega) (g_c0 hv.ln) (Nat.le_of_ble_eq_true rfl) dX2_step_12 ?_
    intro r h23 hq _
    obtain ⟨rfl, hv23, f24⟩ := hq
    try rw [show (0 : Int32).toInt = 0 from (ti_c (v := 0) (a := 0) (by decide))] at f24
    try rw [show (0 : Int32).toInt = 0 from (ti_c (v := 0) (a := 0) (by decide))] at f24
    have fx23 : FX KAc h h23 := FX.tr fx f24
    refine go_goto (pc := 15) (tgt := 87) (by decide) dX2_step_15 ?_
    exact go_lv rfl ((key 14)  h23 hv23 fx23 (by omega))
set_option maxHeartbeats 4000000 in
set_option maxRecDepth 100000 in
theorem s_X2_play_f (l : Launch) (d : Nat) {P : PP} {h : HP} (hv : Iv P h) (c2 : Nat) (hc2 : c2 = 2 ∨ c2 = 18) (a3 : Int64) (a4 : Int32) (a5 : Int32) : Mt l yX2_play cX2_play 7 (some .int) (d + 6) [.ref 64, .ref c2, .long a3, .int a4, .int a5] h 0 0 (fun r h' => ∃ v : Int32, r = some (.int v) ∧ -1 ≤ v.toInt ∧ v.toInt ≤ 3 ∧ Iv P h' ∧ (FX KAc h h')) := by
  refine Mt_iv hv (by decide) (Nat.le_of_ble_eq_true rfl) ?_
  show Go l RX2 cX2_play 7 (g_rm (d + 6) 0 0) "play" (some .int) 117 0 0 (fun _ _ => True) (fun r h' => ∃ v : Int32, r = some (.int v) ∧ -1 ≤ v.toInt ∧ v.toInt ≤ 3 ∧ Iv P h' ∧ (FX KAc h h')) 0 0 [(0, .ref 64), (1, .ref c2), (2, .long a3), (4, .int a4), (5, .int a5)] [] h
  have fx : FX KAc h h := FX.rfl
  have key : ∀ n : Nat, (∀ (l6 : Int32) (hx : HP), Iv P hx → 0 ≤ l6.toInt → l6.toInt ≤ 1000000 → FX KAc h hx → (3 * (1000000 - l6.toInt) + 3 : Int) < n → Go l RX2 cX2_play 7 (g_rm (d + 6) 0 0) "play" (some .int) 117 0 0 (fun _ _ => True) (fun r h' => ∃ v : Int32, r = some (.int v) ∧ -1 ≤ v.toInt ∧ v.toInt ≤ 3 ∧ Iv P h' ∧ (FX KAc h h')) 0 55 [(0, .ref 64), (6, .int l6)] [] hx) ∧ (∀  (hx : HP), Iv P hx → FX KAc h hx → (1 : Int) < n → Go l RX2 cX2_play 7 (g_rm (d + 6) 0 0) "play" (some .int) 117 0 0 (fun _ _ => True) (fun r h' => ∃ v : Int32, r = some (.int v) ∧ -1 ≤ v.toInt ∧ v.toInt ≤ 3 ∧ Iv P h' ∧ (FX KAc h h')) 0 80 [(0, .ref 64)] [] hx) := by
    intro n
    induction n with
    | zero => exact ⟨(by intros; omega), (by intros; omega)⟩
    | succ n ih =>
      refine ⟨?_, ?_⟩
      ·
        intro l6 hx hvx l6l l6u fxx hm
        refine go_iload (pc := 55) rfl dX2_play_55 ?_
        refine go_ldc (pc := 57) kL_X2_64 dX2_play_57 ?_
        refine gf_icmp_ge (pc := 59) (tgt := 80) (ti_rfl l6) (ti_c (v := 1000000) (a := 1000000) (by decide)) (by decide) dX2_play_59 (fun q1 => ?_) (fun q1 => ?_)
        ·
          exact go_lv rfl (ih.2  hx hvx fxx (by omega))
        ·
          refine go_aload_n (pc := 62) rfl dX2_play_62 ?_
          refine gi_get (pc := 63) (lo := -1) (hi := 3) hvx fL_X2_31 rfl (Nat.le_of_ble_eq_true rfl) rfl rfl dX2_play_63 (fun v2 v2l v2u v2w => ?_)
          refine go_iconst (pc := 66) (v := 3) (by decide) dX2_play_66 ?_
          refine gf_icmp_ne (pc := 67) (tgt := 80) (ti_rfl v2) (ti_c (v := 3) (a := 3) (by decide)) (by decide) dX2_play_67 (fun q3 => ?_) (fun q3 => ?_)
          ·
            exact go_lv rfl (ih.2  hx hvx fxx (by omega))
          ·
            refine go_aload_n (pc := 70) rfl dX2_play_70 ?_
            refine go_invV (pc := 71) (sl := 0) (s_X2_step_f l (d + 0) hvx ) mL_X2_65 iM_X2_step sM_X2_step (hvx.sh rfl) rfl rfl rfl (Nat.le_of_ble_eq_true rfl) (show d + 0 + 5 + 1 ≤ d + 6 by omega) (show 8 + (1 + 11) + 40 * (d + 0 + 5) ≤ 40 * (d + 6) by omega) (g_c0 hvx.ln) (Nat.le_of_ble_eq_true rfl) dX2_play_71 ?_
            intro r h4 hq _
            obtain ⟨rfl, hv4, f5⟩ := hq
            have fx4 : FX KAc h h4 := FX.tr fxx f5
            refine gf_iinc (pc := 74) (Nat.le_of_ble_eq_true rfl) rfl (ti_rfl l6) (ti_c (by decide)) (by omega) (by omega) dX2_play_74 (fun v6 e7 => ?_)
            refine go_lv (lv2 := [(0, .ref 64), (6, .int v6)]) rfl ?_
            refine go_goto (pc := 77) (tgt := 55) (by decide) dX2_play_77 ?_
            have z8 : (v6 : Int32).toInt = (l6.toInt + 1) := e7
            exact go_lv rfl (ih.1 v6 h4 hv4 (by omega) (by omega) fx4 (by omega))
      ·
        intro hx hvx fxx hm
        refine go_aload_n (pc := 80) rfl dX2_play_80 ?_
        refine gi_get (pc := 81) (lo := -1) (hi := 3) hvx fL_X2_31 rfl (Nat.le_of_ble_eq_true rfl) rfl rfl dX2_play_81 (fun v9 v9l v9u v9w => ?_)
        exact gi_iret (pc := 84) (ti_rfl v9) ⟨_, rfl, (by rw [show (v9 : Int32).toInt = v9.toInt from (ti_rfl v9)]; omega), (by rw [show (v9 : Int32).toInt = v9.toInt from (ti_rfl v9)]; omega), hvx, fxx⟩ hvx dX2_play_84
  refine go_aload_n (pc := 0) rfl dX2_play_0 ?_
  refine go_aload_n (pc := 1) rfl dX2_play_1 ?_
  refine gi_putC (pc := 2) hv hc2 (fP_X2_50 _) rfl (Nat.le_of_ble_eq_true rfl) rfl (fun _ => rfl) (fun _ => rfl) (by decide) (by decide) (by decide) (by decide) dX2_play_2 (fun h10 hv10 hv10e => ?_)
  have fx10 : FX KAc h h10 := FX.pR fx hv10e (by unfold KAc; omega)
  refine go_aload_n (pc := 5) rfl dX2_play_5 ?_
  refine go_lload_n (pc := 6) rfl dX2_play_6 ?_
  refine gi_putL (pc := 7) hv10 (fP_X2_46 _) rfl (Nat.le_of_ble_eq_true rfl) rfl rfl rfl dX2_play_7 (fun h11 hv11 hv11e => ?_)
  have fx11 : FX KAc h h11 := FX.pL fx10 hv11e (by unfold KAc; omega)
  refine go_aload_n (pc := 10) rfl dX2_play_10 ?_
  refine gi_getF (pc := 11) (q := 65) hv11 fL_X2_9 rfl (Nat.le_of_ble_eq_true rfl) rfl (hv11.rf (by decide)) dX2_play_11 ?_
  refine go_iconst (pc := 14) (v := 0) (by decide) dX2_play_14 ?_
  refine go_invS (pc := 15) (sl := 0) (s_J7_fill_53178_at65_f l (d + 4) hv11 0) mL_X2_54 iM_J7_fill_53178 rfl rfl (Nat.le_of_ble_eq_true rfl) (show d + 4 + 1 + 1 ≤ d + 6 by omega) (show 8 + (4 + 11) + 40 * (d + 4 + 1) ≤ 40 * (d + 6) by omega) (g_c0 hv11.ln) (Nat.le_of_ble_eq_true rfl) dX2_play_15 ?_
  intro r h12 hq _
  obtain ⟨rfl, hv12, f13⟩ := hq
  try rw [show (0 : Int32).toInt = 0 from (ti_c (v := 0) (a := 0) (by decide))] at f13
  have fx12 : FX KAc h h12 := FX.tr fx11 f13
  refine go_aload_n (pc := 18) rfl dX2_play_18 ?_
  refine go_iconst (pc := 19) (v := 0) (by decide) dX2_play_19 ?_
  refine gi_put (pc := 20) (lo := 0) (hi := 30) hv12 (ti_c (v := 0) (a := 0) (by decide)) (fP_X2_21 _) rfl (Nat.le_of_ble_eq_true rfl) rfl rfl (by omega) (by omega) rfl rfl (by decide) (by decide) (by decide) (by decide) dX2_play_20 (fun h14 hv14 hv14e => ?_)
  have fx14 : FX KAc h h14 := FX.pI fx12 hv14e (by unfold KAc; omega)
  refine go_aload_n (pc := 23) rfl dX2_play_23 ?_
  refine go_iconst (pc := 24) (v := 0) (by decide) dX2_play_24 ?_
  refine gi_put (pc := 25) (lo := 0) (hi := 3000) hv14 (ti_c (v := 0) (a := 0) (by decide)) (fP_X2_28 _) rfl (Nat.le_of_ble_eq_true rfl) rfl rfl (by omega) (by omega) rfl rfl (by decide) (by decide) (by decide) (by decide) dX2_play_25 (fun h15 hv15 hv15e => ?_)
  have fx15 : FX KAc h h15 := FX.pI fx14 hv15e (by unfold KAc; omega)
  refine go_aload_n (pc := 28) rfl dX2_play_28 ?_
  refine go_iconst (pc := 29) (v := 0) (by decide) dX2_play_29 ?_
  refine gi_put (pc := 30) (lo := -2147483648) (hi := 2147483647) hv15 (ti_c (v := 0) (a := 0) (by decide)) (fP_X2_34 _) rfl (Nat.le_of_ble_eq_true rfl) rfl rfl (ti_ge (ti_c (v := 0) (a := 0) (by decide))) (ti_le2 (ti_c (v := 0) (a := 0) (by decide))) rfl rfl (by decide) (by decide) (by decide) (by decide) dX2_play_30 (fun h16 hv16 hv16e => ?_)
  have fx16 : FX KAc h h16 := FX.pI fx15 hv16e (by unfold KAc; omega)
  refine go_aload_n (pc := 33) rfl dX2_play_33 ?_
  refine go_iconst (pc := 34) (v := 0) (by decide) dX2_play_34 ?_
  refine gi_put (pc := 35) (lo := 0) (hi := 500) hv16 (ti_c (v := 0) (a := 0) (by decide)) (fP_X2_43 _) rfl (Nat.le_of_ble_eq_true rfl) rfl rfl (by omega) (by omega) rfl rfl (by decide) (by decide) (by decide) (by decide) dX2_play_35 (fun h17 hv17 hv17e => ?_)
  have fx17 : FX KAc h h17 := FX.pI fx16 hv17e (by unfold KAc; omega)
  refine go_aload_n (pc := 38) rfl dX2_play_38 ?_
  refine go_iconst (pc := 39) (v := 3) (by decide) dX2_play_39 ?_
  refine gi_put (pc := 40) (lo := -1) (hi := 3) hv17 (ti_c (v := 3) (a := 3) (by decide)) (fP_X2_31 _) rfl (Nat.le_of_ble_eq_true rfl) rfl rfl (by omega) (by omega) rfl rfl (by decide) (by decide) (by decide) (by decide) dX2_play_40 (fun h18 hv18 hv18e => ?_)
  have fx18 : FX KAc h h18 := FX.pI fx17 hv18e (by unfold KAc; omega)
  refine go_aload_n (pc := 43) rfl dX2_play_43 ?_
  refine go_iconst (pc := 44) (v := 0) (by decide) dX2_play_44 ?_
  refine go_iload (pc := 45) rfl dX2_play_45 ?_
  refine go_iload (pc := 47) rfl dX2_play_47 ?_
  refine go_invV (pc := 49) (sl := 0) (s_X2_enter_f l (d + 4) hv18 0 (by rw [show (0 : Int32).toInt = 0 from (ti_c (v := 0) (a := 0) (by decide))]; omega) (by rw [show (0 : Int32).toInt = 0 from (ti_c (v := 0) (a := 0) (by decide))]; omega) a4 a5) mL_X2_60 iM_X2_enter sM_X2_enter (hv18.sh rfl) rfl rfl rfl (Nat.le_of_ble_eq_true rfl) (show d + 4 + 1 + 1 ≤ d + 6 by omega) (show 8 + (6 + 11) + 40 * (d + 4 + 1) ≤ 40 * (d + 6) by omega) (g_c0 hv18.ln) (Nat.le_of_ble_eq_true rfl) dX2_play_49 ?_
  intro r h19 hq _
  obtain ⟨rfl, hv19, f20⟩ := hq
  try rw [show (0 : Int32).toInt = 0 from (ti_c (v := 0) (a := 0) (by decide))] at f20
  have fx19 : FX KAc h h19 := FX.tr fx18 f20
  refine go_iconst (pc := 52) (v := 0) (by decide) dX2_play_52 ?_
  refine go_istore (pc := 53) (Nat.le_of_ble_eq_true rfl) dX2_play_53 (go_lv (lv2 := [(0, .ref 64), (1, .ref c2), (2, .long a3), (4, .int a4), (5, .int a5), (6, .int 0)]) rfl ?_)
  have z21 : (0 : Int32).toInt = 0 := (ti_c (v := 0) (a := 0) (by decide))
  exact go_lv rfl ((key 3000020).1 0 h19 hv19 (by omega) (by omega) fx19 (by omega))
