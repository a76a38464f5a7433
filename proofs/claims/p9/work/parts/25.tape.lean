theorem dX7_end_0 : decode cX7_end 0 = .ok (.iload_n 1, 1) := by decide +kernel
theorem dX7_end_1 : decode cX7_end 1 = .ok (.ifCond .lt 11, 3) := by decide +kernel
theorem dX7_end_4 : decode cX7_end 4 = .ok (.iload_n 1, 1) := by decide +kernel
theorem dX7_end_5 : decode cX7_end 5 = .ok (.aload_n 0, 1) := by decide +kernel
theorem dX7_end_6 : decode cX7_end 6 = .ok (.getfield 13, 3) := by decide +kernel
theorem dX7_end_9 : decode cX7_end 9 = .ok (.if_icmp .le 5, 3) := by decide +kernel
theorem dX7_end_12 : decode cX7_end 12 = .ok (.iconst 0, 1) := by decide +kernel
theorem dX7_end_13 : decode cX7_end 13 = .ok (.ireturn, 1) := by decide +kernel
theorem dX7_end_14 : decode cX7_end 14 = .ok (.aload_n 0, 1) := by decide +kernel
theorem dX7_end_15 : decode cX7_end 15 = .ok (.iload_n 1, 1) := by decide +kernel
theorem dX7_end_16 : decode cX7_end 16 = .ok (.putfield 13, 3) := by decide +kernel
theorem dX7_end_19 : decode cX7_end 19 = .ok (.iconst 1, 1) := by decide +kernel
theorem dX7_end_20 : decode cX7_end 20 = .ok (.ireturn, 1) := by decide +kernel
theorem dX7_feed_0 : decode cX7_feed 0 = .ok (.aload_n 0, 1) := by decide +kernel
theorem dX7_feed_1 : decode cX7_feed 1 = .ok (.getfield 13, 3) := by decide +kernel
theorem dX7_feed_4 : decode cX7_feed 4 = .ok (.bipush 20, 2) := by decide +kernel
theorem dX7_feed_6 : decode cX7_feed 6 = .ok (.iadd, 1) := by decide +kernel
theorem dX7_feed_7 : decode cX7_feed 7 = .ok (.sipush 500, 3) := by decide +kernel
theorem dX7_feed_10 : decode cX7_feed 10 = .ok (.if_icmp .le 5, 3) := by decide +kernel
theorem dX7_feed_13 : decode cX7_feed 13 = .ok (.iconst (-1), 1) := by decide +kernel
theorem dX7_feed_14 : decode cX7_feed 14 = .ok (.ireturn, 1) := by decide +kernel
theorem dX7_feed_15 : decode cX7_feed 15 = .ok (.aload_n 0, 1) := by decide +kernel
theorem dX7_feed_16 : decode cX7_feed 16 = .ok (.iload_n 1, 1) := by decide +kernel
theorem dX7_feed_17 : decode cX7_feed 17 = .ok (.invokevirtual 53, 3) := by decide +kernel
theorem dX7_feed_20 : decode cX7_feed 20 = .ok (.aload_n 0, 1) := by decide +kernel
theorem dX7_feed_21 : decode cX7_feed 21 = .ok (.iload_n 2, 1) := by decide +kernel
theorem dX7_feed_22 : decode cX7_feed 22 = .ok (.invokevirtual 53, 3) := by decide +kernel
theorem dX7_feed_25 : decode cX7_feed 25 = .ok (.aload_n 0, 1) := by decide +kernel
theorem dX7_feed_26 : decode cX7_feed 26 = .ok (.iload_n 3, 1) := by decide +kernel
theorem dX7_feed_27 : decode cX7_feed 27 = .ok (.invokevirtual 53, 3) := by decide +kernel
theorem dX7_feed_30 : decode cX7_feed 30 = .ok (.aload_n 0, 1) := by decide +kernel
theorem dX7_feed_31 : decode cX7_feed 31 = .ok (.iload 4, 2) := by decide +kernel
theorem dX7_feed_33 : decode cX7_feed 33 = .ok (.invokevirtual 53, 3) := by decide +kernel
theorem dX7_feed_36 : decode cX7_feed 36 = .ok (.aload_n 0, 1) := by decide +kernel
theorem dX7_feed_37 : decode cX7_feed 37 = .ok (.iload 5, 2) := by decide +kernel
theorem dX7_feed_39 : decode cX7_feed 39 = .ok (.invokevirtual 53, 3) := by decide +kernel
theorem dX7_feed_42 : decode cX7_feed 42 = .ok (.aload_n 0, 1) := by decide +kernel
theorem dX7_feed_43 : decode cX7_feed 43 = .ok (.getfield 13, 3) := by decide +kernel
theorem dX7_feed_46 : decode cX7_feed 46 = .ok (.ireturn, 1) := by decide +kernel
theorem dX7_putFour_0 : decode cX7_putFour 0 = .ok (.bipush 24, 2) := by decide +kernel
theorem dX7_putFour_2 : decode cX7_putFour 2 = .ok (.istore_n 2, 1) := by decide +kernel
theorem dX7_putFour_3 : decode cX7_putFour 3 = .ok (.iload_n 2, 1) := by decide +kernel
theorem dX7_putFour_4 : decode cX7_putFour 4 = .ok (.ifCond .lt 42, 3) := by decide +kernel
theorem dX7_putFour_7 : decode cX7_putFour 7 = .ok (.aload_n 0, 1) := by decide +kernel
theorem dX7_putFour_8 : decode cX7_putFour 8 = .ok (.getfield 13, 3) := by decide +kernel
theorem dX7_putFour_11 : decode cX7_putFour 11 = .ok (.sipush 500, 3) := by decide +kernel
theorem dX7_putFour_14 : decode cX7_putFour 14 = .ok (.if_icmp .ge 32, 3) := by decide +kernel
theorem dX7_putFour_17 : decode cX7_putFour 17 = .ok (.aload_n 0, 1) := by decide +kernel
theorem dX7_putFour_18 : decode cX7_putFour 18 = .ok (.getfield 9, 3) := by decide +kernel
theorem dX7_putFour_21 : decode cX7_putFour 21 = .ok (.aload_n 0, 1) := by decide +kernel
theorem dX7_putFour_22 : decode cX7_putFour 22 = .ok (.getfield 13, 3) := by decide +kernel
theorem dX7_putFour_25 : decode cX7_putFour 25 = .ok (.iload_n 1, 1) := by decide +kernel
theorem dX7_putFour_26 : decode cX7_putFour 26 = .ok (.iload_n 2, 1) := by decide +kernel
theorem dX7_putFour_27 : decode cX7_putFour 27 = .ok (.iushr, 1) := by decide +kernel
theorem dX7_putFour_28 : decode cX7_putFour 28 = .ok (.i2b, 1) := by decide +kernel
theorem dX7_putFour_29 : decode cX7_putFour 29 = .ok (.bastore, 1) := by decide +kernel
theorem dX7_putFour_30 : decode cX7_putFour 30 = .ok (.aload_n 0, 1) := by decide +kernel
theorem dX7_putFour_31 : decode cX7_putFour 31 = .ok (.dup, 1) := by decide +kernel
theorem dX7_putFour_32 : decode cX7_putFour 32 = .ok (.getfield 13, 3) := by decide +kernel
theorem dX7_putFour_35 : decode cX7_putFour 35 = .ok (.iconst 1, 1) := by decide +kernel
theorem dX7_putFour_36 : decode cX7_putFour 36 = .ok (.iadd, 1) := by decide +kernel
theorem dX7_putFour_37 : decode cX7_putFour 37 = .ok (.putfield 13, 3) := by decide +kernel
theorem dX7_putFour_40 : decode cX7_putFour 40 = .ok (.iinc 2 (-8), 3) := by decide +kernel
theorem dX7_putFour_43 : decode cX7_putFour 43 = .ok (.goto (-40), 3) := by decide +kernel
theorem dX7_putFour_46 : decode cX7_putFour 46 = .ok (.return_, 1) := by decide +kernel
theorem dX8_end_0 : decode cX8_end 0 = .ok (.iload_n 1, 1) := by decide +kernel
theorem dX8_end_1 : decode cX8_end 1 = .ok (.iconst 0, 1) := by decide +kernel
theorem dX8_end_2 : decode cX8_end 2 = .ok (.aload_n 0, 1) := by decide +kernel
theorem dX8_end_3 : decode cX8_end 3 = .ok (.getfield 151, 3) := by decide +kernel
theorem dX8_end_6 : decode cX8_end 6 = .ok (.invokestatic 159, 3) := by decide +kernel
theorem dX8_end_9 : decode cX8_end 9 = .ok (.ifCond .ne 5, 3) := by decide +kernel
theorem dX8_end_12 : decode cX8_end 12 = .ok (.iconst 0, 1) := by decide +kernel
theorem dX8_end_13 : decode cX8_end 13 = .ok (.ireturn, 1) := by decide +kernel
theorem dX8_end_14 : decode cX8_end 14 = .ok (.aload_n 0, 1) := by decide +kernel
theorem dX8_end_15 : decode cX8_end 15 = .ok (.iload_n 1, 1) := by decide +kernel
theorem dX8_end_16 : decode cX8_end 16 = .ok (.putfield 151, 3) := by decide +kernel
theorem dX8_end_19 : decode cX8_end 19 = .ok (.iconst 1, 1) := by decide +kernel
theorem dX8_end_20 : decode cX8_end 20 = .ok (.ireturn, 1) := by decide +kernel
theorem dX8_feed_0 : decode cX8_feed 0 = .ok (.aload_n 0, 1) := by decide +kernel
theorem dX8_feed_1 : decode cX8_feed 1 = .ok (.getfield 151, 3) := by decide +kernel
theorem dX8_feed_4 : decode cX8_feed 4 = .ok (.bipush 20, 2) := by decide +kernel
theorem dX8_feed_6 : decode cX8_feed 6 = .ok (.iadd, 1) := by decide +kernel
theorem dX8_feed_7 : decode cX8_feed 7 = .ok (.sipush 500, 3) := by decide +kernel
theorem dX8_feed_10 : decode cX8_feed 10 = .ok (.if_icmp .le 5, 3) := by decide +kernel
theorem dX8_feed_13 : decode cX8_feed 13 = .ok (.iconst (-1), 1) := by decide +kernel
theorem dX8_feed_14 : decode cX8_feed 14 = .ok (.ireturn, 1) := by decide +kernel
theorem dX8_feed_15 : decode cX8_feed 15 = .ok (.aload_n 0, 1) := by decide +kernel
theorem dX8_feed_16 : decode cX8_feed 16 = .ok (.iload_n 1, 1) := by decide +kernel
theorem dX8_feed_17 : decode cX8_feed 17 = .ok (.invokevirtual 155, 3) := by decide +kernel
theorem dX8_feed_20 : decode cX8_feed 20 = .ok (.aload_n 0, 1) := by decide +kernel
theorem dX8_feed_21 : decode cX8_feed 21 = .ok (.iload_n 2, 1) := by decide +kernel
theorem dX8_feed_22 : decode cX8_feed 22 = .ok (.invokevirtual 155, 3) := by decide +kernel
theorem dX8_feed_25 : decode cX8_feed 25 = .ok (.aload_n 0, 1) := by decide +kernel
theorem dX8_feed_26 : decode cX8_feed 26 = .ok (.iload_n 3, 1) := by decide +kernel
theorem dX8_feed_27 : decode cX8_feed 27 = .ok (.invokevirtual 155, 3) := by decide +kernel
theorem dX8_feed_30 : decode cX8_feed 30 = .ok (.aload_n 0, 1) := by decide +kernel
theorem dX8_feed_31 : decode cX8_feed 31 = .ok (.iload 4, 2) := by decide +kernel
theorem dX8_feed_33 : decode cX8_feed 33 = .ok (.invokevirtual 155, 3) := by decide +kernel
theorem dX8_feed_36 : decode cX8_feed 36 = .ok (.aload_n 0, 1) := by decide +kernel
theorem dX8_feed_37 : decode cX8_feed 37 = .ok (.iload 5, 2) := by decide +kernel
theorem dX8_feed_39 : decode cX8_feed 39 = .ok (.invokevirtual 155, 3) := by decide +kernel
theorem dX8_feed_42 : decode cX8_feed 42 = .ok (.aload_n 0, 1) := by decide +kernel
theorem dX8_feed_43 : decode cX8_feed 43 = .ok (.getfield 151, 3) := by decide +kernel
theorem dX8_feed_46 : decode cX8_feed 46 = .ok (.ireturn, 1) := by decide +kernel
theorem dX8_put_0 : decode cX8_put 0 = .ok (.bipush 24, 2) := by decide +kernel
theorem dX8_put_2 : decode cX8_put 2 = .ok (.istore_n 2, 1) := by decide +kernel
theorem dX8_put_3 : decode cX8_put 3 = .ok (.iload_n 2, 1) := by decide +kernel
theorem dX8_put_4 : decode cX8_put 4 = .ok (.ifCond .lt 32, 3) := by decide +kernel
theorem dX8_put_7 : decode cX8_put 7 = .ok (.aload_n 0, 1) := by decide +kernel
theorem dX8_put_8 : decode cX8_put 8 = .ok (.getfield 7, 3) := by decide +kernel
theorem dX8_put_11 : decode cX8_put 11 = .ok (.aload_n 0, 1) := by decide +kernel
theorem dX8_put_12 : decode cX8_put 12 = .ok (.getfield 151, 3) := by decide +kernel
theorem dX8_put_15 : decode cX8_put 15 = .ok (.iload_n 1, 1) := by decide +kernel
theorem dX8_put_16 : decode cX8_put 16 = .ok (.iload_n 2, 1) := by decide +kernel
theorem dX8_put_17 : decode cX8_put 17 = .ok (.ishr, 1) := by decide +kernel
theorem dX8_put_18 : decode cX8_put 18 = .ok (.i2b, 1) := by decide +kernel
theorem dX8_put_19 : decode cX8_put 19 = .ok (.bastore, 1) := by decide +kernel
theorem dX8_put_20 : decode cX8_put 20 = .ok (.aload_n 0, 1) := by decide +kernel
theorem dX8_put_21 : decode cX8_put 21 = .ok (.dup, 1) := by decide +kernel
theorem dX8_put_22 : decode cX8_put 22 = .ok (.getfield 151, 3) := by decide +kernel
theorem dX8_put_25 : decode cX8_put 25 = .ok (.iconst 1, 1) := by decide +kernel
theorem dX8_put_26 : decode cX8_put 26 = .ok (.iadd, 1) := by decide +kernel
theorem dX8_put_27 : decode cX8_put 27 = .ok (.putfield 151, 3) := by decide +kernel
theorem dX8_put_30 : decode cX8_put 30 = .ok (.iinc 2 (-8), 3) := by decide +kernel
theorem dX8_put_33 : decode cX8_put 33 = .ok (.goto (-30), 3) := by decide +kernel
theorem dX8_put_36 : decode cX8_put 36 = .ok (.return_, 1) := by decide +kernel
set_option maxHeartbeats 4000000 in
set_option maxRecDepth 100000 in
theorem s_X7_putFour (l : Launch) (d : Nat) {P : PP} {h : HP} (hv : Iv P h) (a2 : Int32) (hp : P.1.toInt ≤ 496) : Mt l yX7_putFour cX7_putFour 3 none (d + 1) [.ref 0, .int a2] h 0 0 (fun r h' => r = none ∧ (∃ Q : PP, Iv Q h' ∧ (Q.1.toInt = P.1.toInt + 4) ∧ Q.2 = P.2)) := by
  refine Mt_iv hv (by decide) (Nat.le_of_ble_eq_true rfl) ?_
  show Go l RX7 cX7_putFour 3 (g_rm (d + 1) 0 0) "putFour" none 117 0 0 (fun _ _ => True) (fun r h' => r = none ∧ (∃ Q : PP, Iv Q h' ∧ (Q.1.toInt = P.1.toInt + 4) ∧ Q.2 = P.2)) 0 0 [(0, .ref 0), (1, .int a2)] [] h
  refine go_bipush (pc := 0) (v := 24) (by decide) dX7_putFour_0 ?_
  refine go_istore_n (pc := 2) (Nat.le_of_ble_eq_true rfl) dX7_putFour_2 (go_lv (lv2 := [(0, .ref 0), (1, .int a2), (2, .int 24)]) rfl ?_)
  refine go_iload_n (pc := 3) rfl dX7_putFour_3 ?_
  refine gf_if_lt (pc := 4) (tgt := 46) (ti_c (v := 24) (a := 24) (by decide)) (by decide) dX7_putFour_4 (fun q1 => False.elim (by omega)) (fun q1 => ?_)
  refine go_aload_n (pc := 7) rfl dX7_putFour_7 ?_
  refine gi_get (pc := 8) (lo := 0) (hi := 500) hv fL_X7_13 rfl (Nat.le_of_ble_eq_true rfl) rfl rfl dX7_putFour_8 (fun v2 v2l v2u v2w => ?_)
  have v2p : v2.toInt = P.1.toInt := by rw [v2w]; exact congrArg Int32.toInt hv.t0
  refine go_sipush (pc := 11) (v := 500) (by decide) dX7_putFour_11 ?_
  refine gf_icmp_ge (pc := 14) (tgt := 46) (ti_rfl v2) (ti_c (v := 500) (a := 500) (by decide)) (by decide) dX7_putFour_14 (fun q3 => False.elim (by omega)) (fun q3 => ?_)
  refine go_aload_n (pc := 17) rfl dX7_putFour_17 ?_
  refine gi_getF (pc := 18) (q := 1) hv fL_X7_9 rfl (Nat.le_of_ble_eq_true rfl) rfl (hv.rf (by decide)) dX7_putFour_18 ?_
  refine go_aload_n (pc := 21) rfl dX7_putFour_21 ?_
  refine gi_get (pc := 22) (lo := 0) (hi := 500) hv fL_X7_13 rfl (Nat.le_of_ble_eq_true rfl) rfl rfl dX7_putFour_22 (fun v4 v4l v4u v4w => ?_)
  have v4p : v4.toInt = P.1.toInt := by rw [v4w]; exact congrArg Int32.toInt hv.t0
  refine go_iload_n (pc := 25) rfl dX7_putFour_25 ?_
  refine go_iload_n (pc := 26) rfl dX7_putFour_26 ?_
  refine gu_iushr (pc := 27) dX7_putFour_27 (fun v5 => ?_)
  refine gu_i2b (pc := 28) dX7_putFour_28 (fun v6 => ?_)
  refine gi_bast (pc := 29) (len := 500) hv (ti_rfl v4) rfl (by omega) (by omega) (fun _ => rfl) (by decide) dX7_putFour_29 (fun h7 hv7 hv7e => ?_)
  refine go_aload_n (pc := 30) rfl dX7_putFour_30 ?_
  refine go_dup (pc := 31) rfl dX7_putFour_31 ?_
  refine gi_get (pc := 32) (lo := 0) (hi := 500) hv7 fL_X7_13 rfl (Nat.le_of_ble_eq_true rfl) rfl rfl dX7_putFour_32 (fun v8 v8l v8u v8w => ?_)
  have v8p : v8.toInt = P.1.toInt := by rw [v8w]; exact congrArg Int32.toInt hv7.t0
  refine go_iconst (pc := 35) (v := 1) (by decide) dX7_putFour_35 ?_
  refine gf_iadd (pc := 36) (ti_rfl v8) (ti_c (v := 1) (a := 1) (by decide)) (by omega) (by omega) dX7_putFour_36 (fun v9 e10 => ?_)
  refine gi_put0 (pc := 37) hv7 e10 (fP_X7_13 _) (by omega) (by omega) dX7_putFour_37 (fun h11 hv11 hv11e => ?_)
  have z12 : v9.toInt = (v8.toInt + 1) := e10
  refine gf_iinc (pc := 40) (Nat.le_of_ble_eq_true rfl) rfl (ti_c (v := 24) (a := 24) (by decide)) (ti_c (by decide)) (by omega) (by omega) dX7_putFour_40 (fun v13 e14 => ?_)
  refine go_lv (lv2 := [(0, .ref 0), (1, .int a2), (2, .int v13)]) rfl ?_
  refine go_goto (pc := 43) (tgt := 3) (by decide) dX7_putFour_43 ?_
  refine go_iload_n (pc := 3) rfl dX7_putFour_3 ?_
  refine gf_if_lt (pc := 4) (tgt := 46) e14 (by decide) dX7_putFour_4 (fun q15 => False.elim (by omega)) (fun q15 => ?_)
  refine go_aload_n (pc := 7) rfl dX7_putFour_7 ?_
  refine gi_get (pc := 8) (lo := 0) (hi := 500) hv11 fL_X7_13 rfl (Nat.le_of_ble_eq_true rfl) rfl rfl dX7_putFour_8 (fun v16 v16l v16u v16w => ?_)
  have v16p : v16.toInt = v9.toInt := by rw [v16w]; exact congrArg Int32.toInt hv11.t0
  refine go_sipush (pc := 11) (v := 500) (by decide) dX7_putFour_11 ?_
  refine gf_icmp_ge (pc := 14) (tgt := 46) (ti_rfl v16) (ti_c (v := 500) (a := 500) (by decide)) (by decide) dX7_putFour_14 (fun q17 => False.elim (by omega)) (fun q17 => ?_)
  refine go_aload_n (pc := 17) rfl dX7_putFour_17 ?_
  refine gi_getF (pc := 18) (q := 1) hv11 fL_X7_9 rfl (Nat.le_of_ble_eq_true rfl) rfl (hv11.rf (by decide)) dX7_putFour_18 ?_
  refine go_aload_n (pc := 21) rfl dX7_putFour_21 ?_
  refine gi_get (pc := 22) (lo := 0) (hi := 500) hv11 fL_X7_13 rfl (Nat.le_of_ble_eq_true rfl) rfl rfl dX7_putFour_22 (fun v18 v18l v18u v18w => ?_)
  have v18p : v18.toInt = v9.toInt := by rw [v18w]; exact congrArg Int32.toInt hv11.t0
  refine go_iload_n (pc := 25) rfl dX7_putFour_25 ?_
  refine go_iload_n (pc := 26) rfl dX7_putFour_26 ?_
  refine gu_iushr (pc := 27) dX7_putFour_27 (fun v19 => ?_)
  refine gu_i2b (pc := 28) dX7_putFour_28 (fun v20 => ?_)
  refine gi_bast (pc := 29) (len := 500) hv11 (ti_rfl v18) rfl (by omega) (by omega) (fun _ => rfl) (by decide) dX7_putFour_29 (fun h21 hv21 hv21e => ?_)
  refine go_aload_n (pc := 30) rfl dX7_putFour_30 ?_
  refine go_dup (pc := 31) rfl dX7_putFour_31 ?_
  refine gi_get (pc := 32) (lo := 0) (hi := 500) hv21 fL_X7_13 rfl (Nat.le_of_ble_eq_true rfl) rfl rfl dX7_putFour_32 (fun v22 v22l v22u v22w => ?_)
  have v22p : v22.toInt = v9.toInt := by rw [v22w]; exact congrArg Int32.toInt hv21.t0
  refine go_iconst (pc := 35) (v := 1) (by decide) dX7_putFour_35 ?_
  refine gf_iadd (pc := 36) (ti_rfl v22) (ti_c (v := 1) (a := 1) (by decide)) (by omega) (by omega) dX7_putFour_36 (fun v23 e24 => ?_)
  refine gi_put0 (pc := 37) hv21 e24 (fP_X7_13 _) (by omega) (by omega) dX7_putFour_37 (fun h25 hv25 hv25e => ?_)
  have z26 : v23.toInt = (v22.toInt + 1) := e24
  refine gf_iinc (pc := 40) (Nat.le_of_ble_eq_true rfl) rfl e14 (ti_c (by decide)) (by omega) (by omega) dX7_putFour_40 (fun v27 e28 => ?_)
  refine go_lv (lv2 := [(0, .ref 0), (1, .int a2), (2, .int v27)]) rfl ?_
  refine go_goto (pc := 43) (tgt := 3) (by decide) dX7_putFour_43 ?_
  refine go_iload_n (pc := 3) rfl dX7_putFour_3 ?_
  refine gf_if_lt (pc := 4) (tgt := 46) e28 (by decide) dX7_putFour_4 (fun q29 => False.elim (by omega)) (fun q29 => ?_)
  refine go_aload_n (pc := 7) rfl dX7_putFour_7 ?_
  refine gi_get (pc := 8) (lo := 0) (hi := 500) hv25 fL_X7_13 rfl (Nat.le_of_ble_eq_true rfl) rfl rfl dX7_putFour_8 (fun v30 v30l v30u v30w => ?_)
  have v30p : v30.toInt = v23.toInt := by rw [v30w]; exact congrArg Int32.toInt hv25.t0
  refine go_sipush (pc := 11) (v := 500) (by decide) dX7_putFour_11 ?_
  refine gf_icmp_ge (pc := 14) (tgt := 46) (ti_rfl v30) (ti_c (v := 500) (a := 500) (by decide)) (by decide) dX7_putFour_14 (fun q31 => False.elim (by omega)) (fun q31 => ?_)
  refine go_aload_n (pc := 17) rfl dX7_putFour_17 ?_
  refine gi_getF (pc := 18) (q := 1) hv25 fL_X7_9 rfl (Nat.le_of_ble_eq_true rfl) rfl (hv25.rf (by decide)) dX7_putFour_18 ?_
  refine go_aload_n (pc := 21) rfl dX7_putFour_21 ?_
  refine gi_get (pc := 22) (lo := 0) (hi := 500) hv25 fL_X7_13 rfl (Nat.le_of_ble_eq_true rfl) rfl rfl dX7_putFour_22 (fun v32 v32l v32u v32w => ?_)
  have v32p : v32.toInt = v23.toInt := by rw [v32w]; exact congrArg Int32.toInt hv25.t0
  refine go_iload_n (pc := 25) rfl dX7_putFour_25 ?_
  refine go_iload_n (pc := 26) rfl dX7_putFour_26 ?_
  refine gu_iushr (pc := 27) dX7_putFour_27 (fun v33 => ?_)
  refine gu_i2b (pc := 28) dX7_putFour_28 (fun v34 => ?_)
  refine gi_bast (pc := 29) (len := 500) hv25 (ti_rfl v32) rfl (by omega) (by omega) (fun _ => rfl) (by decide) dX7_putFour_29 (fun h35 hv35 hv35e => ?_)
  refine go_aload_n (pc := 30) rfl dX7_putFour_30 ?_
  refine go_dup (pc := 31) rfl dX7_putFour_31 ?_
  refine gi_get (pc := 32) (lo := 0) (hi := 500) hv35 fL_X7_13 rfl (Nat.le_of_ble_eq_true rfl) rfl rfl dX7_putFour_32 (fun v36 v36l v36u v36w => ?_)
  have v36p : v36.toInt = v23.toInt := by rw [v36w]; exact congrArg Int32.toInt hv35.t0
  refine go_iconst (pc := 35) (v := 1) (by decide) dX7_putFour_35 ?_
  refine gf_iadd (pc := 36) (ti_rfl v36) (ti_c (v := 1) (a := 1) (by decide)) (by omega) (by omega) dX7_putFour_36 (fun v37 e38 => ?_)
  refine gi_put0 (pc := 37) hv35 e38 (fP_X7_13 _) (by omega) (by omega) dX7_putFour_37 (fun h39 hv39 hv39e => ?_)
  have z40 : v37.toInt = (v36.toInt + 1) := e38
  refine gf_iinc (pc := 40) (Nat.le_of_ble_eq_true rfl) rfl e28 (ti_c (by decide)) (by omega) (by omega) dX7_putFour_40 (fun v41 e42 => ?_)
  refine go_lv (lv2 := [(0, .ref 0), (1, .int a2), (2, .int v41)]) rfl ?_
  refine go_goto (pc := 43) (tgt := 3) (by decide) dX7_putFour_43 ?_
  refine go_iload_n (pc := 3) rfl dX7_putFour_3 ?_
  refine gf_if_lt (pc := 4) (tgt := 46) e42 (by decide) dX7_putFour_4 (fun q43 => False.elim (by omega)) (fun q43 => ?_)
  refine go_aload_n (pc := 7) rfl dX7_putFour_7 ?_
  refine gi_get (pc := 8) (lo := 0) (hi := 500) hv39 fL_X7_13 rfl (Nat.le_of_ble_eq_true rfl) rfl rfl dX7_putFour_8 (fun v44 v44l v44u v44w => ?_)
  have v44p : v44.toInt = v37.toInt := by rw [v44w]; exact congrArg Int32.toInt hv39.t0
  refine go_sipush (pc := 11) (v := 500) (by decide) dX7_putFour_11 ?_
  refine gf_icmp_ge (pc := 14) (tgt := 46) (ti_rfl v44) (ti_c (v := 500) (a := 500) (by decide)) (by decide) dX7_putFour_14 (fun q45 => False.elim (by omega)) (fun q45 => ?_)
  refine go_aload_n (pc := 17) rfl dX7_putFour_17 ?_
  refine gi_getF (pc := 18) (q := 1) hv39 fL_X7_9 rfl (Nat.le_of_ble_eq_true rfl) rfl (hv39.rf (by decide)) dX7_putFour_18 ?_
  refine go_aload_n (pc := 21) rfl dX7_putFour_21 ?_
  refine gi_get (pc := 22) (lo := 0) (hi := 500) hv39 fL_X7_13 rfl (Nat.le_of_ble_eq_true rfl) rfl rfl dX7_putFour_22 (fun v46 v46l v46u v46w => ?_)
  have v46p : v46.toInt = v37.toInt := by rw [v46w]; exact congrArg Int32.toInt hv39.t0
  refine go_iload_n (pc := 25) rfl dX7_putFour_25 ?_
  refine go_iload_n (pc := 26) rfl dX7_putFour_26 ?_
  refine gu_iushr (pc := 27) dX7_putFour_27 (fun v47 => ?_)
  refine gu_i2b (pc := 28) dX7_putFour_28 (fun v48 => ?_)
  refine gi_bast (pc := 29) (len := 500) hv39 (ti_rfl v46) rfl (by omega) (by omega) (fun _ => rfl) (by decide) dX7_putFour_29 (fun h49 hv49 hv49e => ?_)
  refine go_aload_n (pc := 30) rfl dX7_putFour_30 ?_
  refine go_dup (pc := 31) rfl dX7_putFour_31 ?_
  refine gi_get (pc := 32) (lo := 0) (hi := 500) hv49 fL_X7_13 rfl (Nat.le_of_ble_eq_true rfl) rfl rfl dX7_putFour_32 (fun v50 v50l v50u v50w => ?_)
  have v50p : v50.toInt = v37.toInt := by rw [v50w]; exact congrArg Int32.toInt hv49.t0
  refine go_iconst (pc := 35) (v := 1) (by decide) dX7_putFour_35 ?_
  refine gf_iadd (pc := 36) (ti_rfl v50) (ti_c (v := 1) (a := 1) (by decide)) (by omega) (by omega) dX7_putFour_36 (fun v51 e52 => ?_)
  refine gi_put0 (pc := 37) hv49 e52 (fP_X7_13 _) (by omega) (by omega) dX7_putFour_37 (fun h53 hv53 hv53e => ?_)
  have z54 : v51.toInt = (v50.toInt + 1) := e52
  refine gf_iinc (pc := 40) (Nat.le_of_ble_eq_true rfl) rfl e42 (ti_c (by decide)) (by omega) (by omega) dX7_putFour_40 (fun v55 e56 => ?_)
  refine go_lv (lv2 := [(0, .ref 0), (1, .int a2), (2, .int v55)]) rfl ?_
  refine go_goto (pc := 43) (tgt := 3) (by decide) dX7_putFour_43 ?_
  refine go_iload_n (pc := 3) rfl dX7_putFour_3 ?_
  refine gf_if_lt (pc := 4) (tgt := 46) e56 (by decide) dX7_putFour_4 (fun q57 => ?_) (fun q57 => False.elim (by omega))
  exact gi_vret (pc := 46) ⟨rfl, ⟨(v51, (v37, (v23, (v9, P.2.1, P.2.2.1, P.2.2.2).2.1, (v9, P.2.1, P.2.2.1, P.2.2.2).2.2.1, (v9, P.2.1, P.2.2.1, P.2.2.2).2.2.2).2.1, (v23, (v9, P.2.1, P.2.2.1, P.2.2.2).2.1, (v9, P.2.1, P.2.2.1, P.2.2.2).2.2.1, (v9, P.2.1, P.2.2.1, P.2.2.2).2.2.2).2.2.1, (v23, (v9, P.2.1, P.2.2.1, P.2.2.2).2.1, (v9, P.2.1, P.2.2.1, P.2.2.2).2.2.1, (v9, P.2.1, P.2.2.1, P.2.2.2).2.2.2).2.2.2).2.1, (v37, (v23, (v9, P.2.1, P.2.2.1, P.2.2.2).2.1, (v9, P.2.1, P.2.2.1, P.2.2.2).2.2.1, (v9, P.2.1, P.2.2.1, P.2.2.2).2.2.2).2.1, (v23, (v9, P.2.1, P.2.2.1, P.2.2.2).2.1, (v9, P.2.1, P.2.2.1, P.2.2.2).2.2.1, (v9, P.2.1, P.2.2.1, P.2.2.2).2.2.2).2.2.1, (v23, (v9, P.2.1, P.2.2.1, P.2.2.2).2.1, (v9, P.2.1, P.2.2.1, P.2.2.2).2.2.1, (v9, P.2.1, P.2.2.1, P.2.2.2).2.2.2).2.2.2).2.2.1, (v37, (v23, (v9, P.2.1, P.2.2.1, P.2.2.2).2.1, (v9, P.2.1, P.2.2.1, P.2.2.2).2.2.1, (v9, P.2.1, P.2.2.1, P.2.2.2).2.2.2).2.1, (v23, (v9, P.2.1, P.2.2.1, P.2.2.2).2.1, (v9, P.2.1, P.2.2.1, P.2.2.2).2.2.1, (v9, P.2.1, P.2.2.1, P.2.2.2).2.2.2).2.2.1, (v23, (v9, P.2.1, P.2.2.1, P.2.2.2).2.1, (v9, P.2.1, P.2.2.1, P.2.2.2).2.2.1, (v9, P.2.1, P.2.2.1, P.2.2.2).2.2.2).2.2.2).2.2.2), hv53, (by show v51.toInt = P.1.toInt + 4; omega), rfl⟩⟩ hv53 dX7_putFour_46
set_option maxHeartbeats 4000000 in
set_option maxRecDepth 100000 in
theorem s_X7_feed (l : Launch) (d : Nat) {P : PP} {h : HP} (hv : Iv P h) (a2 : Int32) (a3 : Int32) (a4 : Int32) (a5 : Int32) (a6 : Int32) : Mt l yX7_feed cX7_feed 6 (some .int) (d + 2) [.ref 0, .int a2, .int a3, .int a4, .int a5, .int a6] h 0 0 (fun r h' => ∃ v : Int32, r = some (.int v) ∧ -2147483648 ≤ v.toInt ∧ v.toInt ≤ 2147483647 ∧ (∃ Q : PP, Iv Q h' ∧ ((P.1.toInt ≤ 480 → v.toInt = P.1.toInt + 20 ∧ Q.1.toInt = P.1.toInt + 20) ∧ (480 < P.1.toInt → v.toInt = -1 ∧ Q.1.toInt = P.1.toInt)) ∧ Q.2 = P.2)) := by
  refine Mt_iv hv (by decide) (Nat.le_of_ble_eq_true rfl) ?_
  show Go l RX7 cX7_feed 6 (g_rm (d + 2) 0 0) "feed" (some .int) 117 0 0 (fun _ _ => True) (fun r h' => ∃ v : Int32, r = some (.int v) ∧ -2147483648 ≤ v.toInt ∧ v.toInt ≤ 2147483647 ∧ (∃ Q : PP, Iv Q h' ∧ ((P.1.toInt ≤ 480 → v.toInt = P.1.toInt + 20 ∧ Q.1.toInt = P.1.toInt + 20) ∧ (480 < P.1.toInt → v.toInt = -1 ∧ Q.1.toInt = P.1.toInt)) ∧ Q.2 = P.2)) 0 0 [(0, .ref 0), (1, .int a2), (2, .int a3), (3, .int a4), (4, .int a5), (5, .int a6)] [] h
  refine go_aload_n (pc := 0) rfl dX7_feed_0 ?_
  refine gi_get (pc := 1) (lo := 0) (hi := 500) hv fL_X7_13 rfl (Nat.le_of_ble_eq_true rfl) rfl rfl dX7_feed_1 (fun v1 v1l v1u v1w => ?_)
  have v1p : v1.toInt = P.1.toInt := by rw [v1w]; exact congrArg Int32.toInt hv.t0
  refine go_bipush (pc := 4) (v := 20) (by decide) dX7_feed_4 ?_
  refine gf_iadd (pc := 6) (ti_rfl v1) (ti_c (v := 20) (a := 20) (by decide)) (by omega) (by omega) dX7_feed_6 (fun v2 e3 => ?_)
  refine go_sipush (pc := 7) (v := 500) (by decide) dX7_feed_7 ?_
  refine gf_icmp_le (pc := 10) (tgt := 15) e3 (ti_c (v := 500) (a := 500) (by decide)) (by decide) dX7_feed_10 (fun q4 => ?_) (fun q4 => ?_)
  ·
    refine go_aload_n (pc := 15) rfl dX7_feed_15 ?_
    refine go_iload_n (pc := 16) rfl dX7_feed_16 ?_
    refine go_invV (pc := 17) (sl := 0) (s_X7_putFour l (d + 0) hv a2 (by show P.1.toInt ≤ 496; omega)) mL_X7_53 iM_X7_putFour sM_X7_putFour (hv.sh rfl) rfl rfl rfl (Nat.le_of_ble_eq_true rfl) (show d + 0 + 1 + 1 ≤ d + 2 by omega) (show 8 + (3 + 11) + 40 * (d + 0 + 1) ≤ 40 * (d + 2) by omega) (g_c0 hv.ln) (Nat.le_of_ble_eq_true rfl) dX7_feed_17 ?_
    intro r h5 hq _
    obtain ⟨rfl, ⟨Q6, hv5, r7, r8⟩⟩ := hq
    have r7 : Q6.1.toInt = P.1.toInt + 4 := r7
    refine go_aload_n (pc := 20) rfl dX7_feed_20 ?_
    refine go_iload_n (pc := 21) rfl dX7_feed_21 ?_
    refine go_invV (pc := 22) (sl := 0) (s_X7_putFour l (d + 0) hv5 a3 (by show Q6.1.toInt ≤ 496; omega)) mL_X7_53 iM_X7_putFour sM_X7_putFour (hv5.sh rfl) rfl rfl rfl (Nat.le_of_ble_eq_true rfl) (show d + 0 + 1 + 1 ≤ d + 2 by omega) (show 8 + (3 + 11) + 40 * (d + 0 + 1) ≤ 40 * (d + 2) by omega) (g_c0 hv5.ln) (Nat.le_of_ble_eq_true rfl) dX7_feed_22 ?_
    intro r h9 hq _
    obtain ⟨rfl, ⟨Q10, hv9, r11, r12⟩⟩ := hq
    have r11 : Q10.1.toInt = Q6.1.toInt + 4 := r11
    refine go_aload_n (pc := 25) rfl dX7_feed_25 ?_
    refine go_iload_n (pc := 26) rfl dX7_feed_26 ?_
    refine go_invV (pc := 27) (sl := 0) (s_X7_putFour l (d + 0) hv9 a4 (by show Q10.1.toInt ≤ 496; omega)) mL_X7_53 iM_X7_putFour sM_X7_putFour (hv9.sh rfl) rfl rfl rfl (Nat.le_of_ble_eq_true rfl) (show d + 0 + 1 + 1 ≤ d + 2 by omega) (show 8 + (3 + 11) + 40 * (d + 0 + 1) ≤ 40 * (d + 2) by omega) (g_c0 hv9.ln) (Nat.le_of_ble_eq_true rfl) dX7_feed_27 ?_
    intro r h13 hq _
    obtain ⟨rfl, ⟨Q14, hv13, r15, r16⟩⟩ := hq
    have r15 : Q14.1.toInt = Q10.1.toInt + 4 := r15
    refine go_aload_n (pc := 30) rfl dX7_feed_30 ?_
    refine go_iload (pc := 31) rfl dX7_feed_31 ?_
    refine go_invV (pc := 33) (sl := 0) (s_X7_putFour l (d + 0) hv13 a5 (by show Q14.1.toInt ≤ 496; omega)) mL_X7_53 iM_X7_putFour sM_X7_putFour (hv13.sh rfl) rfl rfl rfl (Nat.le_of_ble_eq_true rfl) (show d + 0 + 1 + 1 ≤ d + 2 by omega) (show 8 + (3 + 11) + 40 * (d + 0 + 1) ≤ 40 * (d + 2) by omega) (g_c0 hv13.ln) (Nat.le_of_ble_eq_true rfl) dX7_feed_33 ?_
    intro r h17 hq _
    obtain ⟨rfl, ⟨Q18, hv17, r19, r20⟩⟩ := hq
    have r19 : Q18.1.toInt = Q14.1.toInt + 4 := r19
    refine go_aload_n (pc := 36) rfl dX7_feed_36 ?_
    refine go_iload (pc := 37) rfl dX7_feed_37 ?_
    refine go_invV (pc := 39) (sl := 0) (s_X7_putFour l (d + 0) hv17 a6 (by show Q18.1.toInt ≤ 496; omega)) mL_X7_53 iM_X7_putFour sM_X7_putFour (hv17.sh rfl) rfl rfl rfl (Nat.le_of_ble_eq_true rfl) (show d + 0 + 1 + 1 ≤ d + 2 by omega) (show 8 + (3 + 11) + 40 * (d + 0 + 1) ≤ 40 * (d + 2) by omega) (g_c0 hv17.ln) (Nat.le_of_ble_eq_true rfl) dX7_feed_39 ?_
    intro r h21 hq _
    obtain ⟨rfl, ⟨Q22, hv21, r23, r24⟩⟩ := hq
    have r23 : Q22.1.toInt = Q18.1.toInt + 4 := r23
    refine go_aload_n (pc := 42) rfl dX7_feed_42 ?_
    refine gi_get (pc := 43) (lo := 0) (hi := 500) hv21 fL_X7_13 rfl (Nat.le_of_ble_eq_true rfl) rfl rfl dX7_feed_43 (fun v25 v25l v25u v25w => ?_)
    have v25p : v25.toInt = Q22.1.toInt := by rw [v25w]; exact congrArg Int32.toInt hv21.t0
    exact gi_iret (pc := 46) (ti_rfl v25) ⟨_, rfl, (ti_lo _), (ti_hi _), ⟨Q22, hv21, (by show (P.1.toInt ≤ 480 → (v25 : Int32).toInt = P.1.toInt + 20 ∧ Q22.1.toInt = P.1.toInt + 20) ∧ (480 < P.1.toInt → (v25 : Int32).toInt = -1 ∧ Q22.1.toInt = P.1.toInt); omega), (by first | rfl | (simp only [r24, r20, r16, r12, r8]))⟩⟩ hv21 dX7_feed_46
  ·
    refine go_iconst (pc := 13) (v := (-1)) (by decide) dX7_feed_13 ?_
    have z26 : ((-1) : Int32).toInt = (-1) := (ti_c (v := (-1)) (a := (-1)) (by decide))
    exact gi_iret (pc := 14) (ti_c (v := (-1)) (a := (-1)) (by decide)) ⟨_, rfl, (ti_lo _), (ti_hi _), ⟨P, hv, (by show (P.1.toInt ≤ 480 → ((-1) : Int32).toInt = P.1.toInt + 20 ∧ P.1.toInt = P.1.toInt + 20) ∧ (480 < P.1.toInt → ((-1) : Int32).toInt = -1 ∧ P.1.toInt = P.1.toInt); omega), (by first | rfl | (simp only [r24, r20, r16, r12, r8]))⟩⟩ hv dX7_feed_14
set_option maxHeartbeats 4000000 in
set_option maxRecDepth 100000 in
theorem s_X7_end (l : Launch) (d : Nat) {P : PP} {h : HP} (hv : Iv P h) (a2 : Int32) : Mt l yX7_end cX7_end 2 (some .boolean) (d + 1) [.ref 0, .int a2] h 0 0 (fun r h' => ∃ v : Int32, r = some (.int v) ∧ 0 ≤ v.toInt ∧ v.toInt ≤ 1 ∧ (∃ Q : PP, Iv Q h' ∧ ((0 ≤ a2.toInt ∧ a2.toInt ≤ P.1.toInt → v.toInt = 1 ∧ Q.1.toInt = a2.toInt) ∧ (¬ (0 ≤ a2.toInt ∧ a2.toInt ≤ P.1.toInt) → v.toInt = 0 ∧ Q.1.toInt = P.1.toInt)) ∧ Q.2 = P.2)) := by
  refine Mt_iv hv (by decide) (Nat.le_of_ble_eq_true rfl) ?_
  show Go l RX7 cX7_end 2 (g_rm (d + 1) 0 0) "end" (some .boolean) 117 0 0 (fun _ _ => True) (fun r h' => ∃ v : Int32, r = some (.int v) ∧ 0 ≤ v.toInt ∧ v.toInt ≤ 1 ∧ (∃ Q : PP, Iv Q h' ∧ ((0 ≤ a2.toInt ∧ a2.toInt ≤ P.1.toInt → v.toInt = 1 ∧ Q.1.toInt = a2.toInt) ∧ (¬ (0 ≤ a2.toInt ∧ a2.toInt ≤ P.1.toInt) → v.toInt = 0 ∧ Q.1.toInt = P.1.toInt)) ∧ Q.2 = P.2)) 0 0 [(0, .ref 0), (1, .int a2)] [] h
  refine go_iload_n (pc := 0) rfl dX7_end_0 ?_
  refine gf_if_lt (pc := 1) (tgt := 12) (ti_rfl a2) (by decide) dX7_end_1 (fun q1 => ?_) (fun q1 => ?_)
  ·
    refine go_iconst (pc := 12) (v := 0) (by decide) dX7_end_12 ?_
    have z2 : (0 : Int32).toInt = 0 := (ti_c (v := 0) (a := 0) (by decide))
    exact gi_zret (pc := 13) (ti_c (v := 0) (a := 0) (by decide)) (by omega) (by omega) ⟨_, rfl, (by rw [show (0 : Int32).toInt = 0 from (ti_c (v := 0) (a := 0) (by decide))]; omega), (by rw [show (0 : Int32).toInt = 0 from (ti_c (v := 0) (a := 0) (by decide))]; omega), ⟨P, hv, (by show (0 ≤ a2.toInt ∧ a2.toInt ≤ P.1.toInt → (0 : Int32).toInt = 1 ∧ P.1.toInt = a2.toInt) ∧ (¬ (0 ≤ a2.toInt ∧ a2.toInt ≤ P.1.toInt) → (0 : Int32).toInt = 0 ∧ P.1.toInt = P.1.toInt); omega), rfl⟩⟩ hv dX7_end_13
  ·
    refine go_iload_n (pc := 4) rfl dX7_end_4 ?_
    refine go_aload_n (pc := 5) rfl dX7_end_5 ?_
    refine gi_get (pc := 6) (lo := 0) (hi := 500) hv fL_X7_13 rfl (Nat.le_of_ble_eq_true rfl) rfl rfl dX7_end_6 (fun v3 v3l v3u v3w => ?_)
    have v3p : v3.toInt = P.1.toInt := by rw [v3w]; exact congrArg Int32.toInt hv.t0
    refine gf_icmp_le (pc := 9) (tgt := 14) (ti_rfl a2) (ti_rfl v3) (by decide) dX7_end_9 (fun q4 => ?_) (fun q4 => ?_)
    ·
      refine go_aload_n (pc := 14) rfl dX7_end_14 ?_
      refine go_iload_n (pc := 15) rfl dX7_end_15 ?_
      refine gi_put0 (pc := 16) hv (ti_rfl a2) (fP_X7_13 _) (by omega) (by omega) dX7_end_16 (fun h5 hv5 hv5e => ?_)
      refine go_iconst (pc := 19) (v := 1) (by decide) dX7_end_19 ?_
      have z6 : (1 : Int32).toInt = 1 := (ti_c (v := 1) (a := 1) (by decide))
      exact gi_zret (pc := 20) (ti_c (v := 1) (a := 1) (by decide)) (by omega) (by omega) ⟨_, rfl, (by rw [show (1 : Int32).toInt = 1 from (ti_c (v := 1) (a := 1) (by decide))]; omega), (by rw [show (1 : Int32).toInt = 1 from (ti_c (v := 1) (a := 1) (by decide))]; omega), ⟨(a2, P.2.1, P.2.2.1, P.2.2.2), hv5, (by show (0 ≤ a2.toInt ∧ a2.toInt ≤ P.1.toInt → (1 : Int32).toInt = 1 ∧ a2.toInt = a2.toInt) ∧ (¬ (0 ≤ a2.toInt ∧ a2.toInt ≤ P.1.toInt) → (1 : Int32).toInt = 0 ∧ a2.toInt = P.1.toInt); omega), rfl⟩⟩ hv5 dX7_end_20
    ·
      refine go_iconst (pc := 12) (v := 0) (by decide) dX7_end_12 ?_
      have z7 : (0 : Int32).toInt = 0 := (ti_c (v := 0) (a := 0) (by decide))
      exact gi_zret (pc := 13) (ti_c (v := 0) (a := 0) (by decide)) (by omega) (by omega) ⟨_, rfl, (by rw [show (0 : Int32).toInt = 0 from (ti_c (v := 0) (a := 0) (by decide))]; omega), (by rw [show (0 : Int32).toInt = 0 from (ti_c (v := 0) (a := 0) (by decide))]; omega), ⟨P, hv, (by show (0 ≤ a2.toInt ∧ a2.toInt ≤ P.1.toInt → (0 : Int32).toInt = 1 ∧ P.1.toInt = a2.toInt) ∧ (¬ (0 ≤ a2.toInt ∧ a2.toInt ≤ P.1.toInt) → (0 : Int32).toInt = 0 ∧ P.1.toInt = P.1.toInt); omega), rfl⟩⟩ hv dX7_end_13
set_option maxHeartbeats 4000000 in
set_option maxRecDepth 100000 in
theorem s_X8_put (l : Launch) (d : Nat) {P : PP} {h : HP} (hv : Iv P h) (a2 : Int32) (hp : P.2.1.toInt ≤ 496) : Mt l yX8_put cX8_put 3 none (d + 1) [.ref 70, .int a2] h 0 0 (fun r h' => r = none ∧ (∃ Q : PP, Iv Q h' ∧ (Q.2.1.toInt = P.2.1.toInt + 4) ∧ Q.1 = P.1 ∧ Q.2.2 = P.2.2)) := by
  refine Mt_iv hv (by decide) (Nat.le_of_ble_eq_true rfl) ?_
  show Go l RX8 cX8_put 3 (g_rm (d + 1) 0 0) "put" none 117 0 0 (fun _ _ => True) (fun r h' => r = none ∧ (∃ Q : PP, Iv Q h' ∧ (Q.2.1.toInt = P.2.1.toInt + 4) ∧ Q.1 = P.1 ∧ Q.2.2 = P.2.2)) 0 0 [(0, .ref 70), (1, .int a2)] [] h
  refine go_bipush (pc := 0) (v := 24) (by decide) dX8_put_0 ?_
  refine go_istore_n (pc := 2) (Nat.le_of_ble_eq_true rfl) dX8_put_2 (go_lv (lv2 := [(0, .ref 70), (1, .int a2), (2, .int 24)]) rfl ?_)
  refine go_iload_n (pc := 3) rfl dX8_put_3 ?_
  refine gf_if_lt (pc := 4) (tgt := 36) (ti_c (v := 24) (a := 24) (by decide)) (by decide) dX8_put_4 (fun q1 => False.elim (by omega)) (fun q1 => ?_)
  refine go_aload_n (pc := 7) rfl dX8_put_7 ?_
  refine gi_getF (pc := 8) (q := 71) hv fL_X8_7 rfl (Nat.le_of_ble_eq_true rfl) rfl (hv.rf (by decide)) dX8_put_8 ?_
  refine go_aload_n (pc := 11) rfl dX8_put_11 ?_
  refine gi_get (pc := 12) (lo := 0) (hi := 500) hv fL_X8_151 rfl (Nat.le_of_ble_eq_true rfl) rfl rfl dX8_put_12 (fun v2 v2l v2u v2w => ?_)
  have v2p : v2.toInt = P.2.1.toInt := by rw [v2w]; exact congrArg Int32.toInt hv.t1
  refine go_iload_n (pc := 15) rfl dX8_put_15 ?_
  refine go_iload_n (pc := 16) rfl dX8_put_16 ?_
  refine gu_ishr (pc := 17) dX8_put_17 (fun v3 => ?_)
  refine gu_i2b (pc := 18) dX8_put_18 (fun v4 => ?_)
  refine gi_bast (pc := 19) (len := 500) hv (ti_rfl v2) rfl (by omega) (by omega) (fun _ => rfl) (by decide) dX8_put_19 (fun h5 hv5 hv5e => ?_)
  refine go_aload_n (pc := 20) rfl dX8_put_20 ?_
  refine go_dup (pc := 21) rfl dX8_put_21 ?_
  refine gi_get (pc := 22) (lo := 0) (hi := 500) hv5 fL_X8_151 rfl (Nat.le_of_ble_eq_true rfl) rfl rfl dX8_put_22 (fun v6 v6l v6u v6w => ?_)
  have v6p : v6.toInt = P.2.1.toInt := by rw [v6w]; exact congrArg Int32.toInt hv5.t1
  refine go_iconst (pc := 25) (v := 1) (by decide) dX8_put_25 ?_
  refine gf_iadd (pc := 26) (ti_rfl v6) (ti_c (v := 1) (a := 1) (by decide)) (by omega) (by omega) dX8_put_26 (fun v7 e8 => ?_)
  refine gi_put1 (pc := 27) hv5 e8 (fP_X8_151 _) (by omega) (by omega) dX8_put_27 (fun h9 hv9 hv9e => ?_)
  have z10 : v7.toInt = (v6.toInt + 1) := e8
  refine gf_iinc (pc := 30) (Nat.le_of_ble_eq_true rfl) rfl (ti_c (v := 24) (a := 24) (by decide)) (ti_c (by decide)) (by omega) (by omega) dX8_put_30 (fun v11 e12 => ?_)
  refine go_lv (lv2 := [(0, .ref 70), (1, .int a2), (2, .int v11)]) rfl ?_
  refine go_goto (pc := 33) (tgt := 3) (by decide) dX8_put_33 ?_
  refine go_iload_n (pc := 3) rfl dX8_put_3 ?_
  refine gf_if_lt (pc := 4) (tgt := 36) e12 (by decide) dX8_put_4 (fun q13 => False.elim (by omega)) (fun q13 => ?_)
  refine go_aload_n (pc := 7) rfl dX8_put_7 ?_
  refine gi_getF (pc := 8) (q := 71) hv9 fL_X8_7 rfl (Nat.le_of_ble_eq_true rfl) rfl (hv9.rf (by decide)) dX8_put_8 ?_
  refine go_aload_n (pc := 11) rfl dX8_put_11 ?_
  refine gi_get (pc := 12) (lo := 0) (hi := 500) hv9 fL_X8_151 rfl (Nat.le_of_ble_eq_true rfl) rfl rfl dX8_put_12 (fun v14 v14l v14u v14w => ?_)
  have v14p : v14.toInt = v7.toInt := by rw [v14w]; exact congrArg Int32.toInt hv9.t1
  refine go_iload_n (pc := 15) rfl dX8_put_15 ?_
  refine go_iload_n (pc := 16) rfl dX8_put_16 ?_
  refine gu_ishr (pc := 17) dX8_put_17 (fun v15 => ?_)
  refine gu_i2b (pc := 18) dX8_put_18 (fun v16 => ?_)
  refine gi_bast (pc := 19) (len := 500) hv9 (ti_rfl v14) rfl (by omega) (by omega) (fun _ => rfl) (by decide) dX8_put_19 (fun h17 hv17 hv17e => ?_)
  refine go_aload_n (pc := 20) rfl dX8_put_20 ?_
  refine go_dup (pc := 21) rfl dX8_put_21 ?_
  refine gi_get (pc := 22) (lo := 0) (hi := 500) hv17 fL_X8_151 rfl (Nat.le_of_ble_eq_true rfl) rfl rfl dX8_put_22 (fun v18 v18l v18u v18w => ?_)
  have v18p : v18.toInt = v7.toInt := by rw [v18w]; exact congrArg Int32.toInt hv17.t1
  refine go_iconst (pc := 25) (v := 1) (by decide) dX8_put_25 ?_
  refine gf_iadd (pc := 26) (ti_rfl v18) (ti_c (v := 1) (a := 1) (by decide)) (by omega) (by omega) dX8_put_26 (fun v19 e20 => ?_)
  refine gi_put1 (pc := 27) hv17 e20 (fP_X8_151 _) (by omega) (by omega) dX8_put_27 (fun h21 hv21 hv21e => ?_)
  have z22 : v19.toInt = (v18.toInt + 1) := e20
  refine gf_iinc (pc := 30) (Nat.le_of_ble_eq_true rfl) rfl e12 (ti_c (by decide)) (by omega) (by omega) dX8_put_30 (fun v23 e24 => ?_)
  refine go_lv (lv2 := [(0, .ref 70), (1, .int a2), (2, .int v23)]) rfl ?_
  refine go_goto (pc := 33) (tgt := 3) (by decide) dX8_put_33 ?_
  refine go_iload_n (pc := 3) rfl dX8_put_3 ?_
  refine gf_if_lt (pc := 4) (tgt := 36) e24 (by decide) dX8_put_4 (fun q25 => False.elim (by omega)) (fun q25 => ?_)
  refine go_aload_n (pc := 7) rfl dX8_put_7 ?_
  refine gi_getF (pc := 8) (q := 71) hv21 fL_X8_7 rfl (Nat.le_of_ble_eq_true rfl) rfl (hv21.rf (by decide)) dX8_put_8 ?_
  refine go_aload_n (pc := 11) rfl dX8_put_11 ?_
  refine gi_get (pc := 12) (lo := 0) (hi := 500) hv21 fL_X8_151 rfl (Nat.le_of_ble_eq_true rfl) rfl rfl dX8_put_12 (fun v26 v26l v26u v26w => ?_)
  have v26p : v26.toInt = v19.toInt := by rw [v26w]; exact congrArg Int32.toInt hv21.t1
  refine go_iload_n (pc := 15) rfl dX8_put_15 ?_
  refine go_iload_n (pc := 16) rfl dX8_put_16 ?_
  refine gu_ishr (pc := 17) dX8_put_17 (fun v27 => ?_)
  refine gu_i2b (pc := 18) dX8_put_18 (fun v28 => ?_)
  refine gi_bast (pc := 19) (len := 500) hv21 (ti_rfl v26) rfl (by omega) (by omega) (fun _ => rfl) (by decide) dX8_put_19 (fun h29 hv29 hv29e => ?_)
  refine go_aload_n (pc := 20) rfl dX8_put_20 ?_
  refine go_dup (pc := 21) rfl dX8_put_21 ?_
  refine gi_get (pc := 22) (lo := 0) (hi := 500) hv29 fL_X8_151 rfl (Nat.le_of_ble_eq_true rfl) rfl rfl dX8_put_22 (fun v30 v30l v30u v30w => ?_)
  have v30p : v30.toInt = v19.toInt := by rw [v30w]; exact congrArg Int32.toInt hv29.t1
  refine go_iconst (pc := 25) (v := 1) (by decide) dX8_put_25 ?_
  refine gf_iadd (pc := 26) (ti_rfl v30) (ti_c (v := 1) (a := 1) (by decide)) (by omega) (by omega) dX8_put_26 (fun v31 e32 => ?_)
  refine gi_put1 (pc := 27) hv29 e32 (fP_X8_151 _) (by omega) (by omega) dX8_put_27 (fun h33 hv33 hv33e => ?_)
  have z34 : v31.toInt = (v30.toInt + 1) := e32
  refine gf_iinc (pc := 30) (Nat.le_of_ble_eq_true rfl) rfl e24 (ti_c (by decide)) (by omega) (by omega) dX8_put_30 (fun v35 e36 => ?_)
  refine go_lv (lv2 := [(0, .ref 70), (1, .int a2), (2, .int v35)]) rfl ?_
  refine go_goto (pc := 33) (tgt := 3) (by decide) dX8_put_33 ?_
  refine go_iload_n (pc := 3) rfl dX8_put_3 ?_
  refine gf_if_lt (pc := 4) (tgt := 36) e36 (by decide) dX8_put_4 (fun q37 => False.elim (by omega)) (fun q37 => ?_)
  refine go_aload_n (pc := 7) rfl dX8_put_7 ?_
  refine gi_getF (pc := 8) (q := 71) hv33 fL_X8_7 rfl (Nat.le_of_ble_eq_true rfl) rfl (hv33.rf (by decide)) dX8_put_8 ?_
  refine go_aload_n (pc := 11) rfl dX8_put_11 ?_
  refine gi_get (pc := 12) (lo := 0) (hi := 500) hv33 fL_X8_151 rfl (Nat.le_of_ble_eq_true rfl) rfl rfl dX8_put_12 (fun v38 v38l v38u v38w => ?_)
  have v38p : v38.toInt = v31.toInt := by rw [v38w]; exact congrArg Int32.toInt hv33.t1
  refine go_iload_n (pc := 15) rfl dX8_put_15 ?_
  refine go_iload_n (pc := 16) rfl dX8_put_16 ?_
  refine gu_ishr (pc := 17) dX8_put_17 (fun v39 => ?_)
  refine gu_i2b (pc := 18) dX8_put_18 (fun v40 => ?_)
  refine gi_bast (pc := 19) (len := 500) hv33 (ti_rfl v38) rfl (by omega) (by omega) (fun _ => rfl) (by decide) dX8_put_19 (fun h41 hv41 hv41e => ?_)
  refine go_aload_n (pc := 20) rfl dX8_put_20 ?_
  refine go_dup (pc := 21) rfl dX8_put_21 ?_
  refine gi_get (pc := 22) (lo := 0) (hi := 500) hv41 fL_X8_151 rfl (Nat.le_of_ble_eq_true rfl) rfl rfl dX8_put_22 (fun v42 v42l v42u v42w => ?_)
  have v42p : v42.toInt = v31.toInt := by rw [v42w]; exact congrArg Int32.toInt hv41.t1
  refine go_iconst (pc := 25) (v := 1) (by decide) dX8_put_25 ?_
  refine gf_iadd (pc := 26) (ti_rfl v42) (ti_c (v := 1) (a := 1) (by decide)) (by omega) (by omega) dX8_put_26 (fun v43 e44 => ?_)
  refine gi_put1 (pc := 27) hv41 e44 (fP_X8_151 _) (by omega) (by omega) dX8_put_27 (fun h45 hv45 hv45e => ?_)
  have z46 : v43.toInt = (v42.toInt + 1) := e44
  refine gf_iinc (pc := 30) (Nat.le_of_ble_eq_true rfl) rfl e36 (ti_c (by decide)) (by omega) (by omega) dX8_put_30 (fun v47 e48 => ?_)
  refine go_lv (lv2 := [(0, .ref 70), (1, .int a2), (2, .int v47)]) rfl ?_
  refine go_goto (pc := 33) (tgt := 3) (by decide) dX8_put_33 ?_
  refine go_iload_n (pc := 3) rfl dX8_put_3 ?_
  refine gf_if_lt (pc := 4) (tgt := 36) e48 (by decide) dX8_put_4 (fun q49 => ?_) (fun q49 => False.elim (by omega))
  exact gi_vret (pc := 36) ⟨rfl, ⟨((((P.1, v7, P.2.2.1, P.2.2.2).1, v19, (P.1, v7, P.2.2.1, P.2.2.2).2.2.1, (P.1, v7, P.2.2.1, P.2.2.2).2.2.2).1, v31, ((P.1, v7, P.2.2.1, P.2.2.2).1, v19, (P.1, v7, P.2.2.1, P.2.2.2).2.2.1, (P.1, v7, P.2.2.1, P.2.2.2).2.2.2).2.2.1, ((P.1, v7, P.2.2.1, P.2.2.2).1, v19, (P.1, v7, P.2.2.1, P.2.2.2).2.2.1, (P.1, v7, P.2.2.1, P.2.2.2).2.2.2).2.2.2).1, v43, (((P.1, v7, P.2.2.1, P.2.2.2).1, v19, (P.1, v7, P.2.2.1, P.2.2.2).2.2.1, (P.1, v7, P.2.2.1, P.2.2.2).2.2.2).1, v31, ((P.1, v7, P.2.2.1, P.2.2.2).1, v19, (P.1, v7, P.2.2.1, P.2.2.2).2.2.1, (P.1, v7, P.2.2.1, P.2.2.2).2.2.2).2.2.1, ((P.1, v7, P.2.2.1, P.2.2.2).1, v19, (P.1, v7, P.2.2.1, P.2.2.2).2.2.1, (P.1, v7, P.2.2.1, P.2.2.2).2.2.2).2.2.2).2.2.1, (((P.1, v7, P.2.2.1, P.2.2.2).1, v19, (P.1, v7, P.2.2.1, P.2.2.2).2.2.1, (P.1, v7, P.2.2.1, P.2.2.2).2.2.2).1, v31, ((P.1, v7, P.2.2.1, P.2.2.2).1, v19, (P.1, v7, P.2.2.1, P.2.2.2).2.2.1, (P.1, v7, P.2.2.1, P.2.2.2).2.2.2).2.2.1, ((P.1, v7, P.2.2.1, P.2.2.2).1, v19, (P.1, v7, P.2.2.1, P.2.2.2).2.2.1, (P.1, v7, P.2.2.1, P.2.2.2).2.2.2).2.2.2).2.2.2), hv45, (by show v43.toInt = P.2.1.toInt + 4; omega), rfl, rfl⟩⟩ hv45 dX8_put_36
set_option maxHeartbeats 4000000 in
set_option maxRecDepth 100000 in
theorem s_X8_feed (l : Launch) (d : Nat) {P : PP} {h : HP} (hv : Iv P h) (a2 : Int32) (a3 : Int32) (a4 : Int32) (a5 : Int32) (a6 : Int32) : Mt l yX8_feed cX8_feed 6 (some .int) (d + 2) [.ref 70, .int a2, .int a3, .int a4, .int a5, .int a6] h 0 0 (fun r h' => ∃ v : Int32, r = some (.int v) ∧ -2147483648 ≤ v.toInt ∧ v.toInt ≤ 2147483647 ∧ (∃ Q : PP, Iv Q h' ∧ ((P.2.1.toInt ≤ 480 → v.toInt = P.2.1.toInt + 20 ∧ Q.2.1.toInt = P.2.1.toInt + 20) ∧ (480 < P.2.1.toInt → v.toInt = -1 ∧ Q.2.1.toInt = P.2.1.toInt)) ∧ Q.1 = P.1 ∧ Q.2.2 = P.2.2)) := by
  refine Mt_iv hv (by decide) (Nat.le_of_ble_eq_true rfl) ?_
  show Go l RX8 cX8_feed 6 (g_rm (d + 2) 0 0) "feed" (some .int) 117 0 0 (fun _ _ => True) (fun r h' => ∃ v : Int32, r = some (.int v) ∧ -2147483648 ≤ v.toInt ∧ v.toInt ≤ 2147483647 ∧ (∃ Q : PP, Iv Q h' ∧ ((P.2.1.toInt ≤ 480 → v.toInt = P.2.1.toInt + 20 ∧ Q.2.1.toInt = P.2.1.toInt + 20) ∧ (480 < P.2.1.toInt → v.toInt = -1 ∧ Q.2.1.toInt = P.2.1.toInt)) ∧ Q.1 = P.1 ∧ Q.2.2 = P.2.2)) 0 0 [(0, .ref 70), (1, .int a2), (2, .int a3), (3, .int a4), (4, .int a5), (5, .int a6)] [] h
  refine go_aload_n (pc := 0) rfl dX8_feed_0 ?_
  refine gi_get (pc := 1) (lo := 0) (hi := 500) hv fL_X8_151 rfl (Nat.le_of_ble_eq_true rfl) rfl rfl dX8_feed_1 (fun v1 v1l v1u v1w => ?_)
  have v1p : v1.toInt = P.2.1.toInt := by rw [v1w]; exact congrArg Int32.toInt hv.t1
  refine go_bipush (pc := 4) (v := 20) (by decide) dX8_feed_4 ?_
  refine gf_iadd (pc := 6) (ti_rfl v1) (ti_c (v := 20) (a := 20) (by decide)) (by omega) (by omega) dX8_feed_6 (fun v2 e3 => ?_)
  refine go_sipush (pc := 7) (v := 500) (by decide) dX8_feed_7 ?_
  refine gf_icmp_le (pc := 10) (tgt := 15) e3 (ti_c (v := 500) (a := 500) (by decide)) (by decide) dX8_feed_10 (fun q4 => ?_) (fun q4 => ?_)
  ·
    refine go_aload_n (pc := 15) rfl dX8_feed_15 ?_
    refine go_iload_n (pc := 16) rfl dX8_feed_16 ?_
    refine go_invV (pc := 17) (sl := 0) (s_X8_put l (d + 0) hv a2 (by show P.2.1.toInt ≤ 496; omega)) mL_X8_155 iM_X8_put sM_X8_put (hv.sh rfl) rfl rfl rfl (Nat.le_of_ble_eq_true rfl) (show d + 0 + 1 + 1 ≤ d + 2 by omega) (show 8 + (3 + 11) + 40 * (d + 0 + 1) ≤ 40 * (d + 2) by omega) (g_c0 hv.ln) (Nat.le_of_ble_eq_true rfl) dX8_feed_17 ?_
    intro r h5 hq _
    obtain ⟨rfl, ⟨Q6, hv5, r7, r8, r9⟩⟩ := hq
    have r7 : Q6.2.1.toInt = P.2.1.toInt + 4 := r7
    refine go_aload_n (pc := 20) rfl dX8_feed_20 ?_
    refine go_iload_n (pc := 21) rfl dX8_feed_21 ?_
    refine go_invV (pc := 22) (sl := 0) (s_X8_put l (d + 0) hv5 a3 (by show Q6.2.1.toInt ≤ 496; omega)) mL_X8_155 iM_X8_put sM_X8_put (hv5.sh rfl) rfl rfl rfl (Nat.le_of_ble_eq_true rfl) (show d + 0 + 1 + 1 ≤ d + 2 by omega) (show 8 + (3 + 11) + 40 * (d + 0 + 1) ≤ 40 * (d + 2) by omega) (g_c0 hv5.ln) (Nat.le_of_ble_eq_true rfl) dX8_feed_22 ?_
    intro r h10 hq _
    obtain ⟨rfl, ⟨Q11, hv10, r12, r13, r14⟩⟩ := hq
    have r12 : Q11.2.1.toInt = Q6.2.1.toInt + 4 := r12
    refine go_aload_n (pc := 25) rfl dX8_feed_25 ?_
    refine go_iload_n (pc := 26) rfl dX8_feed_26 ?_
    refine go_invV (pc := 27) (sl := 0) (s_X8_put l (d + 0) hv10 a4 (by show Q11.2.1.toInt ≤ 496; omega)) mL_X8_155 iM_X8_put sM_X8_put (hv10.sh rfl) rfl rfl rfl (Nat.le_of_ble_eq_true rfl) (show d + 0 + 1 + 1 ≤ d + 2 by omega) (show 8 + (3 + 11) + 40 * (d + 0 + 1) ≤ 40 * (d + 2) by omega) (g_c0 hv10.ln) (Nat.le_of_ble_eq_true rfl) dX8_feed_27 ?_
    intro r h15 hq _
    obtain ⟨rfl, ⟨Q16, hv15, r17, r18, r19⟩⟩ := hq
    have r17 : Q16.2.1.toInt = Q11.2.1.toInt + 4 := r17
    refine go_aload_n (pc := 30) rfl dX8_feed_30 ?_
    refine go_iload (pc := 31) rfl dX8_feed_31 ?_
    refine go_invV (pc := 33) (sl := 0) (s_X8_put l (d + 0) hv15 a5 (by show Q16.2.1.toInt ≤ 496; omega)) mL_X8_155 iM_X8_put sM_X8_put (hv15.sh rfl) rfl rfl rfl (Nat.le_of_ble_eq_true rfl) (show d + 0 + 1 + 1 ≤ d + 2 by omega) (show 8 + (3 + 11) + 40 * (d + 0 + 1) ≤ 40 * (d + 2) by omega) (g_c0 hv15.ln) (Nat.le_of_ble_eq_true rfl) dX8_feed_33 ?_
    intro r h20 hq _
    obtain ⟨rfl, ⟨Q21, hv20, r22, r23, r24⟩⟩ := hq
    have r22 : Q21.2.1.toInt = Q16.2.1.toInt + 4 := r22
    refine go_aload_n (pc := 36) rfl dX8_feed_36 ?_
    refine go_iload (pc := 37) rfl dX8_feed_37 ?_
    refine go_invV (pc := 39) (sl := 0) (s_X8_put l (d + 0) hv20 a6 (by show Q21.2.1.toInt ≤ 496; omega)) mL_X8_155 iM_X8_put sM_X8_put (hv20.sh rfl) rfl rfl rfl (Nat.le_of_ble_eq_true rfl) (show d + 0 + 1 + 1 ≤ d + 2 by omega) (show 8 + (3 + 11) + 40 * (d + 0 + 1) ≤ 40 * (d + 2) by omega) (g_c0 hv20.ln) (Nat.le_of_ble_eq_true rfl) dX8_feed_39 ?_
    intro r h25 hq _
    obtain ⟨rfl, ⟨Q26, hv25, r27, r28, r29⟩⟩ := hq
    have r27 : Q26.2.1.toInt = Q21.2.1.toInt + 4 := r27
    refine go_aload_n (pc := 42) rfl dX8_feed_42 ?_
    refine gi_get (pc := 43) (lo := 0) (hi := 500) hv25 fL_X8_151 rfl (Nat.le_of_ble_eq_true rfl) rfl rfl dX8_feed_43 (fun v30 v30l v30u v30w => ?_)
    have v30p : v30.toInt = Q26.2.1.toInt := by rw [v30w]; exact congrArg Int32.toInt hv25.t1
    exact gi_iret (pc := 46) (ti_rfl v30) ⟨_, rfl, (ti_lo _), (ti_hi _), ⟨Q26, hv25, (by show (P.2.1.toInt ≤ 480 → (v30 : Int32).toInt = P.2.1.toInt + 20 ∧ Q26.2.1.toInt = P.2.1.toInt + 20) ∧ (480 < P.2.1.toInt → (v30 : Int32).toInt = -1 ∧ Q26.2.1.toInt = P.2.1.toInt); omega), (by first | rfl | (simp only [r29, r28, r24, r23, r19, r18, r14, r13, r9, r8])), (by first | rfl | (simp only [r29, r28, r24, r23, r19, r18, r14, r13, r9, r8]))⟩⟩ hv25 dX8_feed_46
  ·
    refine go_iconst (pc := 13) (v := (-1)) (by decide) dX8_feed_13 ?_
    have z31 : ((-1) : Int32).toInt = (-1) := (ti_c (v := (-1)) (a := (-1)) (by decide))
    exact gi_iret (pc := 14) (ti_c (v := (-1)) (a := (-1)) (by decide)) ⟨_, rfl, (ti_lo _), (ti_hi _), ⟨P, hv, (by show (P.2.1.toInt ≤ 480 → ((-1) : Int32).toInt = P.2.1.toInt + 20 ∧ P.2.1.toInt = P.2.1.toInt + 20) ∧ (480 < P.2.1.toInt → ((-1) : Int32).toInt = -1 ∧ P.2.1.toInt = P.2.1.toInt); omega), (by first | rfl | (simp only [r29, r28, r24, r23, r19, r18, r14, r13, r9, r8])), (by first | rfl | (simp only [r29, r28, r24, r23, r19, r18, r14, r13, r9, r8]))⟩⟩ hv dX8_feed_14
set_option maxHeartbeats 4000000 in
set_option maxRecDepth 100000 in
theorem s_X8_end (l : Launch) (d : Nat) {P : PP} {h : HP} (hv : Iv P h) (a2 : Int32) : Mt l yX8_end cX8_end 2 (some .boolean) (d + 2) [.ref 70, .int a2] h 0 0 (fun r h' => ∃ v : Int32, r = some (.int v) ∧ 0 ≤ v.toInt ∧ v.toInt ≤ 1 ∧ (∃ Q : PP, Iv Q h' ∧ ((0 ≤ a2.toInt ∧ a2.toInt ≤ P.2.1.toInt → v.toInt = 1 ∧ Q.2.1.toInt = a2.toInt) ∧ (¬ (0 ≤ a2.toInt ∧ a2.toInt ≤ P.2.1.toInt) → v.toInt = 0 ∧ Q.2.1.toInt = P.2.1.toInt)) ∧ Q.1 = P.1 ∧ Q.2.2 = P.2.2)) := by
  refine Mt_iv hv (by decide) (Nat.le_of_ble_eq_true rfl) ?_
  show Go l RX8 cX8_end 2 (g_rm (d + 2) 0 0) "end" (some .boolean) 117 0 0 (fun _ _ => True) (fun r h' => ∃ v : Int32, r = some (.int v) ∧ 0 ≤ v.toInt ∧ v.toInt ≤ 1 ∧ (∃ Q : PP, Iv Q h' ∧ ((0 ≤ a2.toInt ∧ a2.toInt ≤ P.2.1.toInt → v.toInt = 1 ∧ Q.2.1.toInt = a2.toInt) ∧ (¬ (0 ≤ a2.toInt ∧ a2.toInt ≤ P.2.1.toInt) → v.toInt = 0 ∧ Q.2.1.toInt = P.2.1.toInt)) ∧ Q.1 = P.1 ∧ Q.2.2 = P.2.2)) 0 0 [(0, .ref 70), (1, .int a2)] [] h
  refine go_iload_n (pc := 0) rfl dX8_end_0 ?_
  refine go_iconst (pc := 1) (v := 0) (by decide) dX8_end_1 ?_
  refine go_aload_n (pc := 2) rfl dX8_end_2 ?_
  refine gi_get (pc := 3) (lo := 0) (hi := 500) hv fL_X8_151 rfl (Nat.le_of_ble_eq_true rfl) rfl rfl dX8_end_3 (fun v1 v1l v1u v1w => ?_)
  have v1p : v1.toInt = P.2.1.toInt := by rw [v1w]; exact congrArg Int32.toInt hv.t1
  refine go_invS (pc := 6) (sl := 0) (s_X8_isIn l (d + 0) hv a2 0 v1) mL_X8_159 iM_X8_isIn rfl rfl (Nat.le_of_ble_eq_true rfl) (show d + 0 + 1 + 1 ≤ d + 2 by omega) (show 8 + (3 + 11) + 40 * (d + 0 + 1) ≤ 40 * (d + 2) by omega) (g_c0 hv.ln) (Nat.le_of_ble_eq_true rfl) dX8_end_6 ?_
  intro r h2 hq _
  obtain ⟨v5, rfl, v5l, v5u, rfl, f3, f4⟩ := hq
  try rw [show (0 : Int32).toInt = 0 from (ti_c (v := 0) (a := 0) (by decide))] at f3
  try rw [show (0 : Int32).toInt = 0 from (ti_c (v := 0) (a := 0) (by decide))] at f4
  refine gf_if_ne (pc := 9) (tgt := 14) (ti_rfl v5) (by decide) dX8_end_9 (fun q6 => ?_) (fun q6 => ?_)
  ·
    refine go_aload_n (pc := 14) rfl dX8_end_14 ?_
    refine go_iload_n (pc := 15) rfl dX8_end_15 ?_
    refine gi_put1 (pc := 16) hv (ti_rfl a2) (fP_X8_151 _) (by omega) (by omega) dX8_end_16 (fun h7 hv7 hv7e => ?_)
    refine go_iconst (pc := 19) (v := 1) (by decide) dX8_end_19 ?_
    have z8 : (1 : Int32).toInt = 1 := (ti_c (v := 1) (a := 1) (by decide))
    exact gi_zret (pc := 20) (ti_c (v := 1) (a := 1) (by decide)) (by omega) (by omega) ⟨_, rfl, (by rw [show (1 : Int32).toInt = 1 from (ti_c (v := 1) (a := 1) (by decide))]; omega), (by rw [show (1 : Int32).toInt = 1 from (ti_c (v := 1) (a := 1) (by decide))]; omega), ⟨(P.1, a2, P.2.2.1, P.2.2.2), hv7, (by show (0 ≤ a2.toInt ∧ a2.toInt ≤ P.2.1.toInt → (1 : Int32).toInt = 1 ∧ a2.toInt = a2.toInt) ∧ (¬ (0 ≤ a2.toInt ∧ a2.toInt ≤ P.2.1.toInt) → (1 : Int32).toInt = 0 ∧ a2.toInt = P.2.1.toInt); omega), rfl, rfl⟩⟩ hv7 dX8_end_20
  ·
    refine go_iconst (pc := 12) (v := 0) (by decide) dX8_end_12 ?_
    have z9 : (0 : Int32).toInt = 0 := (ti_c (v := 0) (a := 0) (by decide))
    exact gi_zret (pc := 13) (ti_c (v := 0) (a := 0) (by decide)) (by omega) (by omega) ⟨_, rfl, (by rw [show (0 : Int32).toInt = 0 from (ti_c (v := 0) (a := 0) (by decide))]; omega), (by rw [show (0 : Int32).toInt = 0 from (ti_c (v := 0) (a := 0) (by decide))]; omega), ⟨P, hv, (by show (0 ≤ a2.toInt ∧ a2.toInt ≤ P.2.1.toInt → (0 : Int32).toInt = 1 ∧ P.2.1.toInt = a2.toInt) ∧ (¬ (0 ≤ a2.toInt ∧ a2.toInt ≤ P.2.1.toInt) → (0 : Int32).toInt = 0 ∧ P.2.1.toInt = P.2.1.toInt); omega), rfl, rfl⟩⟩ hv dX8_end_13
