def f_X7_putFour (s : ST) (a2 : Int) : ST :=
  bd (s.1 0 1) fun v5 => bd (o_iushr a2 24) fun v7 => bd (o_i2b v7) fun v9 => bd (sI s 1 (v5).toNat (o_i2b v9)) fun s11 => bd (s11.1 0 1) fun v13 => bd (sI s11 0 1 ((v13 + 1))) fun s17 => bd (s17.1 0 1) fun v26 => bd (o_iushr a2 ((24 + (-8)))) fun v28 => bd (o_i2b v28) fun v30 => bd (sI s17 1 (v26).toNat (o_i2b v30)) fun s32 => bd (s32.1 0 1) fun v34 => bd (sI s32 0 1 ((v34 + 1))) fun s38 => bd (s38.1 0 1) fun v47 => bd (o_iushr a2 (((24 + (-8)) + (-8)))) fun v49 => bd (o_i2b v49) fun v51 => bd (sI s38 1 (v47).toNat (o_i2b v51)) fun s53 => bd (s53.1 0 1) fun v55 => bd (sI s53 0 1 ((v55 + 1))) fun s59 => bd (s59.1 0 1) fun v68 => bd (o_iushr a2 ((((24 + (-8)) + (-8)) + (-8)))) fun v70 => bd (o_i2b v70) fun v72 => bd (sI s59 1 (v68).toNat (o_i2b v72)) fun s74 => bd (s74.1 0 1) fun v76 => bd (sI s74 0 1 ((v76 + 1))) fun s80 => s80
set_option maxHeartbeats 4000000 in
set_option maxRecDepth 100000 in
theorem s_X7_putFour_f (l : Launch) (d : Nat) {P : PP} {h : HP} (hv : Iv P h) (a2 : Int32) (hp : P.1.toInt ≤ 496) : Mt l yX7_putFour cX7_putFour 3 none (d + 1) [.ref 0, .int a2] h 0 0 (fun r h' => r = none ∧ (∃ Q : PP, Iv Q h' ∧ (Q.1.toInt = P.1.toInt + 4) ∧ Q.2 = P.2) ∧ (st h' = f_X7_putFour (st h) a2.toInt)) := by
  refine Mt_iv hv (by decide) (Nat.le_of_ble_eq_true rfl) ?_
  show Go l RX7 cX7_putFour 3 (g_rm (d + 1) 0 0) "putFour" none 117 0 0 (fun _ _ => True) (fun r h' => r = none ∧ (∃ Q : PP, Iv Q h' ∧ (Q.1.toInt = P.1.toInt + 4) ∧ Q.2 = P.2) ∧ (st h' = f_X7_putFour (st h) a2.toInt)) 0 0 [(0, .ref 0), (1, .int a2)] [] h
  obtain ⟨fin, kf⟩ : ∃ z, z = f_X7_putFour (st h) a2.toInt := ⟨_, _root_.rfl⟩
  have k0 := kf
  unfold f_X7_putFour at k0
  refine go_bipush (pc := 0) (v := 24) (by decide) dX7_putFour_0 ?_
  refine go_istore_n (pc := 2) (Nat.le_of_ble_eq_true rfl) dX7_putFour_2 (go_lv (lv2 := [(0, .ref 0), (1, .int a2), (2, .int 24)]) rfl ?_)
  refine go_iload_n (pc := 3) rfl dX7_putFour_3 ?_
  refine gf_if_lt (pc := 4) (tgt := 46) (ti_c (v := 24) (a := 24) (by decide)) (by decide) dX7_putFour_4 (fun q1 => False.elim (by omega)) (fun q1 => ?_)
  refine go_aload_n (pc := 7) rfl dX7_putFour_7 ?_
  refine gi_get (pc := 8) (lo := 0) (hi := 500) hv fL_X7_13 rfl (Nat.le_of_ble_eq_true rfl) rfl rfl dX7_putFour_8 (fun v2 v2l v2u v2w => ?_)
  have v2p : v2.toInt = P.1.toInt := by rw [v2w]; exact congrArg Int32.toInt hv.t0
  have k3 := k0
  refine go_sipush (pc := 11) (v := 500) (by decide) dX7_putFour_11 ?_
  refine gf_icmp_ge (pc := 14) (tgt := 46) (ti_rfl v2) (ti_c (v := 500) (a := 500) (by decide)) (by decide) dX7_putFour_14 (fun q4 => False.elim (by omega)) (fun q4 => ?_)
  refine go_aload_n (pc := 17) rfl dX7_putFour_17 ?_
  refine gi_getF (pc := 18) (q := 1) hv fL_X7_9 rfl (Nat.le_of_ble_eq_true rfl) rfl (hv.rf (by decide)) dX7_putFour_18 ?_
  refine go_aload_n (pc := 21) rfl dX7_putFour_21 ?_
  refine gi_get (pc := 22) (lo := 0) (hi := 500) hv fL_X7_13 rfl (Nat.le_of_ble_eq_true rfl) rfl rfl dX7_putFour_22 (fun v5 v5l v5u v5w => ?_)
  have v5p : v5.toInt = P.1.toInt := by rw [v5w]; exact congrArg Int32.toInt hv.t0
  have k6 := bd_e k3 (congrArg Int32.toInt v5w.symm)
  refine go_iload_n (pc := 25) rfl dX7_putFour_25 ?_
  refine go_iload_n (pc := 26) rfl dX7_putFour_26 ?_
  refine gx_iushr (pc := 27) dX7_putFour_27 (fun v7 v7x => ?_)
  have k8 := bd_e k6 (so_iushr (ti_rfl a2) (ti_c (v := 24) (a := 24) (by decide)) v7x)
  refine gx_i2b (pc := 28) dX7_putFour_28 (fun v9 v9x => ?_)
  have k10 := bd_e k8 (so_i2b (ti_rfl v7) v9x)
  refine gi_bast (pc := 29) (len := 500) hv (ti_rfl v5) rfl (by omega) (by omega) (fun _ => rfl) (by decide) dX7_putFour_29 (fun h11 hv11 hv11e => ?_)
  have k12 := bd_e k10 (st_B hv11e (ti_rfl v9))
  refine go_aload_n (pc := 30) rfl dX7_putFour_30 ?_
  refine go_dup (pc := 31) rfl dX7_putFour_31 ?_
  refine gi_get (pc := 32) (lo := 0) (hi := 500) hv11 fL_X7_13 rfl (Nat.le_of_ble_eq_true rfl) rfl rfl dX7_putFour_32 (fun v13 v13l v13u v13w => ?_)
  have v13p : v13.toInt = P.1.toInt := by rw [v13w]; exact congrArg Int32.toInt hv11.t0
  have k14 := bd_e k12 (congrArg Int32.toInt v13w.symm)
  refine go_iconst (pc := 35) (v := 1) (by decide) dX7_putFour_35 ?_
  refine gf_iadd (pc := 36) (ti_rfl v13) (ti_c (v := 1) (a := 1) (by decide)) (by omega) (by omega) dX7_putFour_36 (fun v15 e16 => ?_)
  refine gi_put0 (pc := 37) hv11 e16 (fP_X7_13 _) (by omega) (by omega) dX7_putFour_37 (fun h17 hv17 hv17e => ?_)
  have z18 : v15.toInt = (v13.toInt + 1) := e16
  have k19 := bd_e k14 (st_I hv17e e16)
  refine gf_iinc (pc := 40) (Nat.le_of_ble_eq_true rfl) rfl (ti_c (v := 24) (a := 24) (by decide)) (ti_c (by decide)) (by omega) (by omega) dX7_putFour_40 (fun v20 e21 => ?_)
  refine go_lv (lv2 := [(0, .ref 0), (1, .int a2), (2, .int v20)]) rfl ?_
  refine go_goto (pc := 43) (tgt := 3) (by decide) dX7_putFour_43 ?_
  refine go_iload_n (pc := 3) rfl dX7_putFour_3 ?_
  refine gf_if_lt (pc := 4) (tgt := 46) e21 (by decide) dX7_putFour_4 (fun q22 => False.elim (by omega)) (fun q22 => ?_)
  refine go_aload_n (pc := 7) rfl dX7_putFour_7 ?_
  refine gi_get (pc := 8) (lo := 0) (hi := 500) hv17 fL_X7_13 rfl (Nat.le_of_ble_eq_true rfl) rfl rfl dX7_putFour_8 (fun v23 v23l v23u v23w => ?_)
  have v23p : v23.toInt = v15.toInt := by rw [v23w]; exact congrArg Int32.toInt hv17.t0
  have k24 := k19
  refine go_sipush (pc := 11) (v := 500) (by decide) dX7_putFour_11 ?_
  refine gf_icmp_ge (pc := 14) (tgt := 46) (ti_rfl v23) (ti_c (v := 500) (a := 500) (by decide)) (by decide) dX7_putFour_14 (fun q25 => False.elim (by omega)) (fun q25 => ?_)
  refine go_aload_n (pc := 17) rfl dX7_putFour_17 ?_
  refine gi_getF (pc := 18) (q := 1) hv17 fL_X7_9 rfl (Nat.le_of_ble_eq_true rfl) rfl (hv17.rf (by decide)) dX7_putFour_18 ?_
  refine go_aload_n (pc := 21) rfl dX7_putFour_21 ?_
  refine gi_get (pc := 22) (lo := 0) (hi := 500) hv17 fL_X7_13 rfl (Nat.le_of_ble_eq_true rfl) rfl rfl dX7_putFour_22 (fun v26 v26l v26u v26w => ?_)
  have v26p : v26.toInt = v15.toInt := by rw [v26w]; exact congrArg Int32.toInt hv17.t0
  have k27 := bd_e k24 (congrArg Int32.toInt v26w.symm)
  refine go_iload_n (pc := 25) rfl dX7_putFour_25 ?_
  refine go_iload_n (pc := 26) rfl dX7_putFour_26 ?_
  refine gx_iushr (pc := 27) dX7_putFour_27 (fun v28 v28x => ?_)
  have k29 := bd_e k27 (so_iushr (ti_rfl a2) e21 v28x)
  refine gx_i2b (pc := 28) dX7_putFour_28 (fun v30 v30x => ?_)
  have k31 := bd_e k29 (so_i2b (ti_rfl v28) v30x)
  refine gi_bast (pc := 29) (len := 500) hv17 (ti_rfl v26) rfl (by omega) (by omega) (fun _ => rfl) (by decide) dX7_putFour_29 (fun h32 hv32 hv32e => ?_)
  have k33 := bd_e k31 (st_B hv32e (ti_rfl v30))
  refine go_aload_n (pc := 30) rfl dX7_putFour_30 ?_
  refine go_dup (pc := 31) rfl dX7_putFour_31 ?_
  refine gi_get (pc := 32) (lo := 0) (hi := 500) hv32 fL_X7_13 rfl (Nat.le_of_ble_eq_true rfl) rfl rfl dX7_putFour_32 (fun v34 v34l v34u v34w => ?_)
  have v34p : v34.toInt = v15.toInt := by rw [v34w]; exact congrArg Int32.toInt hv32.t0
  have k35 := bd_e k33 (congrArg Int32.toInt v34w.symm)
  refine go_iconst (pc := 35) (v := 1) (by decide) dX7_putFour_35 ?_
  refine gf_iadd (pc := 36) (ti_rfl v34) (ti_c (v := 1) (a := 1) (by decide)) (by omega) (by omega) dX7_putFour_36 (fun v36 e37 => ?_)
  refine gi_put0 (pc := 37) hv32 e37 (fP_X7_13 _) (by omega) (by omega) dX7_putFour_37 (fun h38 hv38 hv38e => ?_)
  have z39 : v36.toInt = (v34.toInt + 1) := e37
  have k40 := bd_e k35 (st_I hv38e e37)
  refine gf_iinc (pc := 40) (Nat.le_of_ble_eq_true rfl) rfl e21 (ti_c (by decide)) (by omega) (by omega) dX7_putFour_40 (fun v41 e42 => ?_)
  refine go_lv (lv2 := [(0, .ref 0), (1, .int a2), (2, .int v41)]) rfl ?_
  refine go_goto (pc := 43) (tgt := 3) (by decide) dX7_putFour_43 ?_
  refine go_iload_n (pc := 3) rfl dX7_putFour_3 ?_
  refine gf_if_lt (pc := 4) (tgt := 46) e42 (by decide) dX7_putFour_4 (fun q43 => False.elim (by omega)) (fun q43 => ?_)
  refine go_aload_n (pc := 7) rfl dX7_putFour_7 ?_
  refine gi_get (pc := 8) (lo := 0) (hi := 500) hv38 fL_X7_13 rfl (Nat.le_of_ble_eq_true rfl) rfl rfl dX7_putFour_8 (fun v44 v44l v44u v44w => ?_)
  have v44p : v44.toInt = v36.toInt := by rw [v44w]; exact congrArg Int32.toInt hv38.t0
  have k45 := k40
  refine go_sipush (pc := 11) (v := 500) (by decide) dX7_putFour_11 ?_
  refine gf_icmp_ge (pc := 14) (tgt := 46) (ti_rfl v44) (ti_c (v := 500) (a := 500) (by decide)) (by decide) dX7_putFour_14 (fun q46 => False.elim (by omega)) (fun q46 => ?_)
  refine go_aload_n (pc := 17) rfl dX7_putFour_17 ?_
  refine gi_getF (pc := 18) (q := 1) hv38 fL_X7_9 rfl (Nat.le_of_ble_eq_true rfl) rfl (hv38.rf (by decide)) dX7_putFour_18 ?_
  refine go_aload_n (pc := 21) rfl dX7_putFour_21 ?_
  refine gi_get (pc := 22) (lo := 0) (hi := 500) hv38 fL_X7_13 rfl (Nat.le_of_ble_eq_true rfl) rfl rfl dX7_putFour_22 (fun v47 v47l v47u v47w => ?_)
  have v47p : v47.toInt = v36.toInt := by rw [v47w]; exact congrArg Int32.toInt hv38.t0
  have k48 := bd_e k45 (congrArg Int32.toInt v47w.symm)
  refine go_iload_n (pc := 25) rfl dX7_putFour_25 ?_
  refine go_iload_n (pc := 26) rfl dX7_putFour_26 ?_
  refine gx_iushr (pc := 27) dX7_putFour_27 (fun v49 v49x => ?_)
  have k50 := bd_e k48 (so_iushr (ti_rfl a2) e42 v49x)
  refine gx_i2b (pc := 28) dX7_putFour_28 (fun v51 v51x => ?_)
  have k52 := bd_e k50 (so_i2b (ti_rfl v49) v51x)
  refine gi_bast (pc := 29) (len := 500) hv38 (ti_rfl v47) rfl (by omega) (by omega) (fun _ => rfl) (by decide) dX7_putFour_29 (fun h53 hv53 hv53e => ?_)
  have k54 := bd_e k52 (st_B hv53e (ti_rfl v51))
  refine go_aload_n (pc := 30) rfl dX7_putFour_30 ?_
  refine go_dup (pc := 31) rfl dX7_putFour_31 ?_
  refine gi_get (pc := 32) (lo := 0) (hi := 500) hv53 fL_X7_13 rfl (Nat.le_of_ble_eq_true rfl) rfl rfl dX7_putFour_32 (fun v55 v55l v55u v55w => ?_)
  have v55p : v55.toInt = v36.toInt := by rw [v55w]; exact congrArg Int32.toInt hv53.t0
  have k56 := bd_e k54 (congrArg Int32.toInt v55w.symm)
  refine go_iconst (pc := 35) (v := 1) (by decide) dX7_putFour_35 ?_
  refine gf_iadd (pc := 36) (ti_rfl v55) (ti_c (v := 1) (a := 1) (by decide)) (by omega) (by omega) dX7_putFour_36 (fun v57 e58 => ?_)
  refine gi_put0 (pc := 37) hv53 e58 (fP_X7_13 _) (by omega) (by omega) dX7_putFour_37 (fun h59 hv59 hv59e => ?_)
  have z60 : v57.toInt = (v55.toInt + 1) := e58
  have k61 := bd_e k56 (st_I hv59e e58)
  refine gf_iinc (pc := 40) (Nat.le_of_ble_eq_true rfl) rfl e42 (ti_c (by decide)) (by omega) (by omega) dX7_putFour_40 (fun v62 e63 => ?_)
  refine go_lv (lv2 := [(0, .ref 0), (1, .int a2), (2, .int v62)]) rfl ?_
  refine go_goto (pc := 43) (tgt := 3) (by decide) dX7_putFour_43 ?_
  refine go_iload_n (pc := 3) rfl dX7_putFour_3 ?_
  refine gf_if_lt (pc := 4) (tgt := 46) e63 (by decide) dX7_putFour_4 (fun q64 => False.elim (by omega)) (fun q64 => ?_)
  refine go_aload_n (pc := 7) rfl dX7_putFour_7 ?_
  refine gi_get (pc := 8) (lo := 0) (hi := 500) hv59 fL_X7_13 rfl (Nat.le_of_ble_eq_true rfl) rfl rfl dX7_putFour_8 (fun v65 v65l v65u v65w => ?_)
  have v65p : v65.toInt = v57.toInt := by rw [v65w]; exact congrArg Int32.toInt hv59.t0
  have k66 := k61
  refine go_sipush (pc := 11) (v := 500) (by decide) dX7_putFour_11 ?_
  refine gf_icmp_ge (pc := 14) (tgt := 46) (ti_rfl v65) (ti_c (v := 500) (a := 500) (by decide)) (by decide) dX7_putFour_14 (fun q67 => False.elim (by omega)) (fun q67 => ?_)
  refine go_aload_n (pc := 17) rfl dX7_putFour_17 ?_
  refine gi_getF (pc := 18) (q := 1) hv59 fL_X7_9 rfl (Nat.le_of_ble_eq_true rfl) rfl (hv59.rf (by decide)) dX7_putFour_18 ?_
  refine go_aload_n (pc := 21) rfl dX7_putFour_21 ?_
  refine gi_get (pc := 22) (lo := 0) (hi := 500) hv59 fL_X7_13 rfl (Nat.le_of_ble_eq_true rfl) rfl rfl dX7_putFour_22 (fun v68 v68l v68u v68w => ?_)
  have v68p : v68.toInt = v57.toInt := by rw [v68w]; exact congrArg Int32.toInt hv59.t0
  have k69 := bd_e k66 (congrArg Int32.toInt v68w.symm)
  refine go_iload_n (pc := 25) rfl dX7_putFour_25 ?_
  refine go_iload_n (pc := 26) rfl dX7_putFour_26 ?_
  refine gx_iushr (pc := 27) dX7_putFour_27 (fun v70 v70x => ?_)
  have k71 := bd_e k69 (so_iushr (ti_rfl a2) e63 v70x)
  refine gx_i2b (pc := 28) dX7_putFour_28 (fun v72 v72x => ?_)
  have k73 := bd_e k71 (so_i2b (ti_rfl v70) v72x)
  refine gi_bast (pc := 29) (len := 500) hv59 (ti_rfl v68) rfl (by omega) (by omega) (fun _ => rfl) (by decide) dX7_putFour_29 (fun h74 hv74 hv74e => ?_)
  have k75 := bd_e k73 (st_B hv74e (ti_rfl v72))
  refine go_aload_n (pc := 30) rfl dX7_putFour_30 ?_
  refine go_dup (pc := 31) rfl dX7_putFour_31 ?_
  refine gi_get (pc := 32) (lo := 0) (hi := 500) hv74 fL_X7_13 rfl (Nat.le_of_ble_eq_true rfl) rfl rfl dX7_putFour_32 (fun v76 v76l v76u v76w => ?_)
  have v76p : v76.toInt = v57.toInt := by rw [v76w]; exact congrArg Int32.toInt hv74.t0
  have k77 := bd_e k75 (congrArg Int32.toInt v76w.symm)
  refine go_iconst (pc := 35) (v := 1) (by decide) dX7_putFour_35 ?_
  refine gf_iadd (pc := 36) (ti_rfl v76) (ti_c (v := 1) (a := 1) (by decide)) (by omega) (by omega) dX7_putFour_36 (fun v78 e79 => ?_)
  refine gi_put0 (pc := 37) hv74 e79 (fP_X7_13 _) (by omega) (by omega) dX7_putFour_37 (fun h80 hv80 hv80e => ?_)
  have z81 : v78.toInt = (v76.toInt + 1) := e79
  have k82 := bd_e k77 (st_I hv80e e79)
  refine gf_iinc (pc := 40) (Nat.le_of_ble_eq_true rfl) rfl e63 (ti_c (by decide)) (by omega) (by omega) dX7_putFour_40 (fun v83 e84 => ?_)
  refine go_lv (lv2 := [(0, .ref 0), (1, .int a2), (2, .int v83)]) rfl ?_
  refine go_goto (pc := 43) (tgt := 3) (by decide) dX7_putFour_43 ?_
  refine go_iload_n (pc := 3) rfl dX7_putFour_3 ?_
  refine gf_if_lt (pc := 4) (tgt := 46) e84 (by decide) dX7_putFour_4 (fun q85 => ?_) (fun q85 => False.elim (by omega))
  exact gi_vret (pc := 46) ⟨rfl, ⟨(v78, (v57, (v36, (v15, P.2.1, P.2.2.1, P.2.2.2).2.1, (v15, P.2.1, P.2.2.1, P.2.2.2).2.2.1, (v15, P.2.1, P.2.2.1, P.2.2.2).2.2.2).2.1, (v36, (v15, P.2.1, P.2.2.1, P.2.2.2).2.1, (v15, P.2.1, P.2.2.1, P.2.2.2).2.2.1, (v15, P.2.1, P.2.2.1, P.2.2.2).2.2.2).2.2.1, (v36, (v15, P.2.1, P.2.2.1, P.2.2.2).2.1, (v15, P.2.1, P.2.2.1, P.2.2.2).2.2.1, (v15, P.2.1, P.2.2.1, P.2.2.2).2.2.2).2.2.2).2.1, (v57, (v36, (v15, P.2.1, P.2.2.1, P.2.2.2).2.1, (v15, P.2.1, P.2.2.1, P.2.2.2).2.2.1, (v15, P.2.1, P.2.2.1, P.2.2.2).2.2.2).2.1, (v36, (v15, P.2.1, P.2.2.1, P.2.2.2).2.1, (v15, P.2.1, P.2.2.1, P.2.2.2).2.2.1, (v15, P.2.1, P.2.2.1, P.2.2.2).2.2.2).2.2.1, (v36, (v15, P.2.1, P.2.2.1, P.2.2.2).2.1, (v15, P.2.1, P.2.2.1, P.2.2.2).2.2.1, (v15, P.2.1, P.2.2.1, P.2.2.2).2.2.2).2.2.2).2.2.1, (v57, (v36, (v15, P.2.1, P.2.2.1, P.2.2.2).2.1, (v15, P.2.1, P.2.2.1, P.2.2.2).2.2.1, (v15, P.2.1, P.2.2.1, P.2.2.2).2.2.2).2.1, (v36, (v15, P.2.1, P.2.2.1, P.2.2.2).2.1, (v15, P.2.1, P.2.2.1, P.2.2.2).2.2.1, (v15, P.2.1, P.2.2.1, P.2.2.2).2.2.2).2.2.1, (v36, (v15, P.2.1, P.2.2.1, P.2.2.2).2.1, (v15, P.2.1, P.2.2.1, P.2.2.2).2.2.1, (v15, P.2.1, P.2.2.1, P.2.2.2).2.2.2).2.2.2).2.2.2), hv80, (by show v78.toInt = P.1.toInt + 4; omega), rfl⟩, (k82.symm.trans kf)⟩ hv80 dX7_putFour_46
def f_X7_feed (s : ST) (a2 : Int) (a3 : Int) (a4 : Int) (a5 : Int) (a6 : Int) : ST × Int :=
  bd (s.1 0 1) fun v1 => if (v1 + 20) ≤ 500 then (bd (f_X7_putFour s a2) fun s7 => bd (f_X7_putFour s7 a3) fun s13 => bd (f_X7_putFour s13 a4) fun s19 => bd (f_X7_putFour s19 a5) fun s25 => bd (f_X7_putFour s25 a6) fun s31 => bd (s31.1 0 1) fun v37 => (s31, v37)) else ((s, (-1)))
set_option maxHeartbeats 4000000 in
set_option maxRecDepth 100000 in
theorem s_X7_feed_f (l : Launch) (d : Nat) {P : PP} {h : HP} (hv : Iv P h) (a2 : Int32) (a3 : Int32) (a4 : Int32) (a5 : Int32) (a6 : Int32) : Mt l yX7_feed cX7_feed 6 (some .int) (d + 2) [.ref 0, .int a2, .int a3, .int a4, .int a5, .int a6] h 0 0 (fun r h' => ∃ v : Int32, r = some (.int v) ∧ -2147483648 ≤ v.toInt ∧ v.toInt ≤ 2147483647 ∧ (∃ Q : PP, Iv Q h' ∧ ((P.1.toInt ≤ 480 → v.toInt = P.1.toInt + 20 ∧ Q.1.toInt = P.1.toInt + 20) ∧ (480 < P.1.toInt → v.toInt = -1 ∧ Q.1.toInt = P.1.toInt)) ∧ Q.2 = P.2) ∧ ((st h', v.toInt) = f_X7_feed (st h) a2.toInt a3.toInt a4.toInt a5.toInt a6.toInt)) := by
  refine Mt_iv hv (by decide) (Nat.le_of_ble_eq_true rfl) ?_
  show Go l RX7 cX7_feed 6 (g_rm (d + 2) 0 0) "feed" (some .int) 117 0 0 (fun _ _ => True) (fun r h' => ∃ v : Int32, r = some (.int v) ∧ -2147483648 ≤ v.toInt ∧ v.toInt ≤ 2147483647 ∧ (∃ Q : PP, Iv Q h' ∧ ((P.1.toInt ≤ 480 → v.toInt = P.1.toInt + 20 ∧ Q.1.toInt = P.1.toInt + 20) ∧ (480 < P.1.toInt → v.toInt = -1 ∧ Q.1.toInt = P.1.toInt)) ∧ Q.2 = P.2) ∧ ((st h', v.toInt) = f_X7_feed (st h) a2.toInt a3.toInt a4.toInt a5.toInt a6.toInt)) 0 0 [(0, .ref 0), (1, .int a2), (2, .int a3), (3, .int a4), (4, .int a5), (5, .int a6)] [] h
  obtain ⟨fin, kf⟩ : ∃ z, z = f_X7_feed (st h) a2.toInt a3.toInt a4.toInt a5.toInt a6.toInt := ⟨_, _root_.rfl⟩
  have k0 := kf
  unfold f_X7_feed at k0
  refine go_aload_n (pc := 0) rfl dX7_feed_0 ?_
  refine gi_get (pc := 1) (lo := 0) (hi := 500) hv fL_X7_13 rfl (Nat.le_of_ble_eq_true rfl) rfl rfl dX7_feed_1 (fun v1 v1l v1u v1w => ?_)
  have v1p : v1.toInt = P.1.toInt := by rw [v1w]; exact congrArg Int32.toInt hv.t0
  have k2 := bd_e k0 (congrArg Int32.toInt v1w.symm)
  refine go_bipush (pc := 4) (v := 20) (by decide) dX7_feed_4 ?_
  refine gf_iadd (pc := 6) (ti_rfl v1) (ti_c (v := 20) (a := 20) (by decide)) (by omega) (by omega) dX7_feed_6 (fun v3 e4 => ?_)
  refine go_sipush (pc := 7) (v := 500) (by decide) dX7_feed_7 ?_
  refine gf_icmp_le (pc := 10) (tgt := 15) e4 (ti_c (v := 500) (a := 500) (by decide)) (by decide) dX7_feed_10 (fun q5 => ?_) (fun q5 => ?_)
  ·
    have k6 := if_t k2 q5
    refine go_aload_n (pc := 15) rfl dX7_feed_15 ?_
    refine go_iload_n (pc := 16) rfl dX7_feed_16 ?_
    refine go_invV (pc := 17) (sl := 0) (s_X7_putFour_f l (d + 0) hv a2 (by show P.1.toInt ≤ 496; omega)) mL_X7_53 iM_X7_putFour sM_X7_putFour (hv.sh rfl) rfl rfl rfl (Nat.le_of_ble_eq_true rfl) (show d + 0 + 1 + 1 ≤ d + 2 by omega) (show 8 + (3 + 11) + 40 * (d + 0 + 1) ≤ 40 * (d + 2) by omega) (g_c0 hv.ln) (Nat.le_of_ble_eq_true rfl) dX7_feed_17 ?_
    intro r h7 hq _
    obtain ⟨rfl, ⟨Q8, hv7, r9, r10⟩, f11⟩ := hq
    have k12 := bd_e k6 f11.symm
    have r9 : Q8.1.toInt = P.1.toInt + 4 := r9
    refine go_aload_n (pc := 20) rfl dX7_feed_20 ?_
    refine go_iload_n (pc := 21) rfl dX7_feed_21 ?_
    refine go_invV (pc := 22) (sl := 0) (s_X7_putFour_f l (d + 0) hv7 a3 (by show Q8.1.toInt ≤ 496; omega)) mL_X7_53 iM_X7_putFour sM_X7_putFour (hv7.sh rfl) rfl rfl rfl (Nat.le_of_ble_eq_true rfl) (show d + 0 + 1 + 1 ≤ d + 2 by omega) (show 8 + (3 + 11) + 40 * (d + 0 + 1) ≤ 40 * (d + 2) by omega) (g_c0 hv7.ln) (Nat.le_of_ble_eq_true rfl) dX7_feed_22 ?_
    intro r h13 hq _
    obtain ⟨rfl, ⟨Q14, hv13, r15, r16⟩, f17⟩ := hq
    have k18 := bd_e k12 f17.symm
    have r15 : Q14.1.toInt = Q8.1.toInt + 4 := r15
    refine go_aload_n (pc := 25) rfl dX7_feed_25 ?_
    refine go_iload_n (pc := 26) rfl dX7_feed_26 ?_
    refine go_invV (pc := 27) (sl := 0) (s_X7_putFour_f l (d + 0) hv13 a4 (by show Q14.1.toInt ≤ 496; omega)) mL_X7_53 iM_X7_putFour sM_X7_putFour (hv13.sh rfl) rfl rfl rfl (Nat.le_of_ble_eq_true rfl) (show d + 0 + 1 + 1 ≤ d + 2 by omega) (show 8 + (3 + 11) + 40 * (d + 0 + 1) ≤ 40 * (d + 2) by omega) (g_c0 hv13.ln) (Nat.le_of_ble_eq_true rfl) dX7_feed_27 ?_
    intro r h19 hq _
    obtain ⟨rfl, ⟨Q20, hv19, r21, r22⟩, f23⟩ := hq
    have k24 := bd_e k18 f23.symm
    have r21 : Q20.1.toInt = Q14.1.toInt + 4 := r21
    refine go_aload_n (pc := 30) rfl dX7_feed_30 ?_
    refine go_iload (pc := 31) rfl dX7_feed_31 ?_
    refine go_invV (pc := 33) (sl := 0) (s_X7_putFour_f l (d + 0) hv19 a5 (by show Q20.1.toInt ≤ 496; omega)) mL_X7_53 iM_X7_putFour sM_X7_putFour (hv19.sh rfl) rfl rfl rfl (Nat.le_of_ble_eq_true rfl) (show d + 0 + 1 + 1 ≤ d + 2 by omega) (show 8 + (3 + 11) + 40 * (d + 0 + 1) ≤ 40 * (d + 2) by omega) (g_c0 hv19.ln) (Nat.le_of_ble_eq_true rfl) dX7_feed_33 ?_
    intro r h25 hq _
    obtain ⟨rfl, ⟨Q26, hv25, r27, r28⟩, f29⟩ := hq
    have k30 := bd_e k24 f29.symm
    have r27 : Q26.1.toInt = Q20.1.toInt + 4 := r27
    refine go_aload_n (pc := 36) rfl dX7_feed_36 ?_
    refine go_iload (pc := 37) rfl dX7_feed_37 ?_
    refine go_invV (pc := 39) (sl := 0) (s_X7_putFour_f l (d + 0) hv25 a6 (by show Q26.1.toInt ≤ 496; omega)) mL_X7_53 iM_X7_putFour sM_X7_putFour (hv25.sh rfl) rfl rfl rfl (Nat.le_of_ble_eq_true rfl) (show d + 0 + 1 + 1 ≤ d + 2 by omega) (show 8 + (3 + 11) + 40 * (d + 0 + 1) ≤ 40 * (d + 2) by omega) (g_c0 hv25.ln) (Nat.le_of_ble_eq_true rfl) dX7_feed_39 ?_
    intro r h31 hq _
    obtain ⟨rfl, ⟨Q32, hv31, r33, r34⟩, f35⟩ := hq
    have k36 := bd_e k30 f35.symm
    have r33 : Q32.1.toInt = Q26.1.toInt + 4 := r33
    refine go_aload_n (pc := 42) rfl dX7_feed_42 ?_
    refine gi_get (pc := 43) (lo := 0) (hi := 500) hv31 fL_X7_13 rfl (Nat.le_of_ble_eq_true rfl) rfl rfl dX7_feed_43 (fun v37 v37l v37u v37w => ?_)
    have v37p : v37.toInt = Q32.1.toInt := by rw [v37w]; exact congrArg Int32.toInt hv31.t0
    have k38 := bd_e k36 (congrArg Int32.toInt v37w.symm)
    exact gi_iret (pc := 46) (ti_rfl v37) ⟨_, rfl, (ti_lo _), (ti_hi _), ⟨Q32, hv31, (by show (P.1.toInt ≤ 480 → (v37 : Int32).toInt = P.1.toInt + 20 ∧ Q32.1.toInt = P.1.toInt + 20) ∧ (480 < P.1.toInt → (v37 : Int32).toInt = -1 ∧ Q32.1.toInt = P.1.toInt); omega), (by first | rfl | (simp only [r34, r28, r22, r16, r10]))⟩, (k38.symm.trans kf)⟩ hv31 dX7_feed_46
  ·
    have k39 := if_f k2 (Int.not_le.mpr q5)
    refine go_iconst (pc := 13) (v := (-1)) (by decide) dX7_feed_13 ?_
    have z40 : ((-1) : Int32).toInt = (-1) := (ti_c (v := (-1)) (a := (-1)) (by decide))
    exact gi_iret (pc := 14) (ti_c (v := (-1)) (a := (-1)) (by decide)) ⟨_, rfl, (ti_lo _), (ti_hi _), ⟨P, hv, (by show (P.1.toInt ≤ 480 → ((-1) : Int32).toInt = P.1.toInt + 20 ∧ P.1.toInt = P.1.toInt + 20) ∧ (480 < P.1.toInt → ((-1) : Int32).toInt = -1 ∧ P.1.toInt = P.1.toInt); omega), (by first | rfl | (simp only [r34, r28, r22, r16, r10]))⟩, (by rw [show ((-1) : Int32).toInt = (-1) from (ti_c (v := (-1)) (a := (-1)) (by decide))]; exact k39.symm.trans kf)⟩ hv dX7_feed_14
def f_X7_end (s : ST) (a2 : Int) : ST × Int :=
  if a2 < 0 then ((s, 0)) else (bd (s.1 0 1) fun v5 => if a2 ≤ v5 then (bd (sI s 0 1 a2) fun s9 => (s9, 1)) else ((s, 0)))
set_option maxHeartbeats 4000000 in
set_option maxRecDepth 100000 in
theorem s_X7_end_f (l : Launch) (d : Nat) {P : PP} {h : HP} (hv : Iv P h) (a2 : Int32) : Mt l yX7_end cX7_end 2 (some .boolean) (d + 1) [.ref 0, .int a2] h 0 0 (fun r h' => ∃ v : Int32, r = some (.int v) ∧ 0 ≤ v.toInt ∧ v.toInt ≤ 1 ∧ (∃ Q : PP, Iv Q h' ∧ ((0 ≤ a2.toInt ∧ a2.toInt ≤ P.1.toInt → v.toInt = 1 ∧ Q.1.toInt = a2.toInt) ∧ (¬ (0 ≤ a2.toInt ∧ a2.toInt ≤ P.1.toInt) → v.toInt = 0 ∧ Q.1.toInt = P.1.toInt)) ∧ Q.2 = P.2) ∧ ((st h', v.toInt) = f_X7_end (st h) a2.toInt)) := by
  refine Mt_iv hv (by decide) (Nat.le_of_ble_eq_true rfl) ?_
  show Go l RX7 cX7_end 2 (g_rm (d + 1) 0 0) "end" (some .boolean) 117 0 0 (fun _ _ => True) (fun r h' => ∃ v : Int32, r = some (.int v) ∧ 0 ≤ v.toInt ∧ v.toInt ≤ 1 ∧ (∃ Q : PP, Iv Q h' ∧ ((0 ≤ a2.toInt ∧ a2.toInt ≤ P.1.toInt → v.toInt = 1 ∧ Q.1.toInt = a2.toInt) ∧ (¬ (0 ≤ a2.toInt ∧ a2.toInt ≤ P.1.toInt) → v.toInt = 0 ∧ Q.1.toInt = P.1.toInt)) ∧ Q.2 = P.2) ∧ ((st h', v.toInt) = f_X7_end (st h) a2.toInt)) 0 0 [(0, .ref 0), (1, .int a2)] [] h
  obtain ⟨fin, kf⟩ : ∃ z, z = f_X7_end (st h) a2.toInt := ⟨_, _root_.rfl⟩
  have k0 := kf
  unfold f_X7_end at k0
  refine go_iload_n (pc := 0) rfl dX7_end_0 ?_
  refine gf_if_lt (pc := 1) (tgt := 12) (ti_rfl a2) (by decide) dX7_end_1 (fun q1 => ?_) (fun q1 => ?_)
  ·
    have k2 := if_t k0 q1
    refine go_iconst (pc := 12) (v := 0) (by decide) dX7_end_12 ?_
    have z3 : (0 : Int32).toInt = 0 := (ti_c (v := 0) (a := 0) (by decide))
    exact gi_zret (pc := 13) (ti_c (v := 0) (a := 0) (by decide)) (by omega) (by omega) ⟨_, rfl, (by rw [show (0 : Int32).toInt = 0 from (ti_c (v := 0) (a := 0) (by decide))]; omega), (by rw [show (0 : Int32).toInt = 0 from (ti_c (v := 0) (a := 0) (by decide))]; omega), ⟨P, hv, (by show (0 ≤ a2.toInt ∧ a2.toInt ≤ P.1.toInt → (0 : Int32).toInt = 1 ∧ P.1.toInt = a2.toInt) ∧ (¬ (0 ≤ a2.toInt ∧ a2.toInt ≤ P.1.toInt) → (0 : Int32).toInt = 0 ∧ P.1.toInt = P.1.toInt); omega), rfl⟩, (by rw [show (0 : Int32).toInt = 0 from (ti_c (v := 0) (a := 0) (by decide))]; exact k2.symm.trans kf)⟩ hv dX7_end_13
  ·
    have k4 := if_f k0 (Int.not_lt.mpr q1)
    refine go_iload_n (pc := 4) rfl dX7_end_4 ?_
    refine go_aload_n (pc := 5) rfl dX7_end_5 ?_
    refine gi_get (pc := 6) (lo := 0) (hi := 500) hv fL_X7_13 rfl (Nat.le_of_ble_eq_true rfl) rfl rfl dX7_end_6 (fun v5 v5l v5u v5w => ?_)
    have v5p : v5.toInt = P.1.toInt := by rw [v5w]; exact congrArg Int32.toInt hv.t0
    have k6 := bd_e k4 (congrArg Int32.toInt v5w.symm)
    refine gf_icmp_le (pc := 9) (tgt := 14) (ti_rfl a2) (ti_rfl v5) (by decide) dX7_end_9 (fun q7 => ?_) (fun q7 => ?_)
    ·
      have k8 := if_t k6 q7
      refine go_aload_n (pc := 14) rfl dX7_end_14 ?_
      refine go_iload_n (pc := 15) rfl dX7_end_15 ?_
      refine gi_put0 (pc := 16) hv (ti_rfl a2) (fP_X7_13 _) (by omega) (by omega) dX7_end_16 (fun h9 hv9 hv9e => ?_)
      have k10 := bd_e k8 (st_I hv9e (ti_rfl a2))
      refine go_iconst (pc := 19) (v := 1) (by decide) dX7_end_19 ?_
      have z11 : (1 : Int32).toInt = 1 := (ti_c (v := 1) (a := 1) (by decide))
      exact gi_zret (pc := 20) (ti_c (v := 1) (a := 1) (by decide)) (by omega) (by omega) ⟨_, rfl, (by rw [show (1 : Int32).toInt = 1 from (ti_c (v := 1) (a := 1) (by decide))]; omega), (by rw [show (1 : Int32).toInt = 1 from (ti_c (v := 1) (a := 1) (by decide))]; omega), ⟨(a2, P.2.1, P.2.2.1, P.2.2.2), hv9, (by show (0 ≤ a2.toInt ∧ a2.toInt ≤ P.1.toInt → (1 : Int32).toInt = 1 ∧ a2.toInt = a2.toInt) ∧ (¬ (0 ≤ a2.toInt ∧ a2.toInt ≤ P.1.toInt) → (1 : Int32).toInt = 0 ∧ a2.toInt = P.1.toInt); omega), rfl⟩, (by rw [show (1 : Int32).toInt = 1 from (ti_c (v := 1) (a := 1) (by decide))]; exact k10.symm.trans kf)⟩ hv9 dX7_end_20
    ·
      have k12 := if_f k6 (Int.not_le.mpr q7)
      refine go_iconst (pc := 12) (v := 0) (by decide) dX7_end_12 ?_
      have z13 : (0 : Int32).toInt = 0 := (ti_c (v := 0) (a := 0) (by decide))
      exact gi_zret (pc := 13) (ti_c (v := 0) (a := 0) (by decide)) (by omega) (by omega) ⟨_, rfl, (by rw [show (0 : Int32).toInt = 0 from (ti_c (v := 0) (a := 0) (by decide))]; omega), (by rw [show (0 : Int32).toInt = 0 from (ti_c (v := 0) (a := 0) (by decide))]; omega), ⟨P, hv, (by show (0 ≤ a2.toInt ∧ a2.toInt ≤ P.1.toInt → (0 : Int32).toInt = 1 ∧ P.1.toInt = a2.toInt) ∧ (¬ (0 ≤ a2.toInt ∧ a2.toInt ≤ P.1.toInt) → (0 : Int32).toInt = 0 ∧ P.1.toInt = P.1.toInt); omega), rfl⟩, (by rw [show (0 : Int32).toInt = 0 from (ti_c (v := 0) (a := 0) (by decide))]; exact k12.symm.trans kf)⟩ hv dX7_end_13
def f_X8_put (s : ST) (a2 : Int) : ST :=
  bd (s.1 70 2) fun v2 => bd (o_ishr a2 24) fun v4 => bd (o_i2b v4) fun v6 => bd (sI s 71 (v2).toNat (o_i2b v6)) fun s8 => bd (s8.1 70 2) fun v10 => bd (sI s8 70 2 ((v10 + 1))) fun s14 => bd (s14.1 70 2) fun v20 => bd (o_ishr a2 ((24 + (-8)))) fun v22 => bd (o_i2b v22) fun v24 => bd (sI s14 71 (v20).toNat (o_i2b v24)) fun s26 => bd (s26.1 70 2) fun v28 => bd (sI s26 70 2 ((v28 + 1))) fun s32 => bd (s32.1 70 2) fun v38 => bd (o_ishr a2 (((24 + (-8)) + (-8)))) fun v40 => bd (o_i2b v40) fun v42 => bd (sI s32 71 (v38).toNat (o_i2b v42)) fun s44 => bd (s44.1 70 2) fun v46 => bd (sI s44 70 2 ((v46 + 1))) fun s50 => bd (s50.1 70 2) fun v56 => bd (o_ishr a2 ((((24 + (-8)) + (-8)) + (-8)))) fun v58 => bd (o_i2b v58) fun v60 => bd (sI s50 71 (v56).toNat (o_i2b v60)) fun s62 => bd (s62.1 70 2) fun v64 => bd (sI s62 70 2 ((v64 + 1))) fun s68 => s68
set_option maxHeartbeats 4000000 in
set_option maxRecDepth 100000 in
theorem s_X8_put_f (l : Launch) (d : Nat) {P : PP} {h : HP} (hv : Iv P h) (a2 : Int32) (hp : P.2.1.toInt ≤ 496) : Mt l yX8_put cX8_put 3 none (d + 1) [.ref 70, .int a2] h 0 0 (fun r h' => r = none ∧ (∃ Q : PP, Iv Q h' ∧ (Q.2.1.toInt = P.2.1.toInt + 4) ∧ Q.1 = P.1 ∧ Q.2.2 = P.2.2) ∧ (st h' = f_X8_put (st h) a2.toInt)) := by
  refine Mt_iv hv (by decide) (Nat.le_of_ble_eq_true rfl) ?_
  show Go l RX8 cX8_put 3 (g_rm (d + 1) 0 0) "put" none 117 0 0 (fun _ _ => True) (fun r h' => r = none ∧ (∃ Q : PP, Iv Q h' ∧ (Q.2.1.toInt = P.2.1.toInt + 4) ∧ Q.1 = P.1 ∧ Q.2.2 = P.2.2) ∧ (st h' = f_X8_put (st h) a2.toInt)) 0 0 [(0, .ref 70), (1, .int a2)] [] h
  obtain ⟨fin, kf⟩ : ∃ z, z = f_X8_put (st h) a2.toInt := ⟨_, _root_.rfl⟩
  have k0 := kf
  unfold f_X8_put at k0
  refine go_bipush (pc := 0) (v := 24) (by decide) dX8_put_0 ?_
  refine go_istore_n (pc := 2) (Nat.le_of_ble_eq_true rfl) dX8_put_2 (go_lv (lv2 := [(0, .ref 70), (1, .int a2), (2, .int 24)]) rfl ?_)
  refine go_iload_n (pc := 3) rfl dX8_put_3 ?_
  refine gf_if_lt (pc := 4) (tgt := 36) (ti_c (v := 24) (a := 24) (by decide)) (by decide) dX8_put_4 (fun q1 => False.elim (by omega)) (fun q1 => ?_)
  refine go_aload_n (pc := 7) rfl dX8_put_7 ?_
  refine gi_getF (pc := 8) (q := 71) hv fL_X8_7 rfl (Nat.le_of_ble_eq_true rfl) rfl (hv.rf (by decide)) dX8_put_8 ?_
  refine go_aload_n (pc := 11) rfl dX8_put_11 ?_
  refine gi_get (pc := 12) (lo := 0) (hi := 500) hv fL_X8_151 rfl (Nat.le_of_ble_eq_true rfl) rfl rfl dX8_put_12 (fun v2 v2l v2u v2w => ?_)
  have v2p : v2.toInt = P.2.1.toInt := by rw [v2w]; exact congrArg Int32.toInt hv.t1
  have k3 := bd_e k0 (congrArg Int32.toInt v2w.symm)
  refine go_iload_n (pc := 15) rfl dX8_put_15 ?_
  refine go_iload_n (pc := 16) rfl dX8_put_16 ?_
  refine gx_ishr (pc := 17) dX8_put_17 (fun v4 v4x => ?_)
  have k5 := bd_e k3 (so_ishr (ti_rfl a2) (ti_c (v := 24) (a := 24) (by decide)) v4x)
  refine gx_i2b (pc := 18) dX8_put_18 (fun v6 v6x => ?_)
  have k7 := bd_e k5 (so_i2b (ti_rfl v4) v6x)
  refine gi_bast (pc := 19) (len := 500) hv (ti_rfl v2) rfl (by omega) (by omega) (fun _ => rfl) (by decide) dX8_put_19 (fun h8 hv8 hv8e => ?_)
  have k9 := bd_e k7 (st_B hv8e (ti_rfl v6))
  refine go_aload_n (pc := 20) rfl dX8_put_20 ?_
  refine go_dup (pc := 21) rfl dX8_put_21 ?_
  refine gi_get (pc := 22) (lo := 0) (hi := 500) hv8 fL_X8_151 rfl (Nat.le_of_ble_eq_true rfl) rfl rfl dX8_put_22 (fun v10 v10l v10u v10w => ?_)
  have v10p : v10.toInt = P.2.1.toInt := by rw [v10w]; exact congrArg Int32.toInt hv8.t1
  have k11 := bd_e k9 (congrArg Int32.toInt v10w.symm)
  refine go_iconst (pc := 25) (v := 1) (by decide) dX8_put_25 ?_
  refine gf_iadd (pc := 26) (ti_rfl v10) (ti_c (v := 1) (a := 1) (by decide)) (by omega) (by omega) dX8_put_26 (fun v12 e13 => ?_)
  refine gi_put1 (pc := 27) hv8 e13 (fP_X8_151 _) (by omega) (by omega) dX8_put_27 (fun h14 hv14 hv14e => ?_)
  have z15 : v12.toInt = (v10.toInt + 1) := e13
  have k16 := bd_e k11 (st_I hv14e e13)
  refine gf_iinc (pc := 30) (Nat.le_of_ble_eq_true rfl) rfl (ti_c (v := 24) (a := 24) (by decide)) (ti_c (by decide)) (by omega) (by omega) dX8_put_30 (fun v17 e18 => ?_)
  refine go_lv (lv2 := [(0, .ref 70), (1, .int a2), (2, .int v17)]) rfl ?_
  refine go_goto (pc := 33) (tgt := 3) (by decide) dX8_put_33 ?_
  refine go_iload_n (pc := 3) rfl dX8_put_3 ?_
  refine gf_if_lt (pc := 4) (tgt := 36) e18 (by decide) dX8_put_4 (fun q19 => False.elim (by omega)) (fun q19 => ?_)
  refine go_aload_n (pc := 7) rfl dX8_put_7 ?_
  refine gi_getF (pc := 8) (q := 71) hv14 fL_X8_7 rfl (Nat.le_of_ble_eq_true rfl) rfl (hv14.rf (by decide)) dX8_put_8 ?_
  refine go_aload_n (pc := 11) rfl dX8_put_11 ?_
  refine gi_get (pc := 12) (lo := 0) (hi := 500) hv14 fL_X8_151 rfl (Nat.le_of_ble_eq_true rfl) rfl rfl dX8_put_12 (fun v20 v20l v20u v20w => ?_)
  have v20p : v20.toInt = v12.toInt := by rw [v20w]; exact congrArg Int32.toInt hv14.t1
  have k21 := bd_e k16 (congrArg Int32.toInt v20w.symm)
  refine go_iload_n (pc := 15) rfl dX8_put_15 ?_
  refine go_iload_n (pc := 16) rfl dX8_put_16 ?_
  refine gx_ishr (pc := 17) dX8_put_17 (fun v22 v22x => ?_)
  have k23 := bd_e k21 (so_ishr (ti_rfl a2) e18 v22x)
  refine gx_i2b (pc := 18) dX8_put_18 (fun v24 v24x => ?_)
  have k25 := bd_e k23 (so_i2b (ti_rfl v22) v24x)
  refine gi_bast (pc := 19) (len := 500) hv14 (ti_rfl v20) rfl (by omega) (by omega) (fun _ => rfl) (by decide) dX8_put_19 (fun h26 hv26 hv26e => ?_)
  have k27 := bd_e k25 (st_B hv26e (ti_rfl v24))
  refine go_aload_n (pc := 20) rfl dX8_put_20 ?_
  refine go_dup (pc := 21) rfl dX8_put_21 ?_
  refine gi_get (pc := 22) (lo := 0) (hi := 500) hv26 fL_X8_151 rfl (Nat.le_of_ble_eq_true rfl) rfl rfl dX8_put_22 (fun v28 v28l v28u v28w => ?_)
  have v28p : v28.toInt = v12.toInt := by rw [v28w]; exact congrArg Int32.toInt hv26.t1
  have k29 := bd_e k27 (congrArg Int32.toInt v28w.symm)
  refine go_iconst (pc := 25) (v := 1) (by decide) dX8_put_25 ?_
  refine gf_iadd (pc := 26) (ti_rfl v28) (ti_c (v := 1) (a := 1) (by decide)) (by omega) (by omega) dX8_put_26 (fun v30 e31 => ?_)
  refine gi_put1 (pc := 27) hv26 e31 (fP_X8_151 _) (by omega) (by omega) dX8_put_27 (fun h32 hv32 hv32e => ?_)
  have z33 : v30.toInt = (v28.toInt + 1) := e31
  have k34 := bd_e k29 (st_I hv32e e31)
  refine gf_iinc (pc := 30) (Nat.le_of_ble_eq_true rfl) rfl e18 (ti_c (by decide)) (by omega) (by omega) dX8_put_30 (fun v35 e36 => ?_)
  refine go_lv (lv2 := [(0, .ref 70), (1, .int a2), (2, .int v35)]) rfl ?_
  refine go_goto (pc := 33) (tgt := 3) (by decide) dX8_put_33 ?_
  refine go_iload_n (pc := 3) rfl dX8_put_3 ?_
  refine gf_if_lt (pc := 4) (tgt := 36) e36 (by decide) dX8_put_4 (fun q37 => False.elim (by omega)) (fun q37 => ?_)
  refine go_aload_n (pc := 7) rfl dX8_put_7 ?_
  refine gi_getF (pc := 8) (q := 71) hv32 fL_X8_7 rfl (Nat.le_of_ble_eq_true rfl) rfl (hv32.rf (by decide)) dX8_put_8 ?_
  refine go_aload_n (pc := 11) rfl dX8_put_11 ?_
  refine gi_get (pc := 12) (lo := 0) (hi := 500) hv32 fL_X8_151 rfl (Nat.le_of_ble_eq_true rfl) rfl rfl dX8_put_12 (fun v38 v38l v38u v38w => ?_)
  have v38p : v38.toInt = v30.toInt := by rw [v38w]; exact congrArg Int32.toInt hv32.t1
  have k39 := bd_e k34 (congrArg Int32.toInt v38w.symm)
  refine go_iload_n (pc := 15) rfl dX8_put_15 ?_
  refine go_iload_n (pc := 16) rfl dX8_put_16 ?_
  refine gx_ishr (pc := 17) dX8_put_17 (fun v40 v40x => ?_)
  have k41 := bd_e k39 (so_ishr (ti_rfl a2) e36 v40x)
  refine gx_i2b (pc := 18) dX8_put_18 (fun v42 v42x => ?_)
  have k43 := bd_e k41 (so_i2b (ti_rfl v40) v42x)
  refine gi_bast (pc := 19) (len := 500) hv32 (ti_rfl v38) rfl (by omega) (by omega) (fun _ => rfl) (by decide) dX8_put_19 (fun h44 hv44 hv44e => ?_)
  have k45 := bd_e k43 (st_B hv44e (ti_rfl v42))
  refine go_aload_n (pc := 20) rfl dX8_put_20 ?_
  refine go_dup (pc := 21) rfl dX8_put_21 ?_
  refine gi_get (pc := 22) (lo := 0) (hi := 500) hv44 fL_X8_151 rfl (Nat.le_of_ble_eq_true rfl) rfl rfl dX8_put_22 (fun v46 v46l v46u v46w => ?_)
  have v46p : v46.toInt = v30.toInt := by rw [v46w]; exact congrArg Int32.toInt hv44.t1
  have k47 := bd_e k45 (congrArg Int32.toInt v46w.symm)
  refine go_iconst (pc := 25) (v := 1) (by decide) dX8_put_25 ?_
  refine gf_iadd (pc := 26) (ti_rfl v46) (ti_c (v := 1) (a := 1) (by decide)) (by omega) (by omega) dX8_put_26 (fun v48 e49 => ?_)
  refine gi_put1 (pc := 27) hv44 e49 (fP_X8_151 _) (by omega) (by omega) dX8_put_27 (fun h50 hv50 hv50e => ?_)
  have z51 : v48.toInt = (v46.toInt + 1) := e49
  have k52 := bd_e k47 (st_I hv50e e49)
  refine gf_iinc (pc := 30) (Nat.le_of_ble_eq_true rfl) rfl e36 (ti_c (by decide)) (by omega) (by omega) dX8_put_30 (fun v53 e54 => ?_)
  refine go_lv (lv2 := [(0, .ref 70), (1, .int a2), (2, .int v53)]) rfl ?_
  refine go_goto (pc := 33) (tgt := 3) (by decide) dX8_put_33 ?_
  refine go_iload_n (pc := 3) rfl dX8_put_3 ?_
  refine gf_if_lt (pc := 4) (tgt := 36) e54 (by decide) dX8_put_4 (fun q55 => False.elim (by omega)) (fun q55 => ?_)
  refine go_aload_n (pc := 7) rfl dX8_put_7 ?_
  refine gi_getF (pc := 8) (q := 71) hv50 fL_X8_7 rfl (Nat.le_of_ble_eq_true rfl) rfl (hv50.rf (by decide)) dX8_put_8 ?_
  refine go_aload_n (pc := 11) rfl dX8_put_11 ?_
  refine gi_get (pc := 12) (lo := 0) (hi := 500) hv50 fL_X8_151 rfl (Nat.le_of_ble_eq_true rfl) rfl rfl dX8_put_12 (fun v56 v56l v56u v56w => ?_)
  have v56p : v56.toInt = v48.toInt := by rw [v56w]; exact congrArg Int32.toInt hv50.t1
  have k57 := bd_e k52 (congrArg Int32.toInt v56w.symm)
  refine go_iload_n (pc := 15) rfl dX8_put_15 ?_
  refine go_iload_n (pc := 16) rfl dX8_put_16 ?_
  refine gx_ishr (pc := 17) dX8_put_17 (fun v58 v58x => ?_)
  have k59 := bd_e k57 (so_ishr (ti_rfl a2) e54 v58x)
  refine gx_i2b (pc := 18) dX8_put_18 (fun v60 v60x => ?_)
  have k61 := bd_e k59 (so_i2b (ti_rfl v58) v60x)
  refine gi_bast (pc := 19) (len := 500) hv50 (ti_rfl v56) rfl (by omega) (by omega) (fun _ => rfl) (by decide) dX8_put_19 (fun h62 hv62 hv62e => ?_)
  have k63 := bd_e k61 (st_B hv62e (ti_rfl v60))
  refine go_aload_n (pc := 20) rfl dX8_put_20 ?_
  refine go_dup (pc := 21) rfl dX8_put_21 ?_
  refine gi_get (pc := 22) (lo := 0) (hi := 500) hv62 fL_X8_151 rfl (Nat.le_of_ble_eq_true rfl) rfl rfl dX8_put_22 (fun v64 v64l v64u v64w => ?_)
  have v64p : v64.toInt = v48.toInt := by rw [v64w]; exact congrArg Int32.toInt hv62.t1
  have k65 := bd_e k63 (congrArg Int32.toInt v64w.symm)
  refine go_iconst (pc := 25) (v := 1) (by decide) dX8_put_25 ?_
  refine gf_iadd (pc := 26) (ti_rfl v64) (ti_c (v := 1) (a := 1) (by decide)) (by omega) (by omega) dX8_put_26 (fun v66 e67 => ?_)
  refine gi_put1 (pc := 27) hv62 e67 (fP_X8_151 _) (by omega) (by omega) dX8_put_27 (fun h68 hv68 hv68e => ?_)
  have z69 : v66.toInt = (v64.toInt + 1) := e67
  have k70 := bd_e k65 (st_I hv68e e67)
  refine gf_iinc (pc := 30) (Nat.le_of_ble_eq_true rfl) rfl e54 (ti_c (by decide)) (by omega) (by omega) dX8_put_30 (fun v71 e72 => ?_)
  refine go_lv (lv2 := [(0, .ref 70), (1, .int a2), (2, .int v71)]) rfl ?_
  refine go_goto (pc := 33) (tgt := 3) (by decide) dX8_put_33 ?_
  refine go_iload_n (pc := 3) rfl dX8_put_3 ?_
  refine gf_if_lt (pc := 4) (tgt := 36) e72 (by decide) dX8_put_4 (fun q73 => ?_) (fun q73 => False.elim (by omega))
  exact gi_vret (pc := 36) ⟨rfl, ⟨((((P.1, v12, P.2.2.1, P.2.2.2).1, v30, (P.1, v12, P.2.2.1, P.2.2.2).2.2.1, (P.1, v12, P.2.2.1, P.2.2.2).2.2.2).1, v48, ((P.1, v12, P.2.2.1, P.2.2.2).1, v30, (P.1, v12, P.2.2.1, P.2.2.2).2.2.1, (P.1, v12, P.2.2.1, P.2.2.2).2.2.2).2.2.1, ((P.1, v12, P.2.2.1, P.2.2.2).1, v30, (P.1, v12, P.2.2.1, P.2.2.2).2.2.1, (P.1, v12, P.2.2.1, P.2.2.2).2.2.2).2.2.2).1, v66, (((P.1, v12, P.2.2.1, P.2.2.2).1, v30, (P.1, v12, P.2.2.1, P.2.2.2).2.2.1, (P.1, v12, P.2.2.1, P.2.2.2).2.2.2).1, v48, ((P.1, v12, P.2.2.1, P.2.2.2).1, v30, (P.1, v12, P.2.2.1, P.2.2.2).2.2.1, (P.1, v12, P.2.2.1, P.2.2.2).2.2.2).2.2.1, ((P.1, v12, P.2.2.1, P.2.2.2).1, v30, (P.1, v12, P.2.2.1, P.2.2.2).2.2.1, (P.1, v12, P.2.2.1, P.2.2.2).2.2.2).2.2.2).2.2.1, (((P.1, v12, P.2.2.1, P.2.2.2).1, v30, (P.1, v12, P.2.2.1, P.2.2.2).2.2.1, (P.1, v12, P.2.2.1, P.2.2.2).2.2.2).1, v48, ((P.1, v12, P.2.2.1, P.2.2.2).1, v30, (P.1, v12, P.2.2.1, P.2.2.2).2.2.1, (P.1, v12, P.2.2.1, P.2.2.2).2.2.2).2.2.1, ((P.1, v12, P.2.2.1, P.2.2.2).1, v30, (P.1, v12, P.2.2.1, P.2.2.2).2.2.1, (P.1, v12, P.2.2.1, P.2.2.2).2.2.2).2.2.2).2.2.2), hv68, (by show v66.toInt = P.2.1.toInt + 4; omega), rfl, rfl⟩, (k70.symm.trans kf)⟩ hv68 dX8_put_36
def f_X8_feed (s : ST) (a2 : Int) (a3 : Int) (a4 : Int) (a5 : Int) (a6 : Int) : ST × Int :=
  bd (s.1 70 2) fun v1 => if (v1 + 20) ≤ 500 then (bd (f_X8_put s a2) fun s7 => bd (f_X8_put s7 a3) fun s14 => bd (f_X8_put s14 a4) fun s21 => bd (f_X8_put s21 a5) fun s28 => bd (f_X8_put s28 a6) fun s35 => bd (s35.1 70 2) fun v42 => (s35, v42)) else ((s, (-1)))
set_option maxHeartbeats 4000000 in
set_option maxRecDepth 100000 in
theorem s_X8_feed_f (l : Launch) (d : Nat) {P : PP} {h : HP} (hv : Iv P h) (a2 : Int32) (a3 : Int32) (a4 : Int32) (a5 : Int32) (a6 : Int32) : Mt l yX8_feed cX8_feed 6 (some .int) (d + 2) [.ref 70, .int a2, .int a3, .int a4, .int a5, .int a6] h 0 0 (fun r h' => ∃ v : Int32, r = some (.int v) ∧ -2147483648 ≤ v.toInt ∧ v.toInt ≤ 2147483647 ∧ (∃ Q : PP, Iv Q h' ∧ ((P.2.1.toInt ≤ 480 → v.toInt = P.2.1.toInt + 20 ∧ Q.2.1.toInt = P.2.1.toInt + 20) ∧ (480 < P.2.1.toInt → v.toInt = -1 ∧ Q.2.1.toInt = P.2.1.toInt)) ∧ Q.1 = P.1 ∧ Q.2.2 = P.2.2) ∧ ((st h', v.toInt) = f_X8_feed (st h) a2.toInt a3.toInt a4.toInt a5.toInt a6.toInt)) := by
  refine Mt_iv hv (by decide) (Nat.le_of_ble_eq_true rfl) ?_
  show Go l RX8 cX8_feed 6 (g_rm (d + 2) 0 0) "feed" (some .int) 117 0 0 (fun _ _ => True) (fun r h' => ∃ v : Int32, r = some (.int v) ∧ -2147483648 ≤ v.toInt ∧ v.toInt ≤ 2147483647 ∧ (∃ Q : PP, Iv Q h' ∧ ((P.2.1.toInt ≤ 480 → v.toInt = P.2.1.toInt + 20 ∧ Q.2.1.toInt = P.2.1.toInt + 20) ∧ (480 < P.2.1.toInt → v.toInt = -1 ∧ Q.2.1.toInt = P.2.1.toInt)) ∧ Q.1 = P.1 ∧ Q.2.2 = P.2.2) ∧ ((st h', v.toInt) = f_X8_feed (st h) a2.toInt a3.toInt a4.toInt a5.toInt a6.toInt)) 0 0 [(0, .ref 70), (1, .int a2), (2, .int a3), (3, .int a4), (4, .int a5), (5, .int a6)] [] h
  obtain ⟨fin, kf⟩ : ∃ z, z = f_X8_feed (st h) a2.toInt a3.toInt a4.toInt a5.toInt a6.toInt := ⟨_, _root_.rfl⟩
  have k0 := kf
  unfold f_X8_feed at k0
  refine go_aload_n (pc := 0) rfl dX8_feed_0 ?_
  refine gi_get (pc := 1) (lo := 0) (hi := 500) hv fL_X8_151 rfl (Nat.le_of_ble_eq_true rfl) rfl rfl dX8_feed_1 (fun v1 v1l v1u v1w => ?_)
  have v1p : v1.toInt = P.2.1.toInt := by rw [v1w]; exact congrArg Int32.toInt hv.t1
  have k2 := bd_e k0 (congrArg Int32.toInt v1w.symm)
  refine go_bipush (pc := 4) (v := 20) (by decide) dX8_feed_4 ?_
  refine gf_iadd (pc := 6) (ti_rfl v1) (ti_c (v := 20) (a := 20) (by decide)) (by omega) (by omega) dX8_feed_6 (fun v3 e4 => ?_)
  refine go_sipush (pc := 7) (v := 500) (by decide) dX8_feed_7 ?_
  refine gf_icmp_le (pc := 10) (tgt := 15) e4 (ti_c (v := 500) (a := 500) (by decide)) (by decide) dX8_feed_10 (fun q5 => ?_) (fun q5 => ?_)
  ·
    have k6 := if_t k2 q5
    refine go_aload_n (pc := 15) rfl dX8_feed_15 ?_
    refine go_iload_n (pc := 16) rfl dX8_feed_16 ?_
    refine go_invV (pc := 17) (sl := 0) (s_X8_put_f l (d + 0) hv a2 (by show P.2.1.toInt ≤ 496; omega)) mL_X8_155 iM_X8_put sM_X8_put (hv.sh rfl) rfl rfl rfl (Nat.le_of_ble_eq_true rfl) (show d + 0 + 1 + 1 ≤ d + 2 by omega) (show 8 + (3 + 11) + 40 * (d + 0 + 1) ≤ 40 * (d + 2) by omega) (g_c0 hv.ln) (Nat.le_of_ble_eq_true rfl) dX8_feed_17 ?_
    intro r h7 hq _
    obtain ⟨rfl, ⟨Q8, hv7, r9, r10, r11⟩, f12⟩ := hq
    have k13 := bd_e k6 f12.symm
    have r9 : Q8.2.1.toInt = P.2.1.toInt + 4 := r9
    refine go_aload_n (pc := 20) rfl dX8_feed_20 ?_
    refine go_iload_n (pc := 21) rfl dX8_feed_21 ?_
    refine go_invV (pc := 22) (sl := 0) (s_X8_put_f l (d + 0) hv7 a3 (by show Q8.2.1.toInt ≤ 496; omega)) mL_X8_155 iM_X8_put sM_X8_put (hv7.sh rfl) rfl rfl rfl (Nat.le_of_ble_eq_true rfl) (show d + 0 + 1 + 1 ≤ d + 2 by omega) (show 8 + (3 + 11) + 40 * (d + 0 + 1) ≤ 40 * (d + 2) by omega) (g_c0 hv7.ln) (Nat.le_of_ble_eq_true rfl) dX8_feed_22 ?_
    intro r h14 hq _
    obtain ⟨rfl, ⟨Q15, hv14, r16, r17, r18⟩, f19⟩ := hq
    have k20 := bd_e k13 f19.symm
    have r16 : Q15.2.1.toInt = Q8.2.1.toInt + 4 := r16
    refine go_aload_n (pc := 25) rfl dX8_feed_25 ?_
    refine go_iload_n (pc := 26) rfl dX8_feed_26 ?_
    refine go_invV (pc := 27) (sl := 0) (s_X8_put_f l (d + 0) hv14 a4 (by show Q15.2.1.toInt ≤ 496; omega)) mL_X8_155 iM_X8_put sM_X8_put (hv14.sh rfl) rfl rfl rfl (Nat.le_of_ble_eq_true rfl) (show d + 0 + 1 + 1 ≤ d + 2 by omega) (show 8 + (3 + 11) + 40 * (d + 0 + 1) ≤ 40 * (d + 2) by omega) (g_c0 hv14.ln) (Nat.le_of_ble_eq_true rfl) dX8_feed_27 ?_
    intro r h21 hq _
    obtain ⟨rfl, ⟨Q22, hv21, r23, r24, r25⟩, f26⟩ := hq
    have k27 := bd_e k20 f26.symm
    have r23 : Q22.2.1.toInt = Q15.2.1.toInt + 4 := r23
    refine go_aload_n (pc := 30) rfl dX8_feed_30 ?_
    refine go_iload (pc := 31) rfl dX8_feed_31 ?_
    refine go_invV (pc := 33) (sl := 0) (s_X8_put_f l (d + 0) hv21 a5 (by show Q22.2.1.toInt ≤ 496; omega)) mL_X8_155 iM_X8_put sM_X8_put (hv21.sh rfl) rfl rfl rfl (Nat.le_of_ble_eq_true rfl) (show d + 0 + 1 + 1 ≤ d + 2 by omega) (show 8 + (3 + 11) + 40 * (d + 0 + 1) ≤ 40 * (d + 2) by omega) (g_c0 hv21.ln) (Nat.le_of_ble_eq_true rfl) dX8_feed_33 ?_
    intro r h28 hq _
    obtain ⟨rfl, ⟨Q29, hv28, r30, r31, r32⟩, f33⟩ := hq
    have k34 := bd_e k27 f33.symm
    have r30 : Q29.2.1.toInt = Q22.2.1.toInt + 4 := r30
    refine go_aload_n (pc := 36) rfl dX8_feed_36 ?_
    refine go_iload (pc := 37) rfl dX8_feed_37 ?_
    refine go_invV (pc := 39) (sl := 0) (s_X8_put_f l (d + 0) hv28 a6 (by show Q29.2.1.toInt ≤ 496; omega)) mL_X8_155 iM_X8_put sM_X8_put (hv28.sh rfl) rfl rfl rfl (Nat.le_of_ble_eq_true rfl) (show d + 0 + 1 + 1 ≤ d + 2 by omega) (show 8 + (3 + 11) + 40 * (d + 0 + 1) ≤ 40 * (d + 2) by omega) (g_c0 hv28.ln) (Nat.le_of_ble_eq_true rfl) dX8_feed_39 ?_
    intro r h35 hq _
    obtain ⟨rfl, ⟨Q36, hv35, r37, r38, r39⟩, f40⟩ := hq
    have k41 := bd_e k34 f40.symm
    have r37 : Q36.2.1.toInt = Q29.2.1.toInt + 4 := r37
    refine go_aload_n (pc := 42) rfl dX8_feed_42 ?_
    refine gi_get (pc := 43) (lo := 0) (hi := 500) hv35 fL_X8_151 rfl (Nat.le_of_ble_eq_true rfl) rfl rfl dX8_feed_43 (fun v42 v42l v42u v42w => ?_)
    have v42p : v42.toInt = Q36.2.1.toInt := by rw [v42w]; exact congrArg Int32.toInt hv35.t1
    have k43 := bd_e k41 (congrArg Int32.toInt v42w.symm)
    exact gi_iret (pc := 46) (ti_rfl v42) ⟨_, rfl, (ti_lo _), (ti_hi _), ⟨Q36, hv35, (by show (P.2.1.toInt ≤ 480 → (v42 : Int32).toInt = P.2.1.toInt + 20 ∧ Q36.2.1.toInt = P.2.1.toInt + 20) ∧ (480 < P.2.1.toInt → (v42 : Int32).toInt = -1 ∧ Q36.2.1.toInt = P.2.1.toInt); omega), (by first | rfl | (simp only [r39, r38, r32, r31, r25, r24, r18, r17, r11, r10])), (by first | rfl | (simp only [r39, r38, r32, r31, r25, r24, r18, r17, r11, r10]))⟩, (k43.symm.trans kf)⟩ hv35 dX8_feed_46
  ·
    have k44 := if_f k2 (Int.not_le.mpr q5)
    refine go_iconst (pc := 13) (v := (-1)) (by decide) dX8_feed_13 ?_
    have z45 : ((-1) : Int32).toInt = (-1) := (ti_c (v := (-1)) (a := (-1)) (by decide))
    exact gi_iret (pc := 14) (ti_c (v := (-1)) (a := (-1)) (by decide)) ⟨_, rfl, (ti_lo _), (ti_hi _), ⟨P, hv, (by show (P.2.1.toInt ≤ 480 → ((-1) : Int32).toInt = P.2.1.toInt + 20 ∧ P.2.1.toInt = P.2.1.toInt + 20) ∧ (480 < P.2.1.toInt → ((-1) : Int32).toInt = -1 ∧ P.2.1.toInt = P.2.1.toInt); omega), (by first | rfl | (simp only [r39, r38, r32, r31, r25, r24, r18, r17, r11, r10])), (by first | rfl | (simp only [r39, r38, r32, r31, r25, r24, r18, r17, r11, r10]))⟩, (by rw [show ((-1) : Int32).toInt = (-1) from (ti_c (v := (-1)) (a := (-1)) (by decide))]; exact k44.symm.trans kf)⟩ hv dX8_feed_14
def f_X8_end (s : ST) (a2 : Int) : ST × Int :=
  bd (s.1 70 2) fun v1 => bd (f_X8_isIn s a2 0 v1) fun v7 => if ¬ v7 = 0 then (bd (sI s 70 2 a2) fun s11 => (s11, 1)) else ((s, 0))
set_option maxHeartbeats 4000000 in
set_option maxRecDepth 100000 in
theorem s_X8_end_f (l : Launch) (d : Nat) {P : PP} {h : HP} (hv : Iv P h) (a2 : Int32) : Mt l yX8_end cX8_end 2 (some .boolean) (d + 2) [.ref 70, .int a2] h 0 0 (fun r h' => ∃ v : Int32, r = some (.int v) ∧ 0 ≤ v.toInt ∧ v.toInt ≤ 1 ∧ (∃ Q : PP, Iv Q h' ∧ ((0 ≤ a2.toInt ∧ a2.toInt ≤ P.2.1.toInt → v.toInt = 1 ∧ Q.2.1.toInt = a2.toInt) ∧ (¬ (0 ≤ a2.toInt ∧ a2.toInt ≤ P.2.1.toInt) → v.toInt = 0 ∧ Q.2.1.toInt = P.2.1.toInt)) ∧ Q.1 = P.1 ∧ Q.2.2 = P.2.2) ∧ ((st h', v.toInt) = f_X8_end (st h) a2.toInt)) := by
  refine Mt_iv hv (by decide) (Nat.le_of_ble_eq_true rfl) ?_
  show Go l RX8 cX8_end 2 (g_rm (d + 2) 0 0) "end" (some .boolean) 117 0 0 (fun _ _ => True) (fun r h' => ∃ v : Int32, r = some (.int v) ∧ 0 ≤ v.toInt ∧ v.toInt ≤ 1 ∧ (∃ Q : PP, Iv Q h' ∧ ((0 ≤ a2.toInt ∧ a2.toInt ≤ P.2.1.toInt → v.toInt = 1 ∧ Q.2.1.toInt = a2.toInt) ∧ (¬ (0 ≤ a2.toInt ∧ a2.toInt ≤ P.2.1.toInt) → v.toInt = 0 ∧ Q.2.1.toInt = P.2.1.toInt)) ∧ Q.1 = P.1 ∧ Q.2.2 = P.2.2) ∧ ((st h', v.toInt) = f_X8_end (st h) a2.toInt)) 0 0 [(0, .ref 70), (1, .int a2)] [] h
  obtain ⟨fin, kf⟩ : ∃ z, z = f_X8_end (st h) a2.toInt := ⟨_, _root_.rfl⟩
  have k0 := kf
  unfold f_X8_end at k0
  refine go_iload_n (pc := 0) rfl dX8_end_0 ?_
  refine go_iconst (pc := 1) (v := 0) (by decide) dX8_end_1 ?_
  refine go_aload_n (pc := 2) rfl dX8_end_2 ?_
  refine gi_get (pc := 3) (lo := 0) (hi := 500) hv fL_X8_151 rfl (Nat.le_of_ble_eq_true rfl) rfl rfl dX8_end_3 (fun v1 v1l v1u v1w => ?_)
  have v1p : v1.toInt = P.2.1.toInt := by rw [v1w]; exact congrArg Int32.toInt hv.t1
  have k2 := bd_e k0 (congrArg Int32.toInt v1w.symm)
  refine go_invS (pc := 6) (sl := 0) (s_X8_isIn_f l (d + 0) hv a2 0 v1) mL_X8_159 iM_X8_isIn rfl rfl (Nat.le_of_ble_eq_true rfl) (show d + 0 + 1 + 1 ≤ d + 2 by omega) (show 8 + (3 + 11) + 40 * (d + 0 + 1) ≤ 40 * (d + 2) by omega) (g_c0 hv.ln) (Nat.le_of_ble_eq_true rfl) dX8_end_6 ?_
  intro r h3 hq _
  obtain ⟨v7, rfl, v7l, v7u, rfl, f4, f5, f6⟩ := hq
  try rw [show (0 : Int32).toInt = 0 from (ti_c (v := 0) (a := 0) (by decide))] at f4
  try rw [show (0 : Int32).toInt = 0 from (ti_c (v := 0) (a := 0) (by decide))] at f5
  try rw [show (0 : Int32).toInt = 0 from (ti_c (v := 0) (a := 0) (by decide))] at f6
  replace f6 : PE _ _ := f6
  have k8 := bd_e k2 f6.symm
  refine gf_if_ne (pc := 9) (tgt := 14) (ti_rfl v7) (by decide) dX8_end_9 (fun q9 => ?_) (fun q9 => ?_)
  ·
    have k10 := if_t k8 q9
    refine go_aload_n (pc := 14) rfl dX8_end_14 ?_
    refine go_iload_n (pc := 15) rfl dX8_end_15 ?_
    refine gi_put1 (pc := 16) hv (ti_rfl a2) (fP_X8_151 _) (by omega) (by omega) dX8_end_16 (fun h11 hv11 hv11e => ?_)
    have k12 := bd_e k10 (st_I hv11e (ti_rfl a2))
    refine go_iconst (pc := 19) (v := 1) (by decide) dX8_end_19 ?_
    have z13 : (1 : Int32).toInt = 1 := (ti_c (v := 1) (a := 1) (by decide))
    exact gi_zret (pc := 20) (ti_c (v := 1) (a := 1) (by decide)) (by omega) (by omega) ⟨_, rfl, (by rw [show (1 : Int32).toInt = 1 from (ti_c (v := 1) (a := 1) (by decide))]; omega), (by rw [show (1 : Int32).toInt = 1 from (ti_c (v := 1) (a := 1) (by decide))]; omega), ⟨(P.1, a2, P.2.2.1, P.2.2.2), hv11, (by show (0 ≤ a2.toInt ∧ a2.toInt ≤ P.2.1.toInt → (1 : Int32).toInt = 1 ∧ a2.toInt = a2.toInt) ∧ (¬ (0 ≤ a2.toInt ∧ a2.toInt ≤ P.2.1.toInt) → (1 : Int32).toInt = 0 ∧ a2.toInt = P.2.1.toInt); omega), rfl, rfl⟩, (by rw [show (1 : Int32).toInt = 1 from (ti_c (v := 1) (a := 1) (by decide))]; exact k12.symm.trans kf)⟩ hv11 dX8_end_20
  ·
    have k14 := if_f k8 (fun z => z q9)
    refine go_iconst (pc := 12) (v := 0) (by decide) dX8_end_12 ?_
    have z15 : (0 : Int32).toInt = 0 := (ti_c (v := 0) (a := 0) (by decide))
    exact gi_zret (pc := 13) (ti_c (v := 0) (a := 0) (by decide)) (by omega) (by omega) ⟨_, rfl, (by rw [show (0 : Int32).toInt = 0 from (ti_c (v := 0) (a := 0) (by decide))]; omega), (by rw [show (0 : Int32).toInt = 0 from (ti_c (v := 0) (a := 0) (by decide))]; omega), ⟨P, hv, (by show (0 ≤ a2.toInt ∧ a2.toInt ≤ P.2.1.toInt → (0 : Int32).toInt = 1 ∧ P.2.1.toInt = a2.toInt) ∧ (¬ (0 ≤ a2.toInt ∧ a2.toInt ≤ P.2.1.toInt) → (0 : Int32).toInt = 0 ∧ P.2.1.toInt = P.2.1.toInt); omega), rfl, rfl⟩, (by rw [show (0 : Int32).toInt = 0 from (ti_c (v := 0) (a := 0) (by decide))]; exact k14.symm.trans kf)⟩ hv dX8_end_13

