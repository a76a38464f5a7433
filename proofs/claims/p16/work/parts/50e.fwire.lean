def f_X6_wireBlock_lv7_ : Nat → Nat → Int → Int → Int → Int → Int → ST → ST × Int
  | 0, _, _, _, _, _, _, sx => (sx, 0)
  | n + 1, _, l3, l4, l5, l6, l7, sx => (sx, l5)
def f_X6_wireBlock_lv7 (s : ST) (a2 : Int) (a3 : Int) (a4 : Int) (a5 : Int) : ST × Int :=
  f_X6_wireBlock_lv7_ 19 20 a4 a5 a3 (-1) 0 s
set_option maxHeartbeats 4000000 in
set_option maxRecDepth 100000 in
theorem s_X6_wireBlock_lv7_f (l : Launch) (d : Nat) {P : PP} {h : HP} (hv : Iv P h) (a2 : Int32) (a2l : -1 ≤ a2.toInt) (a2u : a2.toInt ≤ 127) (a3 : Int32) (a3l : 0 ≤ a3.toInt) (a3u : a3.toInt ≤ 44) (a4 : Int32) (a4l : -1 ≤ a4.toInt) (a4u : a4.toInt ≤ 127) (a5 : Int32) (a5l : 7 ≤ a5.toInt) (a5u : a5.toInt ≤ 7) : Mt l yX6_wireBlock cX6_wireBlock 8 (some .int) (d + 1) [.ref 48, .int a2, .int a3, .int a4, .int a5] h 0 0 (fun r h' => ∃ v : Int32, r = some (.int v) ∧ 0 ≤ v.toInt ∧ v.toInt ≤ 44 ∧ Iv P h' ∧ ((st h', v.toInt) = f_X6_wireBlock_lv7 (st h) a2.toInt a3.toInt a4.toInt a5.toInt) ∧ (FX KC0 h h')) := by
  refine Mt_iv hv (by decide) (Nat.le_of_ble_eq_true rfl) ?_
  show Go l RX6 cX6_wireBlock 8 (g_rm (d + 1) 0 0) "wireBlock" (some .int) 117 0 0 (fun _ _ => True) (fun r h' => ∃ v : Int32, r = some (.int v) ∧ 0 ≤ v.toInt ∧ v.toInt ≤ 44 ∧ Iv P h' ∧ ((st h', v.toInt) = f_X6_wireBlock_lv7 (st h) a2.toInt a3.toInt a4.toInt a5.toInt) ∧ (FX KC0 h h')) 0 0 [(0, .ref 48), (1, .int a2), (2, .int a3), (3, .int a4), (4, .int a5)] [] h
  have fx : FX KC0 h h := FX.rfl
  obtain ⟨fin, kf⟩ : ∃ z, z = f_X6_wireBlock_lv7 (st h) a2.toInt a3.toInt a4.toInt a5.toInt := ⟨_, _root_.rfl⟩
  have k0 := kf
  unfold f_X6_wireBlock_lv7 at k0
  have key : ∀ n : Nat, (∀ (l3 : Int32) (l4 : Int32) (l5 : Int32) (l6 : Int32) (l7 : Int32) (hx : HP), Iv P hx → -1 ≤ l3.toInt → l3.toInt ≤ 127 → 7 ≤ l4.toInt → l4.toInt ≤ 7 → 0 ≤ l5.toInt → l5.toInt ≤ 44 → -1 ≤ l6.toInt → l6.toInt ≤ -1 → 0 ≤ l7.toInt → l7.toInt ≤ 0 → FX KC0 h hx → fin = f_X6_wireBlock_lv7_ n 20 l3.toInt l4.toInt l5.toInt l6.toInt l7.toInt (st hx) → (3 * (0 - l7.toInt) + 2 : Int) < n → Go l RX6 cX6_wireBlock 8 (g_rm (d + 1) 0 0) "wireBlock" (some .int) 117 0 0 (fun _ _ => True) (fun r h' => ∃ v : Int32, r = some (.int v) ∧ 0 ≤ v.toInt ∧ v.toInt ≤ 44 ∧ Iv P h' ∧ ((st h', v.toInt) = f_X6_wireBlock_lv7 (st h) a2.toInt a3.toInt a4.toInt a5.toInt) ∧ (FX KC0 h h')) 0 20 [(0, .ref 48), (3, .int l3), (4, .int l4), (5, .int l5), (6, .int l6), (7, .int l7)] [] hx) := by
    intro n
    induction n with
    | zero => exact (by intros; omega)
    | succ n ih =>
      refine ?_
      ·
        intro l3 l4 l5 l6 l7 hx hvx l3l l3u l4l l4u l5l l5u l6l l6u l7l l7u fxx kL hm
        rw [f_X6_wireBlock_lv7_] at kL
        refine go_iload (pc := 20) rfl dX6_wireBlock_20 ?_
        refine go_sipush (pc := 22) (v := 128) (by decide) dX6_wireBlock_22 ?_
        refine gf_icmp_ge (pc := 25) (tgt := 94) (ti_rfl l7) (ti_c (v := 128) (a := 128) (by decide)) (by decide) dX6_wireBlock_25 (fun q1 => False.elim (by omega)) (fun q1 => ?_)
        refine go_iload (pc := 28) rfl dX6_wireBlock_28 ?_
        refine gf_if_lt (pc := 30) (tgt := 94) (ti_rfl l6) (by decide) dX6_wireBlock_30 (fun q2 => ?_) (fun q2 => False.elim (by omega))
        refine go_iload (pc := 94) rfl dX6_wireBlock_94 ?_
        exact gi_iret (pc := 96) (ti_rfl l5) ⟨_, rfl, (by rw [show (l5 : Int32).toInt = l5.toInt from (ti_rfl l5)]; omega), (by rw [show (l5 : Int32).toInt = l5.toInt from (ti_rfl l5)]; omega), hvx, (kL.symm.trans kf), fxx⟩ hvx dX6_wireBlock_96
  refine go_iload_n (pc := 0) rfl dX6_wireBlock_0 ?_
  refine go_istore (pc := 1) (Nat.le_of_ble_eq_true rfl) dX6_wireBlock_1 (go_lv (lv2 := [(0, .ref 48), (1, .int a2), (2, .int a3), (3, .int a4), (4, .int a5), (5, .int a3)]) rfl ?_)
  refine go_iload (pc := 3) rfl dX6_wireBlock_3 ?_
  refine go_bipush (pc := 5) (v := 6) (by decide) dX6_wireBlock_5 ?_
  refine gf_icmp_le (pc := 7) (tgt := 14) (ti_rfl a5) (ti_c (v := 6) (a := 6) (by decide)) (by decide) dX6_wireBlock_7 (fun q3 => False.elim (by omega)) (fun q3 => ?_)
  refine go_iconst (pc := 10) (v := (-1)) (by decide) dX6_wireBlock_10 ?_
  refine go_goto (pc := 11) (tgt := 15) (by decide) dX6_wireBlock_11 ?_
  refine go_istore (pc := 15) (Nat.le_of_ble_eq_true rfl) dX6_wireBlock_15 (go_lv (lv2 := [(0, .ref 48), (1, .int a2), (2, .int a3), (3, .int a4), (4, .int a5), (5, .int a3), (6, .int (-1))]) rfl ?_)
  refine go_iconst (pc := 17) (v := 0) (by decide) dX6_wireBlock_17 ?_
  refine go_istore (pc := 18) (Nat.le_of_ble_eq_true rfl) dX6_wireBlock_18 (go_lv (lv2 := [(0, .ref 48), (1, .int a2), (2, .int a3), (3, .int a4), (4, .int a5), (5, .int a3), (6, .int (-1)), (7, .int 0)]) rfl ?_)
  have z4 : ((-1) : Int32).toInt = (-1) := (ti_c (v := (-1)) (a := (-1)) (by decide))
  have z5 : (0 : Int32).toInt = 0 := (ti_c (v := 0) (a := 0) (by decide))
  exact go_lv rfl ((key 19) a4 a5 a3 (-1) 0 h hv (by omega) (by omega) (by omega) (by omega) (by omega) (by omega) (by omega) (by omega) (by omega) (by omega) fx (by rw [show ((-1) : Int32).toInt = (-1) from (ti_c (v := (-1)) (a := (-1)) (by decide)), show (0 : Int32).toInt = 0 from (ti_c (v := 0) (a := 0) (by decide))]; exact k0) (by omega))
def f_X6_wireTry_lv6 (s : ST) (a2 : Int) (a3 : Int) (a4 : Int) (a5 : Int) : ST × Int :=
  bd (s.1 40 (a2).toNat) fun v1 => bd2 (f_X6_wireBlock_lv7 s v1 a3 a4 ((a5 + 1))) fun s5 v8 => bd (sI s5 42 (a2).toNat v8) fun s10 => if ¬ v8 = a3 then (bd (sI s10 43 (a2).toNat v8) fun s14 => bd (s14.1 39 (a2).toNat) fun v16 => bd2 (f_X6_wireBlock_lv7 s14 v16 a3 a2 ((a5 + 1))) fun s20 v23 => (s20, v23)) else (bd (sI s10 43 (a2).toNat (-2)) fun s26 => bd (s26.1 39 (a2).toNat) fun v28 => bd2 (f_X6_wireBlock_lv7 s26 v28 a3 a2 ((a5 + 1))) fun s32 v35 => (s32, v35))
set_option maxHeartbeats 4000000 in
set_option maxRecDepth 100000 in
theorem s_X6_wireTry_lv6_f (l : Launch) (d : Nat) {P : PP} {h : HP} (hv : Iv P h) (a2 : Int32) (a2l : 0 ≤ a2.toInt) (a2u : a2.toInt ≤ 127) (a3 : Int32) (a3l : 0 ≤ a3.toInt) (a3u : a3.toInt ≤ 44) (a4 : Int32) (a4l : -1 ≤ a4.toInt) (a4u : a4.toInt ≤ 127) (a5 : Int32) (a5l : 6 ≤ a5.toInt) (a5u : a5.toInt ≤ 6) : Mt l yX6_wireTry cX6_wireTry 6 (some .int) (d + 2) [.ref 48, .int a2, .int a3, .int a4, .int a5] h 0 0 (fun r h' => ∃ v : Int32, r = some (.int v) ∧ 0 ≤ v.toInt ∧ v.toInt ≤ 44 ∧ Iv P h' ∧ ((st h', v.toInt) = f_X6_wireTry_lv6 (st h) a2.toInt a3.toInt a4.toInt a5.toInt) ∧ (FX KC0 h h')) := by
  refine Mt_iv hv (by decide) (Nat.le_of_ble_eq_true rfl) ?_
  show Go l RX6 cX6_wireTry 6 (g_rm (d + 2) 0 0) "wireTry" (some .int) 117 0 0 (fun _ _ => True) (fun r h' => ∃ v : Int32, r = some (.int v) ∧ 0 ≤ v.toInt ∧ v.toInt ≤ 44 ∧ Iv P h' ∧ ((st h', v.toInt) = f_X6_wireTry_lv6 (st h) a2.toInt a3.toInt a4.toInt a5.toInt) ∧ (FX KC0 h h')) 0 0 [(0, .ref 48), (1, .int a2), (2, .int a3), (3, .int a4), (4, .int a5)] [] h
  have fx : FX KC0 h h := FX.rfl
  obtain ⟨fin, kf⟩ : ∃ z, z = f_X6_wireTry_lv6 (st h) a2.toInt a3.toInt a4.toInt a5.toInt := ⟨_, _root_.rfl⟩
  have k0 := kf
  unfold f_X6_wireTry_lv6 at k0
  refine go_aload_n (pc := 0) rfl dX6_wireTry_0 ?_
  refine go_aload_n (pc := 1) rfl dX6_wireTry_1 ?_
  refine gi_getF (pc := 2) (q := 36) hv fL_X6_9 rfl (Nat.le_of_ble_eq_true rfl) rfl (hv.rf (by decide)) dX6_wireTry_2 ?_
  refine gi_getF (pc := 5) (q := 40) hv fL_X6_50 rfl (Nat.le_of_ble_eq_true rfl) rfl (hv.rf (by decide)) dX6_wireTry_5 ?_
  refine go_iload_n (pc := 8) rfl dX6_wireTry_8 ?_
  refine gi_iald (pc := 9) (lo := -1) (hi := 127) (len := 128) hv (ti_rfl a2) rfl (by omega) (by omega) (fun _ => rfl) dX6_wireTry_9 (fun v1 v1l v1u v1w => ?_)
  have k2 := bd_e k0 (congrArg Int32.toInt v1w.symm)
  refine go_iload_n (pc := 10) rfl dX6_wireTry_10 ?_
  refine go_iload_n (pc := 11) rfl dX6_wireTry_11 ?_
  refine go_iload (pc := 12) rfl dX6_wireTry_12 ?_
  refine go_iconst (pc := 14) (v := 1) (by decide) dX6_wireTry_14 ?_
  refine gf_iadd (pc := 15) (ti_rfl a5) (ti_c (v := 1) (a := 1) (by decide)) (by omega) (by omega) dX6_wireTry_15 (fun v3 e4 => ?_)
  refine go_invV (pc := 16) (sl := 0) (s_X6_wireBlock_lv7_f l (d + 0) hv v1 (by rw [show (v1 : Int32).toInt = v1.toInt from (ti_rfl v1)]; omega) (by rw [show (v1 : Int32).toInt = v1.toInt from (ti_rfl v1)]; omega) a3 (by rw [show (a3 : Int32).toInt = a3.toInt from (ti_rfl a3)]; omega) (by rw [show (a3 : Int32).toInt = a3.toInt from (ti_rfl a3)]; omega) a4 (by rw [show (a4 : Int32).toInt = a4.toInt from (ti_rfl a4)]; omega) (by rw [show (a4 : Int32).toInt = a4.toInt from (ti_rfl a4)]; omega) v3 (by rw [show (v3 : Int32).toInt = (a5.toInt + 1) from e4]; omega) (by rw [show (v3 : Int32).toInt = (a5.toInt + 1) from e4]; omega)) mL_X6_34 iM_X6_wireBlock sM_X6_wireBlock (hv.sh rfl) rfl rfl rfl (Nat.le_of_ble_eq_true rfl) (show d + 0 + 1 + 1 ≤ d + 2 by omega) (show 8 + (8 + 11) + 40 * (d + 0 + 1) ≤ 40 * (d + 2) by omega) (g_c0 hv.ln) (Nat.le_of_ble_eq_true rfl) dX6_wireTry_16 ?_
  intro r h5 hq _
  obtain ⟨v8, rfl, v8l, v8u, hv5, f6, f7⟩ := hq
  try rw [show (v3 : Int32).toInt = (a5.toInt + 1) from e4] at f6
  try rw [show (v3 : Int32).toInt = (a5.toInt + 1) from e4] at f7
  have fx5 : FX KC0 h h5 := FX.tr fx f7
  have k9 := bd2_e k2 f6
  refine go_istore (pc := 19) (Nat.le_of_ble_eq_true rfl) dX6_wireTry_19 (go_lv (lv2 := [(0, .ref 48), (1, .int a2), (2, .int a3), (3, .int a4), (4, .int a5), (5, .int v8)]) rfl ?_)
  refine go_aload_n (pc := 21) rfl dX6_wireTry_21 ?_
  refine gi_getF (pc := 22) (q := 36) hv5 fL_X6_9 rfl (Nat.le_of_ble_eq_true rfl) rfl (hv5.rf (by decide)) dX6_wireTry_22 ?_
  refine gi_getF (pc := 25) (q := 42) hv5 fL_X6_53 rfl (Nat.le_of_ble_eq_true rfl) rfl (hv5.rf (by decide)) dX6_wireTry_25 ?_
  refine go_iload_n (pc := 28) rfl dX6_wireTry_28 ?_
  refine go_iload (pc := 29) rfl dX6_wireTry_29 ?_
  refine gi_iast (pc := 31) (lo := 0) (hi := 44) (len := 128) hv5 (ti_rfl a2) (ti_rfl v8) rfl (by omega) (by omega) (fun _ => rfl) (by omega) (by omega) (by decide) dX6_wireTry_31 (fun h10 hv10 hv10e => ?_)
  have fx10 : FX KC0 h h10 := FX.pI fx5 hv10e (by unfold KC0; omega)
  have k11 := bd_e k9 (st_I hv10e (ti_rfl v8))
  refine go_aload_n (pc := 32) rfl dX6_wireTry_32 ?_
  refine gi_getF (pc := 33) (q := 36) hv10 fL_X6_9 rfl (Nat.le_of_ble_eq_true rfl) rfl (hv10.rf (by decide)) dX6_wireTry_33 ?_
  refine gi_getF (pc := 36) (q := 43) hv10 fL_X6_56 rfl (Nat.le_of_ble_eq_true rfl) rfl (hv10.rf (by decide)) dX6_wireTry_36 ?_
  refine go_iload_n (pc := 39) rfl dX6_wireTry_39 ?_
  refine go_iload (pc := 40) rfl dX6_wireTry_40 ?_
  refine go_iload_n (pc := 42) rfl dX6_wireTry_42 ?_
  refine gf_icmp_ne (pc := 43) (tgt := 51) (ti_rfl v8) (ti_rfl a3) (by decide) dX6_wireTry_43 (fun q12 => ?_) (fun q12 => ?_)
  ·
    have k13 := if_t k11 q12
    refine go_iload (pc := 51) rfl dX6_wireTry_51 ?_
    refine gi_iast (pc := 53) (lo := -2) (hi := 44) (len := 128) hv10 (ti_rfl a2) (ti_rfl v8) rfl (by omega) (by omega) (fun _ => rfl) (by omega) (by omega) (by decide) dX6_wireTry_53 (fun h14 hv14 hv14e => ?_)
    have fx14 : FX KC0 h h14 := FX.pI fx10 hv14e (by unfold KC0; omega)
    have k15 := bd_e k13 (st_I hv14e (ti_rfl v8))
    refine go_aload_n (pc := 54) rfl dX6_wireTry_54 ?_
    refine go_aload_n (pc := 55) rfl dX6_wireTry_55 ?_
    refine gi_getF (pc := 56) (q := 36) hv14 fL_X6_9 rfl (Nat.le_of_ble_eq_true rfl) rfl (hv14.rf (by decide)) dX6_wireTry_56 ?_
    refine gi_getF (pc := 59) (q := 39) hv14 fL_X6_59 rfl (Nat.le_of_ble_eq_true rfl) rfl (hv14.rf (by decide)) dX6_wireTry_59 ?_
    refine go_iload_n (pc := 62) rfl dX6_wireTry_62 ?_
    refine gi_iald (pc := 63) (lo := -1) (hi := 127) (len := 128) hv14 (ti_rfl a2) rfl (by omega) (by omega) (fun _ => rfl) dX6_wireTry_63 (fun v16 v16l v16u v16w => ?_)
    have k17 := bd_e k15 (congrArg Int32.toInt v16w.symm)
    refine go_iload_n (pc := 64) rfl dX6_wireTry_64 ?_
    refine go_iload_n (pc := 65) rfl dX6_wireTry_65 ?_
    refine go_iload (pc := 66) rfl dX6_wireTry_66 ?_
    refine go_iconst (pc := 68) (v := 1) (by decide) dX6_wireTry_68 ?_
    refine gf_iadd (pc := 69) (ti_rfl a5) (ti_c (v := 1) (a := 1) (by decide)) (by omega) (by omega) dX6_wireTry_69 (fun v18 e19 => ?_)
    refine go_invV (pc := 70) (sl := 0) (s_X6_wireBlock_lv7_f l (d + 0) hv14 v16 (by rw [show (v16 : Int32).toInt = v16.toInt from (ti_rfl v16)]; omega) (by rw [show (v16 : Int32).toInt = v16.toInt from (ti_rfl v16)]; omega) a3 (by rw [show (a3 : Int32).toInt = a3.toInt from (ti_rfl a3)]; omega) (by rw [show (a3 : Int32).toInt = a3.toInt from (ti_rfl a3)]; omega) a2 (by rw [show (a2 : Int32).toInt = a2.toInt from (ti_rfl a2)]; omega) (by rw [show (a2 : Int32).toInt = a2.toInt from (ti_rfl a2)]; omega) v18 (by rw [show (v18 : Int32).toInt = (a5.toInt + 1) from e19]; omega) (by rw [show (v18 : Int32).toInt = (a5.toInt + 1) from e19]; omega)) mL_X6_34 iM_X6_wireBlock sM_X6_wireBlock (hv14.sh rfl) rfl rfl rfl (Nat.le_of_ble_eq_true rfl) (show d + 0 + 1 + 1 ≤ d + 2 by omega) (show 8 + (8 + 11) + 40 * (d + 0 + 1) ≤ 40 * (d + 2) by omega) (g_c0 hv14.ln) (Nat.le_of_ble_eq_true rfl) dX6_wireTry_70 ?_
    intro r h20 hq _
    obtain ⟨v23, rfl, v23l, v23u, hv20, f21, f22⟩ := hq
    try rw [show (v18 : Int32).toInt = (a5.toInt + 1) from e19] at f21
    try rw [show (v18 : Int32).toInt = (a5.toInt + 1) from e19] at f22
    have fx20 : FX KC0 h h20 := FX.tr fx14 f22
    have k24 := bd2_e k17 f21
    exact gi_iret (pc := 73) (ti_rfl v23) ⟨_, rfl, (by rw [show (v23 : Int32).toInt = v23.toInt from (ti_rfl v23)]; omega), (by rw [show (v23 : Int32).toInt = v23.toInt from (ti_rfl v23)]; omega), hv20, (k24.symm.trans kf), fx20⟩ hv20 dX6_wireTry_73
  ·
    have k25 := if_f k11 (fun z => z q12)
    refine go_bipush (pc := 46) (v := (-2)) (by decide) dX6_wireTry_46 ?_
    refine go_goto (pc := 48) (tgt := 53) (by decide) dX6_wireTry_48 ?_
    refine gi_iast (pc := 53) (lo := -2) (hi := 44) (len := 128) hv10 (ti_rfl a2) (ti_c (v := (-2)) (a := (-2)) (by decide)) rfl (by omega) (by omega) (fun _ => rfl) (by omega) (by omega) (by decide) dX6_wireTry_53 (fun h26 hv26 hv26e => ?_)
    have fx26 : FX KC0 h h26 := FX.pI fx10 hv26e (by unfold KC0; omega)
    have k27 := bd_e k25 (st_I hv26e (ti_c (v := (-2)) (a := (-2)) (by decide)))
    refine go_aload_n (pc := 54) rfl dX6_wireTry_54 ?_
    refine go_aload_n (pc := 55) rfl dX6_wireTry_55 ?_
    refine gi_getF (pc := 56) (q := 36) hv26 fL_X6_9 rfl (Nat.le_of_ble_eq_true rfl) rfl (hv26.rf (by decide)) dX6_wireTry_56 ?_
    refine gi_getF (pc := 59) (q := 39) hv26 fL_X6_59 rfl (Nat.le_of_ble_eq_true rfl) rfl (hv26.rf (by decide)) dX6_wireTry_59 ?_
    refine go_iload_n (pc := 62) rfl dX6_wireTry_62 ?_
    refine gi_iald (pc := 63) (lo := -1) (hi := 127) (len := 128) hv26 (ti_rfl a2) rfl (by omega) (by omega) (fun _ => rfl) dX6_wireTry_63 (fun v28 v28l v28u v28w => ?_)
    have k29 := bd_e k27 (congrArg Int32.toInt v28w.symm)
    refine go_iload_n (pc := 64) rfl dX6_wireTry_64 ?_
    refine go_iload_n (pc := 65) rfl dX6_wireTry_65 ?_
    refine go_iload (pc := 66) rfl dX6_wireTry_66 ?_
    refine go_iconst (pc := 68) (v := 1) (by decide) dX6_wireTry_68 ?_
    refine gf_iadd (pc := 69) (ti_rfl a5) (ti_c (v := 1) (a := 1) (by decide)) (by omega) (by omega) dX6_wireTry_69 (fun v30 e31 => ?_)
    refine go_invV (pc := 70) (sl := 0) (s_X6_wireBlock_lv7_f l (d + 0) hv26 v28 (by rw [show (v28 : Int32).toInt = v28.toInt from (ti_rfl v28)]; omega) (by rw [show (v28 : Int32).toInt = v28.toInt from (ti_rfl v28)]; omega) a3 (by rw [show (a3 : Int32).toInt = a3.toInt from (ti_rfl a3)]; omega) (by rw [show (a3 : Int32).toInt = a3.toInt from (ti_rfl a3)]; omega) a2 (by rw [show (a2 : Int32).toInt = a2.toInt from (ti_rfl a2)]; omega) (by rw [show (a2 : Int32).toInt = a2.toInt from (ti_rfl a2)]; omega) v30 (by rw [show (v30 : Int32).toInt = (a5.toInt + 1) from e31]; omega) (by rw [show (v30 : Int32).toInt = (a5.toInt + 1) from e31]; omega)) mL_X6_34 iM_X6_wireBlock sM_X6_wireBlock (hv26.sh rfl) rfl rfl rfl (Nat.le_of_ble_eq_true rfl) (show d + 0 + 1 + 1 ≤ d + 2 by omega) (show 8 + (8 + 11) + 40 * (d + 0 + 1) ≤ 40 * (d + 2) by omega) (g_c0 hv26.ln) (Nat.le_of_ble_eq_true rfl) dX6_wireTry_70 ?_
    intro r h32 hq _
    obtain ⟨v35, rfl, v35l, v35u, hv32, f33, f34⟩ := hq
    try rw [show (v30 : Int32).toInt = (a5.toInt + 1) from e31] at f33
    try rw [show (v30 : Int32).toInt = (a5.toInt + 1) from e31] at f34
    have fx32 : FX KC0 h h32 := FX.tr fx26 f34
    have k36 := bd2_e k29 f33
    exact gi_iret (pc := 73) (ti_rfl v35) ⟨_, rfl, (by rw [show (v35 : Int32).toInt = v35.toInt from (ti_rfl v35)]; omega), (by rw [show (v35 : Int32).toInt = v35.toInt from (ti_rfl v35)]; omega), hv32, (k36.symm.trans kf), fx32⟩ hv32 dX6_wireTry_73
def f_X6_wireStatement_lv6 (s : ST) (a2 : Int) (a3 : Int) (a4 : Int) (a5 : Int) : ST × Int :=
  bd (s.1 37 (a2).toNat) fun v1 => bd (s.2.2 48 1) fun c3 => bd (s.1 (c3 + 3) (v1).toNat) fun v5 => bd (s.2.2 48 1) fun c9 => bd (sI s (c9 + 11) (v1).toNat a3) fun s11 => bd (s11.2.2 48 1) fun c13 => bd (sI s11 (c13 + 12) (v1).toNat a3) fun s15 => bd (s15.2.2 48 1) fun c17 => if 0 ≤ a4 then (bd (s15.1 42 (a4).toNat) fun v21 => bd (sI s15 (c17 + 13) (v1).toNat v21) fun s23 => bd (s23.2.2 48 1) fun c25 => bd (s23.1 41 (a4).toNat) fun v28 => bd (sI s23 (c25 + 14) (v1).toNat v28) fun s30 => bd (s30.2.2 48 1) fun c32 => bd (s30.1 43 (a4).toNat) fun v35 => bd (sI s30 (c32 + 15) (v1).toNat v35) fun s37 => bd (s37.2.2 48 1) fun c39 => bd (s37.1 (c39 + 2) (v1).toNat) fun v41 => if ¬ v41 = 5 then (bd (s37.2.2 48 1) fun c45 => bd (s37.1 (c45 + 2) (v1).toNat) fun v47 => if ¬ v47 = 3 then (bd (s37.2.2 48 1) fun c51 => bd (s37.1 (c51 + 2) (v1).toNat) fun v53 => if ¬ v53 = 2 then ((s37, v1)) else (bd (s37.2.2 48 1) fun c58 => bd (s37.1 39 (a2).toNat) fun v60 => bd2 (f_X6_wireBlock_lv7 s37 v60 a3 a4 ((a5 + 1))) fun s64 v67 => bd (sI s64 (c58 + 13) (v1).toNat v67) fun s69 => bd (s69.2.2 48 1) fun c71 => bd (s69.1 40 (a2).toNat) fun v73 => bd2 (f_X6_wireBlock_lv7 s69 v73 a3 a4 ((a5 + 1))) fun s77 v80 => bd (sI s77 (c71 + 12) (v1).toNat v80) fun s82 => (s82, v1))) else (bd (s37.2.2 48 1) fun c85 => bd (s37.1 39 (a2).toNat) fun v87 => bd2 (f_X6_wireBlock_lv7 s37 v87 v1 a4 ((a5 + 1))) fun s91 v94 => bd (sI s91 (c85 + 13) (v1).toNat v94) fun s96 => (s96, v1))) else (bd (s37.2.2 48 1) fun c99 => bd (sI s37 (c99 + 13) (v1).toNat ((40 + v5))) fun s101 => (s101, v1))) else (bd (sI s15 (c17 + 13) (v1).toNat ((40 + v5))) fun s104 => bd (s104.2.2 48 1) fun c106 => bd (sI s104 (c106 + 14) (v1).toNat (-1)) fun s109 => bd (s109.2.2 48 1) fun c111 => bd (sI s109 (c111 + 15) (v1).toNat (-2)) fun s114 => bd (s114.2.2 48 1) fun c116 => bd (s114.1 (c116 + 2) (v1).toNat) fun v118 => if ¬ v118 = 5 then (bd (s114.2.2 48 1) fun c122 => bd (s114.1 (c122 + 2) (v1).toNat) fun v124 => if ¬ v124 = 3 then (bd (s114.2.2 48 1) fun c128 => bd (s114.1 (c128 + 2) (v1).toNat) fun v130 => if ¬ v130 = 2 then ((s114, v1)) else (bd (s114.2.2 48 1) fun c135 => bd (s114.1 39 (a2).toNat) fun v137 => bd2 (f_X6_wireBlock_lv7 s114 v137 a3 a4 ((a5 + 1))) fun s141 v144 => bd (sI s141 (c135 + 13) (v1).toNat v144) fun s146 => bd (s146.2.2 48 1) fun c148 => bd (s146.1 40 (a2).toNat) fun v150 => bd2 (f_X6_wireBlock_lv7 s146 v150 a3 a4 ((a5 + 1))) fun s154 v157 => bd (sI s154 (c148 + 12) (v1).toNat v157) fun s159 => (s159, v1))) else (bd (s114.2.2 48 1) fun c162 => bd (s114.1 39 (a2).toNat) fun v164 => bd2 (f_X6_wireBlock_lv7 s114 v164 v1 a4 ((a5 + 1))) fun s168 v171 => bd (sI s168 (c162 + 13) (v1).toNat v171) fun s173 => (s173, v1))) else (bd (s114.2.2 48 1) fun c176 => bd (sI s114 (c176 + 13) (v1).toNat ((40 + v5))) fun s178 => (s178, v1)))
set_option maxHeartbeats 4000000 in
set_option maxRecDepth 100000 in
theorem s_X6_wireStatement_lv6_f (l : Launch) (d : Nat) {P : PP} {h : HP} (hv : Iv P h) (a2 : Int32) (a2l : 0 ≤ a2.toInt) (a2u : a2.toInt ≤ 127) (a3 : Int32) (a3l : 0 ≤ a3.toInt) (a3u : a3.toInt ≤ 44) (a4 : Int32) (a4l : -1 ≤ a4.toInt) (a4u : a4.toInt ≤ 127) (a5 : Int32) (a5l : 6 ≤ a5.toInt) (a5u : a5.toInt ≤ 6) (hp : 0 ≤ (h.2.1 37 a2.toInt.toNat).toInt) : Mt l yX6_wireStatement cX6_wireStatement 7 (some .int) (d + 2) [.ref 48, .int a2, .int a3, .int a4, .int a5] h 0 0 (fun r h' => ∃ v : Int32, r = some (.int v) ∧ 0 ≤ v.toInt ∧ v.toInt ≤ 44 ∧ Iv P h' ∧ ((st h', v.toInt) = f_X6_wireStatement_lv6 (st h) a2.toInt a3.toInt a4.toInt a5.toInt) ∧ (FX KC0 h h')) := by
  refine Mt_iv hv (by decide) (Nat.le_of_ble_eq_true rfl) ?_
  show Go l RX6 cX6_wireStatement 7 (g_rm (d + 2) 0 0) "wireStatement" (some .int) 117 0 0 (fun _ _ => True) (fun r h' => ∃ v : Int32, r = some (.int v) ∧ 0 ≤ v.toInt ∧ v.toInt ≤ 44 ∧ Iv P h' ∧ ((st h', v.toInt) = f_X6_wireStatement_lv6 (st h) a2.toInt a3.toInt a4.toInt a5.toInt) ∧ (FX KC0 h h')) 0 0 [(0, .ref 48), (1, .int a2), (2, .int a3), (3, .int a4), (4, .int a5)] [] h
  have fx : FX KC0 h h := FX.rfl
  obtain ⟨fin, kf⟩ : ∃ z, z = f_X6_wireStatement_lv6 (st h) a2.toInt a3.toInt a4.toInt a5.toInt := ⟨_, _root_.rfl⟩
  have k0 := kf
  unfold f_X6_wireStatement_lv6 at k0
  refine go_aload_n (pc := 0) rfl dX6_wireStatement_0 ?_
  refine gi_getF (pc := 1) (q := 36) hv fL_X6_9 rfl (Nat.le_of_ble_eq_true rfl) rfl (hv.rf (by decide)) dX6_wireStatement_1 ?_
  refine gi_getF (pc := 4) (q := 37) hv fL_X6_38 rfl (Nat.le_of_ble_eq_true rfl) rfl (hv.rf (by decide)) dX6_wireStatement_4 ?_
  refine go_iload_n (pc := 7) rfl dX6_wireStatement_7 ?_
  refine gi_iald (pc := 8) (lo := -1) (hi := 39) (len := 128) hv (ti_rfl a2) rfl (by omega) (by omega) (fun _ => rfl) dX6_wireStatement_8 (fun v1 v1l v1u v1w => ?_)
  have k2 := bd_e k0 (congrArg Int32.toInt v1w.symm)
  have kk : 0 ≤ v1.toInt := by rw [v1w]; exact hp
  refine go_istore (pc := 9) (Nat.le_of_ble_eq_true rfl) dX6_wireStatement_9 (go_lv (lv2 := [(0, .ref 48), (1, .int a2), (2, .int a3), (3, .int a4), (4, .int a5), (5, .int v1)]) rfl ?_)
  refine go_bipush (pc := 11) (v := 40) (by decide) dX6_wireStatement_11 ?_
  refine go_aload_n (pc := 13) rfl dX6_wireStatement_13 ?_
  refine gi_getC (pc := 14) hv fL_X6_15 rfl (Nat.le_of_ble_eq_true rfl) rfl (by decide) dX6_wireStatement_14 (fun c3 hc3 fc3 => ?_)
  have k4 := bd_e k2 (st_c fc3)
  refine gi_getF (pc := 17) (q := c3 + 3) hv fL_X6_62 (by rcases hc3 with rfl | rfl <;> rfl) (Nat.le_of_ble_eq_true rfl) rfl (by rcases hc3 with rfl | rfl <;> exact hv.rf (by decide)) dX6_wireStatement_17 ?_
  refine go_iload (pc := 20) rfl dX6_wireStatement_20 ?_
  refine gi_iald (pc := 22) (lo := -1) (hi := 4) (len := 40) hv (ti_rfl v1) (by rcases hc3 with rfl | rfl <;> rfl) (by omega) (by omega) (fun _ => by rcases hc3 with rfl | rfl <;> rfl) dX6_wireStatement_22 (fun v5 v5l v5u v5w => ?_)
  have k6 := bd_e k4 (congrArg Int32.toInt v5w.symm)
  refine gf_iadd (pc := 23) (ti_c (v := 40) (a := 40) (by decide)) (ti_rfl v5) (by omega) (by omega) dX6_wireStatement_23 (fun v7 e8 => ?_)
  refine go_istore (pc := 24) (Nat.le_of_ble_eq_true rfl) dX6_wireStatement_24 (go_lv (lv2 := [(0, .ref 48), (1, .int a2), (2, .int a3), (3, .int a4), (4, .int a5), (5, .int v1), (6, .int v7)]) rfl ?_)
  refine go_aload_n (pc := 26) rfl dX6_wireStatement_26 ?_
  refine gi_getC (pc := 27) hv fL_X6_15 rfl (Nat.le_of_ble_eq_true rfl) rfl (by decide) dX6_wireStatement_27 (fun c9 hc9 fc9 => ?_)
  have k10 := bd_e k6 (st_c fc9)
  refine gi_getF (pc := 30) (q := c9 + 11) hv fL_X6_65 (by rcases hc9 with rfl | rfl <;> rfl) (Nat.le_of_ble_eq_true rfl) rfl (by rcases hc9 with rfl | rfl <;> exact hv.rf (by decide)) dX6_wireStatement_30 ?_
  refine go_iload (pc := 33) rfl dX6_wireStatement_33 ?_
  refine go_iload_n (pc := 35) rfl dX6_wireStatement_35 ?_
  refine gi_iast (pc := 36) (lo := 0) (hi := 44) (len := 40) hv (ti_rfl v1) (ti_rfl a3) (by rcases hc9 with rfl | rfl <;> rfl) (by omega) (by omega) (fun _ => by rcases hc9 with rfl | rfl <;> rfl) (by omega) (by omega) (by rcases hc9 with rfl | rfl <;> decide) dX6_wireStatement_36 (fun h11 hv11 hv11e => ?_)
  have fx11 : FX KC0 h h11 := FX.pI fx hv11e (by unfold KC0; omega)
  have k12 := bd_e k10 (st_I hv11e (ti_rfl a3))
  refine go_aload_n (pc := 37) rfl dX6_wireStatement_37 ?_
  refine gi_getC (pc := 38) hv11 fL_X6_15 rfl (Nat.le_of_ble_eq_true rfl) rfl (by decide) dX6_wireStatement_38 (fun c13 hc13 fc13 => ?_)
  have k14 := bd_e k12 (st_c fc13)
  refine gi_getF (pc := 41) (q := c13 + 12) hv11 fL_X6_68 (by rcases hc13 with rfl | rfl <;> rfl) (Nat.le_of_ble_eq_true rfl) rfl (by rcases hc13 with rfl | rfl <;> exact hv11.rf (by decide)) dX6_wireStatement_41 ?_
  refine go_iload (pc := 44) rfl dX6_wireStatement_44 ?_
  refine go_iload_n (pc := 46) rfl dX6_wireStatement_46 ?_
  refine gi_iast (pc := 47) (lo := 0) (hi := 44) (len := 40) hv11 (ti_rfl v1) (ti_rfl a3) (by rcases hc13 with rfl | rfl <;> rfl) (by omega) (by omega) (fun _ => by rcases hc13 with rfl | rfl <;> rfl) (by omega) (by omega) (by rcases hc13 with rfl | rfl <;> decide) dX6_wireStatement_47 (fun h15 hv15 hv15e => ?_)
  have fx15 : FX KC0 h h15 := FX.pI fx11 hv15e (by unfold KC0; omega)
  have k16 := bd_e k14 (st_I hv15e (ti_rfl a3))
  refine go_aload_n (pc := 48) rfl dX6_wireStatement_48 ?_
  refine gi_getC (pc := 49) hv15 fL_X6_15 rfl (Nat.le_of_ble_eq_true rfl) rfl (by decide) dX6_wireStatement_49 (fun c17 hc17 fc17 => ?_)
  have k18 := bd_e k16 (st_c fc17)
  refine gi_getF (pc := 52) (q := c17 + 13) hv15 fL_X6_71 (by rcases hc17 with rfl | rfl <;> rfl) (Nat.le_of_ble_eq_true rfl) rfl (by rcases hc17 with rfl | rfl <;> exact hv15.rf (by decide)) dX6_wireStatement_52 ?_
  refine go_iload (pc := 55) rfl dX6_wireStatement_55 ?_
  refine go_iload_n (pc := 57) rfl dX6_wireStatement_57 ?_
  refine gf_if_ge (pc := 58) (tgt := 66) (ti_rfl a4) (by decide) dX6_wireStatement_58 (fun q19 => ?_) (fun q19 => ?_)
  ·
    have k20 := if_t k18 q19
    refine go_aload_n (pc := 66) rfl dX6_wireStatement_66 ?_
    refine gi_getF (pc := 67) (q := 36) hv15 fL_X6_9 rfl (Nat.le_of_ble_eq_true rfl) rfl (hv15.rf (by decide)) dX6_wireStatement_67 ?_
    refine gi_getF (pc := 70) (q := 42) hv15 fL_X6_53 rfl (Nat.le_of_ble_eq_true rfl) rfl (hv15.rf (by decide)) dX6_wireStatement_70 ?_
    refine go_iload_n (pc := 73) rfl dX6_wireStatement_73 ?_
    refine gi_iald (pc := 74) (lo := 0) (hi := 44) (len := 128) hv15 (ti_rfl a4) rfl (by omega) (by omega) (fun _ => rfl) dX6_wireStatement_74 (fun v21 v21l v21u v21w => ?_)
    have k22 := bd_e k20 (congrArg Int32.toInt v21w.symm)
    refine gi_iast (pc := 75) (lo := 0) (hi := 44) (len := 40) hv15 (ti_rfl v1) (ti_rfl v21) (by rcases hc17 with rfl | rfl <;> rfl) (by omega) (by omega) (fun _ => by rcases hc17 with rfl | rfl <;> rfl) (by omega) (by omega) (by rcases hc17 with rfl | rfl <;> decide) dX6_wireStatement_75 (fun h23 hv23 hv23e => ?_)
    have fx23 : FX KC0 h h23 := FX.pI fx15 hv23e (by unfold KC0; omega)
    have k24 := bd_e k22 (st_I hv23e (ti_rfl v21))
    refine go_aload_n (pc := 76) rfl dX6_wireStatement_76 ?_
    refine gi_getC (pc := 77) hv23 fL_X6_15 rfl (Nat.le_of_ble_eq_true rfl) rfl (by decide) dX6_wireStatement_77 (fun c25 hc25 fc25 => ?_)
    have k26 := bd_e k24 (st_c fc25)
    refine gi_getF (pc := 80) (q := c25 + 14) hv23 fL_X6_74 (by rcases hc25 with rfl | rfl <;> rfl) (Nat.le_of_ble_eq_true rfl) rfl (by rcases hc25 with rfl | rfl <;> exact hv23.rf (by decide)) dX6_wireStatement_80 ?_
    refine go_iload (pc := 83) rfl dX6_wireStatement_83 ?_
    refine go_iload_n (pc := 85) rfl dX6_wireStatement_85 ?_
    refine gf_if_ge (pc := 86) (tgt := 93) (ti_rfl a4) (by decide) dX6_wireStatement_86 (fun q27 => ?_) (fun q27 => False.elim (by omega))
    refine go_aload_n (pc := 93) rfl dX6_wireStatement_93 ?_
    refine gi_getF (pc := 94) (q := 36) hv23 fL_X6_9 rfl (Nat.le_of_ble_eq_true rfl) rfl (hv23.rf (by decide)) dX6_wireStatement_94 ?_
    refine gi_getF (pc := 97) (q := 41) hv23 fL_X6_77 rfl (Nat.le_of_ble_eq_true rfl) rfl (hv23.rf (by decide)) dX6_wireStatement_97 ?_
    refine go_iload_n (pc := 100) rfl dX6_wireStatement_100 ?_
    refine gi_iald (pc := 101) (lo := -1) (hi := 5) (len := 128) hv23 (ti_rfl a4) rfl (by omega) (by omega) (fun _ => rfl) dX6_wireStatement_101 (fun v28 v28l v28u v28w => ?_)
    have k29 := bd_e k26 (congrArg Int32.toInt v28w.symm)
    refine gi_iast (pc := 102) (lo := -1) (hi := 5) (len := 40) hv23 (ti_rfl v1) (ti_rfl v28) (by rcases hc25 with rfl | rfl <;> rfl) (by omega) (by omega) (fun _ => by rcases hc25 with rfl | rfl <;> rfl) (by omega) (by omega) (by rcases hc25 with rfl | rfl <;> decide) dX6_wireStatement_102 (fun h30 hv30 hv30e => ?_)
    have fx30 : FX KC0 h h30 := FX.pI fx23 hv30e (by unfold KC0; omega)
    have k31 := bd_e k29 (st_I hv30e (ti_rfl v28))
    refine go_aload_n (pc := 103) rfl dX6_wireStatement_103 ?_
    refine gi_getC (pc := 104) hv30 fL_X6_15 rfl (Nat.le_of_ble_eq_true rfl) rfl (by decide) dX6_wireStatement_104 (fun c32 hc32 fc32 => ?_)
    have k33 := bd_e k31 (st_c fc32)
    refine gi_getF (pc := 107) (q := c32 + 15) hv30 fL_X6_80 (by rcases hc32 with rfl | rfl <;> rfl) (Nat.le_of_ble_eq_true rfl) rfl (by rcases hc32 with rfl | rfl <;> exact hv30.rf (by decide)) dX6_wireStatement_107 ?_
    refine go_iload (pc := 110) rfl dX6_wireStatement_110 ?_
    refine go_iload_n (pc := 112) rfl dX6_wireStatement_112 ?_
    refine gf_if_ge (pc := 113) (tgt := 121) (ti_rfl a4) (by decide) dX6_wireStatement_113 (fun q34 => ?_) (fun q34 => False.elim (by omega))
    refine go_aload_n (pc := 121) rfl dX6_wireStatement_121 ?_
    refine gi_getF (pc := 122) (q := 36) hv30 fL_X6_9 rfl (Nat.le_of_ble_eq_true rfl) rfl (hv30.rf (by decide)) dX6_wireStatement_122 ?_
    refine gi_getF (pc := 125) (q := 43) hv30 fL_X6_56 rfl (Nat.le_of_ble_eq_true rfl) rfl (hv30.rf (by decide)) dX6_wireStatement_125 ?_
    refine go_iload_n (pc := 128) rfl dX6_wireStatement_128 ?_
    refine gi_iald (pc := 129) (lo := -2) (hi := 44) (len := 128) hv30 (ti_rfl a4) rfl (by omega) (by omega) (fun _ => rfl) dX6_wireStatement_129 (fun v35 v35l v35u v35w => ?_)
    have k36 := bd_e k33 (congrArg Int32.toInt v35w.symm)
    refine gi_iast (pc := 130) (lo := -2) (hi := 44) (len := 40) hv30 (ti_rfl v1) (ti_rfl v35) (by rcases hc32 with rfl | rfl <;> rfl) (by omega) (by omega) (fun _ => by rcases hc32 with rfl | rfl <;> rfl) (by omega) (by omega) (by rcases hc32 with rfl | rfl <;> decide) dX6_wireStatement_130 (fun h37 hv37 hv37e => ?_)
    have fx37 : FX KC0 h h37 := FX.pI fx30 hv37e (by unfold KC0; omega)
    have k38 := bd_e k36 (st_I hv37e (ti_rfl v35))
    refine go_aload_n (pc := 131) rfl dX6_wireStatement_131 ?_
    refine gi_getC (pc := 132) hv37 fL_X6_15 rfl (Nat.le_of_ble_eq_true rfl) rfl (by decide) dX6_wireStatement_132 (fun c39 hc39 fc39 => ?_)
    have k40 := bd_e k38 (st_c fc39)
    refine gi_getF (pc := 135) (q := c39 + 2) hv37 fL_X6_81 (by rcases hc39 with rfl | rfl <;> rfl) (Nat.le_of_ble_eq_true rfl) rfl (by rcases hc39 with rfl | rfl <;> exact hv37.rf (by decide)) dX6_wireStatement_135 ?_
    refine go_iload (pc := 138) rfl dX6_wireStatement_138 ?_
    refine gi_iald (pc := 140) (lo := 0) (hi := 5) (len := 40) hv37 (ti_rfl v1) (by rcases hc39 with rfl | rfl <;> rfl) (by omega) (by omega) (fun _ => by rcases hc39 with rfl | rfl <;> rfl) dX6_wireStatement_140 (fun v41 v41l v41u v41w => ?_)
    have k42 := bd_e k40 (congrArg Int32.toInt v41w.symm)
    refine go_iconst (pc := 141) (v := 5) (by decide) dX6_wireStatement_141 ?_
    refine gf_icmp_ne (pc := 142) (tgt := 160) (ti_rfl v41) (ti_c (v := 5) (a := 5) (by decide)) (by decide) dX6_wireStatement_142 (fun q43 => ?_) (fun q43 => ?_)
    ·
      have k44 := if_t k42 q43
      refine go_aload_n (pc := 160) rfl dX6_wireStatement_160 ?_
      refine gi_getC (pc := 161) hv37 fL_X6_15 rfl (Nat.le_of_ble_eq_true rfl) rfl (by decide) dX6_wireStatement_161 (fun c45 hc45 fc45 => ?_)
      have k46 := bd_e k44 (st_c fc45)
      refine gi_getF (pc := 164) (q := c45 + 2) hv37 fL_X6_81 (by rcases hc45 with rfl | rfl <;> rfl) (Nat.le_of_ble_eq_true rfl) rfl (by rcases hc45 with rfl | rfl <;> exact hv37.rf (by decide)) dX6_wireStatement_164 ?_
      refine go_iload (pc := 167) rfl dX6_wireStatement_167 ?_
      refine gi_iald (pc := 169) (lo := 0) (hi := 5) (len := 40) hv37 (ti_rfl v1) (by rcases hc45 with rfl | rfl <;> rfl) (by omega) (by omega) (fun _ => by rcases hc45 with rfl | rfl <;> rfl) dX6_wireStatement_169 (fun v47 v47l v47u v47w => ?_)
      have k48 := bd_e k46 (congrArg Int32.toInt v47w.symm)
      refine go_iconst (pc := 170) (v := 3) (by decide) dX6_wireStatement_170 ?_
      refine gf_icmp_ne (pc := 171) (tgt := 207) (ti_rfl v47) (ti_c (v := 3) (a := 3) (by decide)) (by decide) dX6_wireStatement_171 (fun q49 => ?_) (fun q49 => ?_)
      ·
        have k50 := if_t k48 q49
        refine go_aload_n (pc := 207) rfl dX6_wireStatement_207 ?_
        refine gi_getC (pc := 208) hv37 fL_X6_15 rfl (Nat.le_of_ble_eq_true rfl) rfl (by decide) dX6_wireStatement_208 (fun c51 hc51 fc51 => ?_)
        have k52 := bd_e k50 (st_c fc51)
        refine gi_getF (pc := 211) (q := c51 + 2) hv37 fL_X6_81 (by rcases hc51 with rfl | rfl <;> rfl) (Nat.le_of_ble_eq_true rfl) rfl (by rcases hc51 with rfl | rfl <;> exact hv37.rf (by decide)) dX6_wireStatement_211 ?_
        refine go_iload (pc := 214) rfl dX6_wireStatement_214 ?_
        refine gi_iald (pc := 216) (lo := 0) (hi := 5) (len := 40) hv37 (ti_rfl v1) (by rcases hc51 with rfl | rfl <;> rfl) (by omega) (by omega) (fun _ => by rcases hc51 with rfl | rfl <;> rfl) dX6_wireStatement_216 (fun v53 v53l v53u v53w => ?_)
        have k54 := bd_e k52 (congrArg Int32.toInt v53w.symm)
        refine go_iconst (pc := 217) (v := 2) (by decide) dX6_wireStatement_217 ?_
        refine gf_icmp_ne (pc := 218) (tgt := 279) (ti_rfl v53) (ti_c (v := 2) (a := 2) (by decide)) (by decide) dX6_wireStatement_218 (fun q55 => ?_) (fun q55 => ?_)
        ·
          have k56 := if_t k54 q55
          refine go_iload (pc := 279) rfl dX6_wireStatement_279 ?_
          exact gi_iret (pc := 281) (ti_rfl v1) ⟨_, rfl, (by rw [show (v1 : Int32).toInt = v1.toInt from (ti_rfl v1)]; omega), (by rw [show (v1 : Int32).toInt = v1.toInt from (ti_rfl v1)]; omega), hv37, (k56.symm.trans kf), fx37⟩ hv37 dX6_wireStatement_281
        ·
          have k57 := if_f k54 (fun z => z q55)
          refine go_aload_n (pc := 221) rfl dX6_wireStatement_221 ?_
          refine gi_getC (pc := 222) hv37 fL_X6_15 rfl (Nat.le_of_ble_eq_true rfl) rfl (by decide) dX6_wireStatement_222 (fun c58 hc58 fc58 => ?_)
          have k59 := bd_e k57 (st_c fc58)
          refine gi_getF (pc := 225) (q := c58 + 13) hv37 fL_X6_71 (by rcases hc58 with rfl | rfl <;> rfl) (Nat.le_of_ble_eq_true rfl) rfl (by rcases hc58 with rfl | rfl <;> exact hv37.rf (by decide)) dX6_wireStatement_225 ?_
          refine go_iload (pc := 228) rfl dX6_wireStatement_228 ?_
          refine go_aload_n (pc := 230) rfl dX6_wireStatement_230 ?_
          refine go_aload_n (pc := 231) rfl dX6_wireStatement_231 ?_
          refine gi_getF (pc := 232) (q := 36) hv37 fL_X6_9 rfl (Nat.le_of_ble_eq_true rfl) rfl (hv37.rf (by decide)) dX6_wireStatement_232 ?_
          refine gi_getF (pc := 235) (q := 39) hv37 fL_X6_59 rfl (Nat.le_of_ble_eq_true rfl) rfl (hv37.rf (by decide)) dX6_wireStatement_235 ?_
          refine go_iload_n (pc := 238) rfl dX6_wireStatement_238 ?_
          refine gi_iald (pc := 239) (lo := -1) (hi := 127) (len := 128) hv37 (ti_rfl a2) rfl (by omega) (by omega) (fun _ => rfl) dX6_wireStatement_239 (fun v60 v60l v60u v60w => ?_)
          have k61 := bd_e k59 (congrArg Int32.toInt v60w.symm)
          refine go_iload_n (pc := 240) rfl dX6_wireStatement_240 ?_
          refine go_iload_n (pc := 241) rfl dX6_wireStatement_241 ?_
          refine go_iload (pc := 242) rfl dX6_wireStatement_242 ?_
          refine go_iconst (pc := 244) (v := 1) (by decide) dX6_wireStatement_244 ?_
          refine gf_iadd (pc := 245) (ti_rfl a5) (ti_c (v := 1) (a := 1) (by decide)) (by omega) (by omega) dX6_wireStatement_245 (fun v62 e63 => ?_)
          refine go_invV (pc := 246) (sl := 0) (s_X6_wireBlock_lv7_f l (d + 0) hv37 v60 (by rw [show (v60 : Int32).toInt = v60.toInt from (ti_rfl v60)]; omega) (by rw [show (v60 : Int32).toInt = v60.toInt from (ti_rfl v60)]; omega) a3 (by rw [show (a3 : Int32).toInt = a3.toInt from (ti_rfl a3)]; omega) (by rw [show (a3 : Int32).toInt = a3.toInt from (ti_rfl a3)]; omega) a4 (by rw [show (a4 : Int32).toInt = a4.toInt from (ti_rfl a4)]; omega) (by rw [show (a4 : Int32).toInt = a4.toInt from (ti_rfl a4)]; omega) v62 (by rw [show (v62 : Int32).toInt = (a5.toInt + 1) from e63]; omega) (by rw [show (v62 : Int32).toInt = (a5.toInt + 1) from e63]; omega)) mL_X6_34 iM_X6_wireBlock sM_X6_wireBlock (hv37.sh rfl) rfl rfl rfl (Nat.le_of_ble_eq_true rfl) (show d + 0 + 1 + 1 ≤ d + 2 by omega) (show 8 + (8 + 11) + 40 * (d + 0 + 1) ≤ 40 * (d + 2) by omega) (g_c0 hv37.ln) (Nat.le_of_ble_eq_true rfl) dX6_wireStatement_246 ?_
          intro r h64 hq _
          obtain ⟨v67, rfl, v67l, v67u, hv64, f65, f66⟩ := hq
          try rw [show (v62 : Int32).toInt = (a5.toInt + 1) from e63] at f65
          try rw [show (v62 : Int32).toInt = (a5.toInt + 1) from e63] at f66
          have fx64 : FX KC0 h h64 := FX.tr fx37 f66
          have k68 := bd2_e k61 f65
          refine gi_iast (pc := 249) (lo := 0) (hi := 44) (len := 40) hv64 (ti_rfl v1) (ti_rfl v67) (by rcases hc58 with rfl | rfl <;> rfl) (by omega) (by omega) (fun _ => by rcases hc58 with rfl | rfl <;> rfl) (by omega) (by omega) (by rcases hc58 with rfl | rfl <;> decide) dX6_wireStatement_249 (fun h69 hv69 hv69e => ?_)
          have fx69 : FX KC0 h h69 := FX.pI fx64 hv69e (by unfold KC0; omega)
          have k70 := bd_e k68 (st_I hv69e (ti_rfl v67))
          refine go_aload_n (pc := 250) rfl dX6_wireStatement_250 ?_
          refine gi_getC (pc := 251) hv69 fL_X6_15 rfl (Nat.le_of_ble_eq_true rfl) rfl (by decide) dX6_wireStatement_251 (fun c71 hc71 fc71 => ?_)
          have k72 := bd_e k70 (st_c fc71)
          refine gi_getF (pc := 254) (q := c71 + 12) hv69 fL_X6_68 (by rcases hc71 with rfl | rfl <;> rfl) (Nat.le_of_ble_eq_true rfl) rfl (by rcases hc71 with rfl | rfl <;> exact hv69.rf (by decide)) dX6_wireStatement_254 ?_
          refine go_iload (pc := 257) rfl dX6_wireStatement_257 ?_
          refine go_aload_n (pc := 259) rfl dX6_wireStatement_259 ?_
          refine go_aload_n (pc := 260) rfl dX6_wireStatement_260 ?_
          refine gi_getF (pc := 261) (q := 36) hv69 fL_X6_9 rfl (Nat.le_of_ble_eq_true rfl) rfl (hv69.rf (by decide)) dX6_wireStatement_261 ?_
          refine gi_getF (pc := 264) (q := 40) hv69 fL_X6_50 rfl (Nat.le_of_ble_eq_true rfl) rfl (hv69.rf (by decide)) dX6_wireStatement_264 ?_
          refine go_iload_n (pc := 267) rfl dX6_wireStatement_267 ?_
          refine gi_iald (pc := 268) (lo := -1) (hi := 127) (len := 128) hv69 (ti_rfl a2) rfl (by omega) (by omega) (fun _ => rfl) dX6_wireStatement_268 (fun v73 v73l v73u v73w => ?_)
          have k74 := bd_e k72 (congrArg Int32.toInt v73w.symm)
          refine go_iload_n (pc := 269) rfl dX6_wireStatement_269 ?_
          refine go_iload_n (pc := 270) rfl dX6_wireStatement_270 ?_
          refine go_iload (pc := 271) rfl dX6_wireStatement_271 ?_
          refine go_iconst (pc := 273) (v := 1) (by decide) dX6_wireStatement_273 ?_
          refine gf_iadd (pc := 274) (ti_rfl a5) (ti_c (v := 1) (a := 1) (by decide)) (by omega) (by omega) dX6_wireStatement_274 (fun v75 e76 => ?_)
          refine go_invV (pc := 275) (sl := 0) (s_X6_wireBlock_lv7_f l (d + 0) hv69 v73 (by rw [show (v73 : Int32).toInt = v73.toInt from (ti_rfl v73)]; omega) (by rw [show (v73 : Int32).toInt = v73.toInt from (ti_rfl v73)]; omega) a3 (by rw [show (a3 : Int32).toInt = a3.toInt from (ti_rfl a3)]; omega) (by rw [show (a3 : Int32).toInt = a3.toInt from (ti_rfl a3)]; omega) a4 (by rw [show (a4 : Int32).toInt = a4.toInt from (ti_rfl a4)]; omega) (by rw [show (a4 : Int32).toInt = a4.toInt from (ti_rfl a4)]; omega) v75 (by rw [show (v75 : Int32).toInt = (a5.toInt + 1) from e76]; omega) (by rw [show (v75 : Int32).toInt = (a5.toInt + 1) from e76]; omega)) mL_X6_34 iM_X6_wireBlock sM_X6_wireBlock (hv69.sh rfl) rfl rfl rfl (Nat.le_of_ble_eq_true rfl) (show d + 0 + 1 + 1 ≤ d + 2 by omega) (show 8 + (8 + 11) + 40 * (d + 0 + 1) ≤ 40 * (d + 2) by omega) (g_c0 hv69.ln) (Nat.le_of_ble_eq_true rfl) dX6_wireStatement_275 ?_
          intro r h77 hq _
          obtain ⟨v80, rfl, v80l, v80u, hv77, f78, f79⟩ := hq
          try rw [show (v75 : Int32).toInt = (a5.toInt + 1) from e76] at f78
          try rw [show (v75 : Int32).toInt = (a5.toInt + 1) from e76] at f79
          have fx77 : FX KC0 h h77 := FX.tr fx69 f79
          have k81 := bd2_e k74 f78
          refine gi_iast (pc := 278) (lo := 0) (hi := 44) (len := 40) hv77 (ti_rfl v1) (ti_rfl v80) (by rcases hc71 with rfl | rfl <;> rfl) (by omega) (by omega) (fun _ => by rcases hc71 with rfl | rfl <;> rfl) (by omega) (by omega) (by rcases hc71 with rfl | rfl <;> decide) dX6_wireStatement_278 (fun h82 hv82 hv82e => ?_)
          have fx82 : FX KC0 h h82 := FX.pI fx77 hv82e (by unfold KC0; omega)
          have k83 := bd_e k81 (st_I hv82e (ti_rfl v80))
          refine go_iload (pc := 279) rfl dX6_wireStatement_279 ?_
          exact gi_iret (pc := 281) (ti_rfl v1) ⟨_, rfl, (by rw [show (v1 : Int32).toInt = v1.toInt from (ti_rfl v1)]; omega), (by rw [show (v1 : Int32).toInt = v1.toInt from (ti_rfl v1)]; omega), hv82, (k83.symm.trans kf), fx82⟩ hv82 dX6_wireStatement_281
      ·
        have k84 := if_f k48 (fun z => z q49)
        refine go_aload_n (pc := 174) rfl dX6_wireStatement_174 ?_
        refine gi_getC (pc := 175) hv37 fL_X6_15 rfl (Nat.le_of_ble_eq_true rfl) rfl (by decide) dX6_wireStatement_175 (fun c85 hc85 fc85 => ?_)
        have k86 := bd_e k84 (st_c fc85)
        refine gi_getF (pc := 178) (q := c85 + 13) hv37 fL_X6_71 (by rcases hc85 with rfl | rfl <;> rfl) (Nat.le_of_ble_eq_true rfl) rfl (by rcases hc85 with rfl | rfl <;> exact hv37.rf (by decide)) dX6_wireStatement_178 ?_
        refine go_iload (pc := 181) rfl dX6_wireStatement_181 ?_
        refine go_aload_n (pc := 183) rfl dX6_wireStatement_183 ?_
        refine go_aload_n (pc := 184) rfl dX6_wireStatement_184 ?_
        refine gi_getF (pc := 185) (q := 36) hv37 fL_X6_9 rfl (Nat.le_of_ble_eq_true rfl) rfl (hv37.rf (by decide)) dX6_wireStatement_185 ?_
        refine gi_getF (pc := 188) (q := 39) hv37 fL_X6_59 rfl (Nat.le_of_ble_eq_true rfl) rfl (hv37.rf (by decide)) dX6_wireStatement_188 ?_
        refine go_iload_n (pc := 191) rfl dX6_wireStatement_191 ?_
        refine gi_iald (pc := 192) (lo := -1) (hi := 127) (len := 128) hv37 (ti_rfl a2) rfl (by omega) (by omega) (fun _ => rfl) dX6_wireStatement_192 (fun v87 v87l v87u v87w => ?_)
        have k88 := bd_e k86 (congrArg Int32.toInt v87w.symm)
        refine go_iload (pc := 193) rfl dX6_wireStatement_193 ?_
        refine go_iload_n (pc := 195) rfl dX6_wireStatement_195 ?_
        refine go_iload (pc := 196) rfl dX6_wireStatement_196 ?_
        refine go_iconst (pc := 198) (v := 1) (by decide) dX6_wireStatement_198 ?_
        refine gf_iadd (pc := 199) (ti_rfl a5) (ti_c (v := 1) (a := 1) (by decide)) (by omega) (by omega) dX6_wireStatement_199 (fun v89 e90 => ?_)
        refine go_invV (pc := 200) (sl := 0) (s_X6_wireBlock_lv7_f l (d + 0) hv37 v87 (by rw [show (v87 : Int32).toInt = v87.toInt from (ti_rfl v87)]; omega) (by rw [show (v87 : Int32).toInt = v87.toInt from (ti_rfl v87)]; omega) v1 (by rw [show (v1 : Int32).toInt = v1.toInt from (ti_rfl v1)]; omega) (by rw [show (v1 : Int32).toInt = v1.toInt from (ti_rfl v1)]; omega) a4 (by rw [show (a4 : Int32).toInt = a4.toInt from (ti_rfl a4)]; omega) (by rw [show (a4 : Int32).toInt = a4.toInt from (ti_rfl a4)]; omega) v89 (by rw [show (v89 : Int32).toInt = (a5.toInt + 1) from e90]; omega) (by rw [show (v89 : Int32).toInt = (a5.toInt + 1) from e90]; omega)) mL_X6_34 iM_X6_wireBlock sM_X6_wireBlock (hv37.sh rfl) rfl rfl rfl (Nat.le_of_ble_eq_true rfl) (show d + 0 + 1 + 1 ≤ d + 2 by omega) (show 8 + (8 + 11) + 40 * (d + 0 + 1) ≤ 40 * (d + 2) by omega) (g_c0 hv37.ln) (Nat.le_of_ble_eq_true rfl) dX6_wireStatement_200 ?_
        intro r h91 hq _
        obtain ⟨v94, rfl, v94l, v94u, hv91, f92, f93⟩ := hq
        try rw [show (v89 : Int32).toInt = (a5.toInt + 1) from e90] at f92
        try rw [show (v89 : Int32).toInt = (a5.toInt + 1) from e90] at f93
        have fx91 : FX KC0 h h91 := FX.tr fx37 f93
        have k95 := bd2_e k88 f92
        refine gi_iast (pc := 203) (lo := 0) (hi := 44) (len := 40) hv91 (ti_rfl v1) (ti_rfl v94) (by rcases hc85 with rfl | rfl <;> rfl) (by omega) (by omega) (fun _ => by rcases hc85 with rfl | rfl <;> rfl) (by omega) (by omega) (by rcases hc85 with rfl | rfl <;> decide) dX6_wireStatement_203 (fun h96 hv96 hv96e => ?_)
        have fx96 : FX KC0 h h96 := FX.pI fx91 hv96e (by unfold KC0; omega)
        have k97 := bd_e k95 (st_I hv96e (ti_rfl v94))
        refine go_goto (pc := 204) (tgt := 279) (by decide) dX6_wireStatement_204 ?_
        refine go_iload (pc := 279) rfl dX6_wireStatement_279 ?_
        exact gi_iret (pc := 281) (ti_rfl v1) ⟨_, rfl, (by rw [show (v1 : Int32).toInt = v1.toInt from (ti_rfl v1)]; omega), (by rw [show (v1 : Int32).toInt = v1.toInt from (ti_rfl v1)]; omega), hv96, (k97.symm.trans kf), fx96⟩ hv96 dX6_wireStatement_281
    ·
      have k98 := if_f k42 (fun z => z q43)
      refine go_aload_n (pc := 145) rfl dX6_wireStatement_145 ?_
      refine gi_getC (pc := 146) hv37 fL_X6_15 rfl (Nat.le_of_ble_eq_true rfl) rfl (by decide) dX6_wireStatement_146 (fun c99 hc99 fc99 => ?_)
      have k100 := bd_e k98 (st_c fc99)
      refine gi_getF (pc := 149) (q := c99 + 13) hv37 fL_X6_71 (by rcases hc99 with rfl | rfl <;> rfl) (Nat.le_of_ble_eq_true rfl) rfl (by rcases hc99 with rfl | rfl <;> exact hv37.rf (by decide)) dX6_wireStatement_149 ?_
      refine go_iload (pc := 152) rfl dX6_wireStatement_152 ?_
      refine go_iload (pc := 154) rfl dX6_wireStatement_154 ?_
      refine gi_iast (pc := 156) (lo := 0) (hi := 44) (len := 40) hv37 (ti_rfl v1) e8 (by rcases hc99 with rfl | rfl <;> rfl) (by omega) (by omega) (fun _ => by rcases hc99 with rfl | rfl <;> rfl) (by omega) (by omega) (by rcases hc99 with rfl | rfl <;> decide) dX6_wireStatement_156 (fun h101 hv101 hv101e => ?_)
      have fx101 : FX KC0 h h101 := FX.pI fx37 hv101e (by unfold KC0; omega)
      have k102 := bd_e k100 (st_I hv101e e8)
      refine go_goto (pc := 157) (tgt := 279) (by decide) dX6_wireStatement_157 ?_
      refine go_iload (pc := 279) rfl dX6_wireStatement_279 ?_
      exact gi_iret (pc := 281) (ti_rfl v1) ⟨_, rfl, (by rw [show (v1 : Int32).toInt = v1.toInt from (ti_rfl v1)]; omega), (by rw [show (v1 : Int32).toInt = v1.toInt from (ti_rfl v1)]; omega), hv101, (k102.symm.trans kf), fx101⟩ hv101 dX6_wireStatement_281
  ·
    have k103 := if_f k18 (Int.not_le.mpr q19)
    refine go_iload (pc := 61) rfl dX6_wireStatement_61 ?_
    refine go_goto (pc := 63) (tgt := 75) (by decide) dX6_wireStatement_63 ?_
    refine gi_iast (pc := 75) (lo := 0) (hi := 44) (len := 40) hv15 (ti_rfl v1) e8 (by rcases hc17 with rfl | rfl <;> rfl) (by omega) (by omega) (fun _ => by rcases hc17 with rfl | rfl <;> rfl) (by omega) (by omega) (by rcases hc17 with rfl | rfl <;> decide) dX6_wireStatement_75 (fun h104 hv104 hv104e => ?_)
    have fx104 : FX KC0 h h104 := FX.pI fx15 hv104e (by unfold KC0; omega)
    have k105 := bd_e k103 (st_I hv104e e8)
    refine go_aload_n (pc := 76) rfl dX6_wireStatement_76 ?_
    refine gi_getC (pc := 77) hv104 fL_X6_15 rfl (Nat.le_of_ble_eq_true rfl) rfl (by decide) dX6_wireStatement_77 (fun c106 hc106 fc106 => ?_)
    have k107 := bd_e k105 (st_c fc106)
    refine gi_getF (pc := 80) (q := c106 + 14) hv104 fL_X6_74 (by rcases hc106 with rfl | rfl <;> rfl) (Nat.le_of_ble_eq_true rfl) rfl (by rcases hc106 with rfl | rfl <;> exact hv104.rf (by decide)) dX6_wireStatement_80 ?_
    refine go_iload (pc := 83) rfl dX6_wireStatement_83 ?_
    refine go_iload_n (pc := 85) rfl dX6_wireStatement_85 ?_
    refine gf_if_ge (pc := 86) (tgt := 93) (ti_rfl a4) (by decide) dX6_wireStatement_86 (fun q108 => False.elim (by omega)) (fun q108 => ?_)
    refine go_iconst (pc := 89) (v := (-1)) (by decide) dX6_wireStatement_89 ?_
    refine go_goto (pc := 90) (tgt := 102) (by decide) dX6_wireStatement_90 ?_
    refine gi_iast (pc := 102) (lo := -1) (hi := 5) (len := 40) hv104 (ti_rfl v1) (ti_c (v := (-1)) (a := (-1)) (by decide)) (by rcases hc106 with rfl | rfl <;> rfl) (by omega) (by omega) (fun _ => by rcases hc106 with rfl | rfl <;> rfl) (by omega) (by omega) (by rcases hc106 with rfl | rfl <;> decide) dX6_wireStatement_102 (fun h109 hv109 hv109e => ?_)
    have fx109 : FX KC0 h h109 := FX.pI fx104 hv109e (by unfold KC0; omega)
    have k110 := bd_e k107 (st_I hv109e (ti_c (v := (-1)) (a := (-1)) (by decide)))
    refine go_aload_n (pc := 103) rfl dX6_wireStatement_103 ?_
    refine gi_getC (pc := 104) hv109 fL_X6_15 rfl (Nat.le_of_ble_eq_true rfl) rfl (by decide) dX6_wireStatement_104 (fun c111 hc111 fc111 => ?_)
    have k112 := bd_e k110 (st_c fc111)
    refine gi_getF (pc := 107) (q := c111 + 15) hv109 fL_X6_80 (by rcases hc111 with rfl | rfl <;> rfl) (Nat.le_of_ble_eq_true rfl) rfl (by rcases hc111 with rfl | rfl <;> exact hv109.rf (by decide)) dX6_wireStatement_107 ?_
    refine go_iload (pc := 110) rfl dX6_wireStatement_110 ?_
    refine go_iload_n (pc := 112) rfl dX6_wireStatement_112 ?_
    refine gf_if_ge (pc := 113) (tgt := 121) (ti_rfl a4) (by decide) dX6_wireStatement_113 (fun q113 => False.elim (by omega)) (fun q113 => ?_)
    refine go_bipush (pc := 116) (v := (-2)) (by decide) dX6_wireStatement_116 ?_
    refine go_goto (pc := 118) (tgt := 130) (by decide) dX6_wireStatement_118 ?_
    refine gi_iast (pc := 130) (lo := -2) (hi := 44) (len := 40) hv109 (ti_rfl v1) (ti_c (v := (-2)) (a := (-2)) (by decide)) (by rcases hc111 with rfl | rfl <;> rfl) (by omega) (by omega) (fun _ => by rcases hc111 with rfl | rfl <;> rfl) (by omega) (by omega) (by rcases hc111 with rfl | rfl <;> decide) dX6_wireStatement_130 (fun h114 hv114 hv114e => ?_)
    have fx114 : FX KC0 h h114 := FX.pI fx109 hv114e (by unfold KC0; omega)
    have k115 := bd_e k112 (st_I hv114e (ti_c (v := (-2)) (a := (-2)) (by decide)))
    refine go_aload_n (pc := 131) rfl dX6_wireStatement_131 ?_
    refine gi_getC (pc := 132) hv114 fL_X6_15 rfl (Nat.le_of_ble_eq_true rfl) rfl (by decide) dX6_wireStatement_132 (fun c116 hc116 fc116 => ?_)
    have k117 := bd_e k115 (st_c fc116)
    refine gi_getF (pc := 135) (q := c116 + 2) hv114 fL_X6_81 (by rcases hc116 with rfl | rfl <;> rfl) (Nat.le_of_ble_eq_true rfl) rfl (by rcases hc116 with rfl | rfl <;> exact hv114.rf (by decide)) dX6_wireStatement_135 ?_
    refine go_iload (pc := 138) rfl dX6_wireStatement_138 ?_
    refine gi_iald (pc := 140) (lo := 0) (hi := 5) (len := 40) hv114 (ti_rfl v1) (by rcases hc116 with rfl | rfl <;> rfl) (by omega) (by omega) (fun _ => by rcases hc116 with rfl | rfl <;> rfl) dX6_wireStatement_140 (fun v118 v118l v118u v118w => ?_)
    have k119 := bd_e k117 (congrArg Int32.toInt v118w.symm)
    refine go_iconst (pc := 141) (v := 5) (by decide) dX6_wireStatement_141 ?_
    refine gf_icmp_ne (pc := 142) (tgt := 160) (ti_rfl v118) (ti_c (v := 5) (a := 5) (by decide)) (by decide) dX6_wireStatement_142 (fun q120 => ?_) (fun q120 => ?_)
    ·
      have k121 := if_t k119 q120
      refine go_aload_n (pc := 160) rfl dX6_wireStatement_160 ?_
      refine gi_getC (pc := 161) hv114 fL_X6_15 rfl (Nat.le_of_ble_eq_true rfl) rfl (by decide) dX6_wireStatement_161 (fun c122 hc122 fc122 => ?_)
      have k123 := bd_e k121 (st_c fc122)
      refine gi_getF (pc := 164) (q := c122 + 2) hv114 fL_X6_81 (by rcases hc122 with rfl | rfl <;> rfl) (Nat.le_of_ble_eq_true rfl) rfl (by rcases hc122 with rfl | rfl <;> exact hv114.rf (by decide)) dX6_wireStatement_164 ?_
      refine go_iload (pc := 167) rfl dX6_wireStatement_167 ?_
      refine gi_iald (pc := 169) (lo := 0) (hi := 5) (len := 40) hv114 (ti_rfl v1) (by rcases hc122 with rfl | rfl <;> rfl) (by omega) (by omega) (fun _ => by rcases hc122 with rfl | rfl <;> rfl) dX6_wireStatement_169 (fun v124 v124l v124u v124w => ?_)
      have k125 := bd_e k123 (congrArg Int32.toInt v124w.symm)
      refine go_iconst (pc := 170) (v := 3) (by decide) dX6_wireStatement_170 ?_
      refine gf_icmp_ne (pc := 171) (tgt := 207) (ti_rfl v124) (ti_c (v := 3) (a := 3) (by decide)) (by decide) dX6_wireStatement_171 (fun q126 => ?_) (fun q126 => ?_)
      ·
        have k127 := if_t k125 q126
        refine go_aload_n (pc := 207) rfl dX6_wireStatement_207 ?_
        refine gi_getC (pc := 208) hv114 fL_X6_15 rfl (Nat.le_of_ble_eq_true rfl) rfl (by decide) dX6_wireStatement_208 (fun c128 hc128 fc128 => ?_)
        have k129 := bd_e k127 (st_c fc128)
        refine gi_getF (pc := 211) (q := c128 + 2) hv114 fL_X6_81 (by rcases hc128 with rfl | rfl <;> rfl) (Nat.le_of_ble_eq_true rfl) rfl (by rcases hc128 with rfl | rfl <;> exact hv114.rf (by decide)) dX6_wireStatement_211 ?_
        refine go_iload (pc := 214) rfl dX6_wireStatement_214 ?_
        refine gi_iald (pc := 216) (lo := 0) (hi := 5) (len := 40) hv114 (ti_rfl v1) (by rcases hc128 with rfl | rfl <;> rfl) (by omega) (by omega) (fun _ => by rcases hc128 with rfl | rfl <;> rfl) dX6_wireStatement_216 (fun v130 v130l v130u v130w => ?_)
        have k131 := bd_e k129 (congrArg Int32.toInt v130w.symm)
        refine go_iconst (pc := 217) (v := 2) (by decide) dX6_wireStatement_217 ?_
        refine gf_icmp_ne (pc := 218) (tgt := 279) (ti_rfl v130) (ti_c (v := 2) (a := 2) (by decide)) (by decide) dX6_wireStatement_218 (fun q132 => ?_) (fun q132 => ?_)
        ·
          have k133 := if_t k131 q132
          refine go_iload (pc := 279) rfl dX6_wireStatement_279 ?_
          exact gi_iret (pc := 281) (ti_rfl v1) ⟨_, rfl, (by rw [show (v1 : Int32).toInt = v1.toInt from (ti_rfl v1)]; omega), (by rw [show (v1 : Int32).toInt = v1.toInt from (ti_rfl v1)]; omega), hv114, (k133.symm.trans kf), fx114⟩ hv114 dX6_wireStatement_281
        ·
          have k134 := if_f k131 (fun z => z q132)
          refine go_aload_n (pc := 221) rfl dX6_wireStatement_221 ?_
          refine gi_getC (pc := 222) hv114 fL_X6_15 rfl (Nat.le_of_ble_eq_true rfl) rfl (by decide) dX6_wireStatement_222 (fun c135 hc135 fc135 => ?_)
          have k136 := bd_e k134 (st_c fc135)
          refine gi_getF (pc := 225) (q := c135 + 13) hv114 fL_X6_71 (by rcases hc135 with rfl | rfl <;> rfl) (Nat.le_of_ble_eq_true rfl) rfl (by rcases hc135 with rfl | rfl <;> exact hv114.rf (by decide)) dX6_wireStatement_225 ?_
          refine go_iload (pc := 228) rfl dX6_wireStatement_228 ?_
          refine go_aload_n (pc := 230) rfl dX6_wireStatement_230 ?_
          refine go_aload_n (pc := 231) rfl dX6_wireStatement_231 ?_
          refine gi_getF (pc := 232) (q := 36) hv114 fL_X6_9 rfl (Nat.le_of_ble_eq_true rfl) rfl (hv114.rf (by decide)) dX6_wireStatement_232 ?_
          refine gi_getF (pc := 235) (q := 39) hv114 fL_X6_59 rfl (Nat.le_of_ble_eq_true rfl) rfl (hv114.rf (by decide)) dX6_wireStatement_235 ?_
          refine go_iload_n (pc := 238) rfl dX6_wireStatement_238 ?_
          refine gi_iald (pc := 239) (lo := -1) (hi := 127) (len := 128) hv114 (ti_rfl a2) rfl (by omega) (by omega) (fun _ => rfl) dX6_wireStatement_239 (fun v137 v137l v137u v137w => ?_)
          have k138 := bd_e k136 (congrArg Int32.toInt v137w.symm)
          refine go_iload_n (pc := 240) rfl dX6_wireStatement_240 ?_
          refine go_iload_n (pc := 241) rfl dX6_wireStatement_241 ?_
          refine go_iload (pc := 242) rfl dX6_wireStatement_242 ?_
          refine go_iconst (pc := 244) (v := 1) (by decide) dX6_wireStatement_244 ?_
          refine gf_iadd (pc := 245) (ti_rfl a5) (ti_c (v := 1) (a := 1) (by decide)) (by omega) (by omega) dX6_wireStatement_245 (fun v139 e140 => ?_)
          refine go_invV (pc := 246) (sl := 0) (s_X6_wireBlock_lv7_f l (d + 0) hv114 v137 (by rw [show (v137 : Int32).toInt = v137.toInt from (ti_rfl v137)]; omega) (by rw [show (v137 : Int32).toInt = v137.toInt from (ti_rfl v137)]; omega) a3 (by rw [show (a3 : Int32).toInt = a3.toInt from (ti_rfl a3)]; omega) (by rw [show (a3 : Int32).toInt = a3.toInt from (ti_rfl a3)]; omega) a4 (by rw [show (a4 : Int32).toInt = a4.toInt from (ti_rfl a4)]; omega) (by rw [show (a4 : Int32).toInt = a4.toInt from (ti_rfl a4)]; omega) v139 (by rw [show (v139 : Int32).toInt = (a5.toInt + 1) from e140]; omega) (by rw [show (v139 : Int32).toInt = (a5.toInt + 1) from e140]; omega)) mL_X6_34 iM_X6_wireBlock sM_X6_wireBlock (hv114.sh rfl) rfl rfl rfl (Nat.le_of_ble_eq_true rfl) (show d + 0 + 1 + 1 ≤ d + 2 by omega) (show 8 + (8 + 11) + 40 * (d + 0 + 1) ≤ 40 * (d + 2) by omega) (g_c0 hv114.ln) (Nat.le_of_ble_eq_true rfl) dX6_wireStatement_246 ?_
          intro r h141 hq _
          obtain ⟨v144, rfl, v144l, v144u, hv141, f142, f143⟩ := hq
          try rw [show (v139 : Int32).toInt = (a5.toInt + 1) from e140] at f142
          try rw [show (v139 : Int32).toInt = (a5.toInt + 1) from e140] at f143
          have fx141 : FX KC0 h h141 := FX.tr fx114 f143
          have k145 := bd2_e k138 f142
          refine gi_iast (pc := 249) (lo := 0) (hi := 44) (len := 40) hv141 (ti_rfl v1) (ti_rfl v144) (by rcases hc135 with rfl | rfl <;> rfl) (by omega) (by omega) (fun _ => by rcases hc135 with rfl | rfl <;> rfl) (by omega) (by omega) (by rcases hc135 with rfl | rfl <;> decide) dX6_wireStatement_249 (fun h146 hv146 hv146e => ?_)
          have fx146 : FX KC0 h h146 := FX.pI fx141 hv146e (by unfold KC0; omega)
          have k147 := bd_e k145 (st_I hv146e (ti_rfl v144))
          refine go_aload_n (pc := 250) rfl dX6_wireStatement_250 ?_
          refine gi_getC (pc := 251) hv146 fL_X6_15 rfl (Nat.le_of_ble_eq_true rfl) rfl (by decide) dX6_wireStatement_251 (fun c148 hc148 fc148 => ?_)
          have k149 := bd_e k147 (st_c fc148)
          refine gi_getF (pc := 254) (q := c148 + 12) hv146 fL_X6_68 (by rcases hc148 with rfl | rfl <;> rfl) (Nat.le_of_ble_eq_true rfl) rfl (by rcases hc148 with rfl | rfl <;> exact hv146.rf (by decide)) dX6_wireStatement_254 ?_
          refine go_iload (pc := 257) rfl dX6_wireStatement_257 ?_
          refine go_aload_n (pc := 259) rfl dX6_wireStatement_259 ?_
          refine go_aload_n (pc := 260) rfl dX6_wireStatement_260 ?_
          refine gi_getF (pc := 261) (q := 36) hv146 fL_X6_9 rfl (Nat.le_of_ble_eq_true rfl) rfl (hv146.rf (by decide)) dX6_wireStatement_261 ?_
          refine gi_getF (pc := 264) (q := 40) hv146 fL_X6_50 rfl (Nat.le_of_ble_eq_true rfl) rfl (hv146.rf (by decide)) dX6_wireStatement_264 ?_
          refine go_iload_n (pc := 267) rfl dX6_wireStatement_267 ?_
          refine gi_iald (pc := 268) (lo := -1) (hi := 127) (len := 128) hv146 (ti_rfl a2) rfl (by omega) (by omega) (fun _ => rfl) dX6_wireStatement_268 (fun v150 v150l v150u v150w => ?_)
          have k151 := bd_e k149 (congrArg Int32.toInt v150w.symm)
          refine go_iload_n (pc := 269) rfl dX6_wireStatement_269 ?_
          refine go_iload_n (pc := 270) rfl dX6_wireStatement_270 ?_
          refine go_iload (pc := 271) rfl dX6_wireStatement_271 ?_
          refine go_iconst (pc := 273) (v := 1) (by decide) dX6_wireStatement_273 ?_
          refine gf_iadd (pc := 274) (ti_rfl a5) (ti_c (v := 1) (a := 1) (by decide)) (by omega) (by omega) dX6_wireStatement_274 (fun v152 e153 => ?_)
          refine go_invV (pc := 275) (sl := 0) (s_X6_wireBlock_lv7_f l (d + 0) hv146 v150 (by rw [show (v150 : Int32).toInt = v150.toInt from (ti_rfl v150)]; omega) (by rw [show (v150 : Int32).toInt = v150.toInt from (ti_rfl v150)]; omega) a3 (by rw [show (a3 : Int32).toInt = a3.toInt from (ti_rfl a3)]; omega) (by rw [show (a3 : Int32).toInt = a3.toInt from (ti_rfl a3)]; omega) a4 (by rw [show (a4 : Int32).toInt = a4.toInt from (ti_rfl a4)]; omega) (by rw [show (a4 : Int32).toInt = a4.toInt from (ti_rfl a4)]; omega) v152 (by rw [show (v152 : Int32).toInt = (a5.toInt + 1) from e153]; omega) (by rw [show (v152 : Int32).toInt = (a5.toInt + 1) from e153]; omega)) mL_X6_34 iM_X6_wireBlock sM_X6_wireBlock (hv146.sh rfl) rfl rfl rfl (Nat.le_of_ble_eq_true rfl) (show d + 0 + 1 + 1 ≤ d + 2 by omega) (show 8 + (8 + 11) + 40 * (d + 0 + 1) ≤ 40 * (d + 2) by omega) (g_c0 hv146.ln) (Nat.le_of_ble_eq_true rfl) dX6_wireStatement_275 ?_
          intro r h154 hq _
          obtain ⟨v157, rfl, v157l, v157u, hv154, f155, f156⟩ := hq
          try rw [show (v152 : Int32).toInt = (a5.toInt + 1) from e153] at f155
          try rw [show (v152 : Int32).toInt = (a5.toInt + 1) from e153] at f156
          have fx154 : FX KC0 h h154 := FX.tr fx146 f156
          have k158 := bd2_e k151 f155
          refine gi_iast (pc := 278) (lo := 0) (hi := 44) (len := 40) hv154 (ti_rfl v1) (ti_rfl v157) (by rcases hc148 with rfl | rfl <;> rfl) (by omega) (by omega) (fun _ => by rcases hc148 with rfl | rfl <;> rfl) (by omega) (by omega) (by rcases hc148 with rfl | rfl <;> decide) dX6_wireStatement_278 (fun h159 hv159 hv159e => ?_)
          have fx159 : FX KC0 h h159 := FX.pI fx154 hv159e (by unfold KC0; omega)
          have k160 := bd_e k158 (st_I hv159e (ti_rfl v157))
          refine go_iload (pc := 279) rfl dX6_wireStatement_279 ?_
          exact gi_iret (pc := 281) (ti_rfl v1) ⟨_, rfl, (by rw [show (v1 : Int32).toInt = v1.toInt from (ti_rfl v1)]; omega), (by rw [show (v1 : Int32).toInt = v1.toInt from (ti_rfl v1)]; omega), hv159, (k160.symm.trans kf), fx159⟩ hv159 dX6_wireStatement_281
      ·
        have k161 := if_f k125 (fun z => z q126)
        refine go_aload_n (pc := 174) rfl dX6_wireStatement_174 ?_
        refine gi_getC (pc := 175) hv114 fL_X6_15 rfl (Nat.le_of_ble_eq_true rfl) rfl (by decide) dX6_wireStatement_175 (fun c162 hc162 fc162 => ?_)
        have k163 := bd_e k161 (st_c fc162)
        refine gi_getF (pc := 178) (q := c162 + 13) hv114 fL_X6_71 (by rcases hc162 with rfl | rfl <;> rfl) (Nat.le_of_ble_eq_true rfl) rfl (by rcases hc162 with rfl | rfl <;> exact hv114.rf (by decide)) dX6_wireStatement_178 ?_
        refine go_iload (pc := 181) rfl dX6_wireStatement_181 ?_
        refine go_aload_n (pc := 183) rfl dX6_wireStatement_183 ?_
        refine go_aload_n (pc := 184) rfl dX6_wireStatement_184 ?_
        refine gi_getF (pc := 185) (q := 36) hv114 fL_X6_9 rfl (Nat.le_of_ble_eq_true rfl) rfl (hv114.rf (by decide)) dX6_wireStatement_185 ?_
        refine gi_getF (pc := 188) (q := 39) hv114 fL_X6_59 rfl (Nat.le_of_ble_eq_true rfl) rfl (hv114.rf (by decide)) dX6_wireStatement_188 ?_
        refine go_iload_n (pc := 191) rfl dX6_wireStatement_191 ?_
        refine gi_iald (pc := 192) (lo := -1) (hi := 127) (len := 128) hv114 (ti_rfl a2) rfl (by omega) (by omega) (fun _ => rfl) dX6_wireStatement_192 (fun v164 v164l v164u v164w => ?_)
        have k165 := bd_e k163 (congrArg Int32.toInt v164w.symm)
        refine go_iload (pc := 193) rfl dX6_wireStatement_193 ?_
        refine go_iload_n (pc := 195) rfl dX6_wireStatement_195 ?_
        refine go_iload (pc := 196) rfl dX6_wireStatement_196 ?_
        refine go_iconst (pc := 198) (v := 1) (by decide) dX6_wireStatement_198 ?_
        refine gf_iadd (pc := 199) (ti_rfl a5) (ti_c (v := 1) (a := 1) (by decide)) (by omega) (by omega) dX6_wireStatement_199 (fun v166 e167 => ?_)
        refine go_invV (pc := 200) (sl := 0) (s_X6_wireBlock_lv7_f l (d + 0) hv114 v164 (by rw [show (v164 : Int32).toInt = v164.toInt from (ti_rfl v164)]; omega) (by rw [show (v164 : Int32).toInt = v164.toInt from (ti_rfl v164)]; omega) v1 (by rw [show (v1 : Int32).toInt = v1.toInt from (ti_rfl v1)]; omega) (by rw [show (v1 : Int32).toInt = v1.toInt from (ti_rfl v1)]; omega) a4 (by rw [show (a4 : Int32).toInt = a4.toInt from (ti_rfl a4)]; omega) (by rw [show (a4 : Int32).toInt = a4.toInt from (ti_rfl a4)]; omega) v166 (by rw [show (v166 : Int32).toInt = (a5.toInt + 1) from e167]; omega) (by rw [show (v166 : Int32).toInt = (a5.toInt + 1) from e167]; omega)) mL_X6_34 iM_X6_wireBlock sM_X6_wireBlock (hv114.sh rfl) rfl rfl rfl (Nat.le_of_ble_eq_true rfl) (show d + 0 + 1 + 1 ≤ d + 2 by omega) (show 8 + (8 + 11) + 40 * (d + 0 + 1) ≤ 40 * (d + 2) by omega) (g_c0 hv114.ln) (Nat.le_of_ble_eq_true rfl) dX6_wireStatement_200 ?_
        intro r h168 hq _
        obtain ⟨v171, rfl, v171l, v171u, hv168, f169, f170⟩ := hq
        try rw [show (v166 : Int32).toInt = (a5.toInt + 1) from e167] at f169
        try rw [show (v166 : Int32).toInt = (a5.toInt + 1) from e167] at f170
        have fx168 : FX KC0 h h168 := FX.tr fx114 f170
        have k172 := bd2_e k165 f169
        refine gi_iast (pc := 203) (lo := 0) (hi := 44) (len := 40) hv168 (ti_rfl v1) (ti_rfl v171) (by rcases hc162 with rfl | rfl <;> rfl) (by omega) (by omega) (fun _ => by rcases hc162 with rfl | rfl <;> rfl) (by omega) (by omega) (by rcases hc162 with rfl | rfl <;> decide) dX6_wireStatement_203 (fun h173 hv173 hv173e => ?_)
        have fx173 : FX KC0 h h173 := FX.pI fx168 hv173e (by unfold KC0; omega)
        have k174 := bd_e k172 (st_I hv173e (ti_rfl v171))
        refine go_goto (pc := 204) (tgt := 279) (by decide) dX6_wireStatement_204 ?_
        refine go_iload (pc := 279) rfl dX6_wireStatement_279 ?_
        exact gi_iret (pc := 281) (ti_rfl v1) ⟨_, rfl, (by rw [show (v1 : Int32).toInt = v1.toInt from (ti_rfl v1)]; omega), (by rw [show (v1 : Int32).toInt = v1.toInt from (ti_rfl v1)]; omega), hv173, (k174.symm.trans kf), fx173⟩ hv173 dX6_wireStatement_281
    ·
      have k175 := if_f k119 (fun z => z q120)
      refine go_aload_n (pc := 145) rfl dX6_wireStatement_145 ?_
      refine gi_getC (pc := 146) hv114 fL_X6_15 rfl (Nat.le_of_ble_eq_true rfl) rfl (by decide) dX6_wireStatement_146 (fun c176 hc176 fc176 => ?_)
      have k177 := bd_e k175 (st_c fc176)
      refine gi_getF (pc := 149) (q := c176 + 13) hv114 fL_X6_71 (by rcases hc176 with rfl | rfl <;> rfl) (Nat.le_of_ble_eq_true rfl) rfl (by rcases hc176 with rfl | rfl <;> exact hv114.rf (by decide)) dX6_wireStatement_149 ?_
      refine go_iload (pc := 152) rfl dX6_wireStatement_152 ?_
      refine go_iload (pc := 154) rfl dX6_wireStatement_154 ?_
      refine gi_iast (pc := 156) (lo := 0) (hi := 44) (len := 40) hv114 (ti_rfl v1) e8 (by rcases hc176 with rfl | rfl <;> rfl) (by omega) (by omega) (fun _ => by rcases hc176 with rfl | rfl <;> rfl) (by omega) (by omega) (by rcases hc176 with rfl | rfl <;> decide) dX6_wireStatement_156 (fun h178 hv178 hv178e => ?_)
      have fx178 : FX KC0 h h178 := FX.pI fx114 hv178e (by unfold KC0; omega)
      have k179 := bd_e k177 (st_I hv178e e8)
      refine go_goto (pc := 157) (tgt := 279) (by decide) dX6_wireStatement_157 ?_
      refine go_iload (pc := 279) rfl dX6_wireStatement_279 ?_
      exact gi_iret (pc := 281) (ti_rfl v1) ⟨_, rfl, (by rw [show (v1 : Int32).toInt = v1.toInt from (ti_rfl v1)]; omega), (by rw [show (v1 : Int32).toInt = v1.toInt from (ti_rfl v1)]; omega), hv178, (k179.symm.trans kf), fx178⟩ hv178 dX6_wireStatement_281
def f_X6_wireBlock_lv6_ : Nat → Nat → Int → Int → Int → Int → Int → ST → ST × Int
  | 0, _, _, _, _, _, _, sx => (sx, 0)
  | n + 1, _, l3, l4, l5, l6, l7, sx => if 128 ≤ l7 then ((sx, l5)) else (if l6 < 0 then ((sx, l5)) else (bd (sx.1 37 (l6).toNat) fun v7 => if ¬ v7 = (-1) then (bd2 (f_X6_wireStatement_lv6 sx l6 l5 l3 l4) fun s11 v14 => bd (s11.1 38 (l6).toNat) fun v16 => f_X6_wireBlock_lv6_ n 20 l3 l4 v14 v16 ((l7 + 1)) s11) else (bd2 (f_X6_wireTry_lv6 sx l6 l5 l3 l4) fun s22 v25 => bd (s22.1 38 (l6).toNat) fun v27 => f_X6_wireBlock_lv6_ n 20 l3 l4 v25 v27 ((l7 + 1)) s22)))
def f_X6_wireBlock_lv6 (s : ST) (a2 : Int) (a3 : Int) (a4 : Int) (a5 : Int) : ST × Int :=
  f_X6_wireBlock_lv6_ 403 20 a4 a5 a3 a2 0 s
set_option maxHeartbeats 4000000 in
set_option maxRecDepth 100000 in
theorem s_X6_wireBlock_lv6_f (l : Launch) (d : Nat) {P : PP} {h : HP} (hv : Iv P h) (a2 : Int32) (a2l : -1 ≤ a2.toInt) (a2u : a2.toInt ≤ 127) (a3 : Int32) (a3l : 0 ≤ a3.toInt) (a3u : a3.toInt ≤ 44) (a4 : Int32) (a4l : -1 ≤ a4.toInt) (a4u : a4.toInt ≤ 127) (a5 : Int32) (a5l : 6 ≤ a5.toInt) (a5u : a5.toInt ≤ 6) : Mt l yX6_wireBlock cX6_wireBlock 8 (some .int) (d + 3) [.ref 48, .int a2, .int a3, .int a4, .int a5] h 0 0 (fun r h' => ∃ v : Int32, r = some (.int v) ∧ 0 ≤ v.toInt ∧ v.toInt ≤ 44 ∧ Iv P h' ∧ ((st h', v.toInt) = f_X6_wireBlock_lv6 (st h) a2.toInt a3.toInt a4.toInt a5.toInt) ∧ (FX KC0 h h')) := by
  refine Mt_iv hv (by decide) (Nat.le_of_ble_eq_true rfl) ?_
  show Go l RX6 cX6_wireBlock 8 (g_rm (d + 3) 0 0) "wireBlock" (some .int) 117 0 0 (fun _ _ => True) (fun r h' => ∃ v : Int32, r = some (.int v) ∧ 0 ≤ v.toInt ∧ v.toInt ≤ 44 ∧ Iv P h' ∧ ((st h', v.toInt) = f_X6_wireBlock_lv6 (st h) a2.toInt a3.toInt a4.toInt a5.toInt) ∧ (FX KC0 h h')) 0 0 [(0, .ref 48), (1, .int a2), (2, .int a3), (3, .int a4), (4, .int a5)] [] h
  have fx : FX KC0 h h := FX.rfl
  obtain ⟨fin, kf⟩ : ∃ z, z = f_X6_wireBlock_lv6 (st h) a2.toInt a3.toInt a4.toInt a5.toInt := ⟨_, _root_.rfl⟩
  have k0 := kf
  unfold f_X6_wireBlock_lv6 at k0
  have key : ∀ n : Nat, (∀ (l3 : Int32) (l4 : Int32) (l5 : Int32) (l6 : Int32) (l7 : Int32) (hx : HP), Iv P hx → -1 ≤ l3.toInt → l3.toInt ≤ 127 → 6 ≤ l4.toInt → l4.toInt ≤ 6 → 0 ≤ l5.toInt → l5.toInt ≤ 44 → -1 ≤ l6.toInt → l6.toInt ≤ 127 → 0 ≤ l7.toInt → l7.toInt ≤ 128 → FX KC0 h hx → fin = f_X6_wireBlock_lv6_ n 20 l3.toInt l4.toInt l5.toInt l6.toInt l7.toInt (st hx) → (3 * (128 - l7.toInt) + 2 : Int) < n → Go l RX6 cX6_wireBlock 8 (g_rm (d + 3) 0 0) "wireBlock" (some .int) 117 0 0 (fun _ _ => True) (fun r h' => ∃ v : Int32, r = some (.int v) ∧ 0 ≤ v.toInt ∧ v.toInt ≤ 44 ∧ Iv P h' ∧ ((st h', v.toInt) = f_X6_wireBlock_lv6 (st h) a2.toInt a3.toInt a4.toInt a5.toInt) ∧ (FX KC0 h h')) 0 20 [(0, .ref 48), (3, .int l3), (4, .int l4), (5, .int l5), (6, .int l6), (7, .int l7)] [] hx) := by
    intro n
    induction n with
    | zero => exact (by intros; omega)
    | succ n ih =>
      refine ?_
      ·
        intro l3 l4 l5 l6 l7 hx hvx l3l l3u l4l l4u l5l l5u l6l l6u l7l l7u fxx kL hm
        rw [f_X6_wireBlock_lv6_] at kL
        refine go_iload (pc := 20) rfl dX6_wireBlock_20 ?_
        refine go_sipush (pc := 22) (v := 128) (by decide) dX6_wireBlock_22 ?_
        refine gf_icmp_ge (pc := 25) (tgt := 94) (ti_rfl l7) (ti_c (v := 128) (a := 128) (by decide)) (by decide) dX6_wireBlock_25 (fun q1 => ?_) (fun q1 => ?_)
        ·
          have k2 := if_t kL q1
          refine go_iload (pc := 94) rfl dX6_wireBlock_94 ?_
          exact gi_iret (pc := 96) (ti_rfl l5) ⟨_, rfl, (by rw [show (l5 : Int32).toInt = l5.toInt from (ti_rfl l5)]; omega), (by rw [show (l5 : Int32).toInt = l5.toInt from (ti_rfl l5)]; omega), hvx, (k2.symm.trans kf), fxx⟩ hvx dX6_wireBlock_96
        ·
          have k3 := if_f kL (Int.not_le.mpr q1)
          refine go_iload (pc := 28) rfl dX6_wireBlock_28 ?_
          refine gf_if_lt (pc := 30) (tgt := 94) (ti_rfl l6) (by decide) dX6_wireBlock_30 (fun q4 => ?_) (fun q4 => ?_)
          ·
            have k5 := if_t k3 q4
            refine go_iload (pc := 94) rfl dX6_wireBlock_94 ?_
            exact gi_iret (pc := 96) (ti_rfl l5) ⟨_, rfl, (by rw [show (l5 : Int32).toInt = l5.toInt from (ti_rfl l5)]; omega), (by rw [show (l5 : Int32).toInt = l5.toInt from (ti_rfl l5)]; omega), hvx, (k5.symm.trans kf), fxx⟩ hvx dX6_wireBlock_96
          ·
            have k6 := if_f k3 (Int.not_lt.mpr q4)
            refine go_aload_n (pc := 33) rfl dX6_wireBlock_33 ?_
            refine gi_getF (pc := 34) (q := 36) hvx fL_X6_9 rfl (Nat.le_of_ble_eq_true rfl) rfl (hvx.rf (by decide)) dX6_wireBlock_34 ?_
            refine gi_getF (pc := 37) (q := 37) hvx fL_X6_38 rfl (Nat.le_of_ble_eq_true rfl) rfl (hvx.rf (by decide)) dX6_wireBlock_37 ?_
            refine go_iload (pc := 40) rfl dX6_wireBlock_40 ?_
            refine gi_iald (pc := 42) (lo := -1) (hi := 39) (len := 128) hvx (ti_rfl l6) rfl (by omega) (by omega) (fun _ => rfl) dX6_wireBlock_42 (fun v7 v7l v7u v7w => ?_)
            have k8 := bd_e k6 (congrArg Int32.toInt v7w.symm)
            refine go_iconst (pc := 43) (v := (-1)) (by decide) dX6_wireBlock_43 ?_
            refine gf_icmp_ne (pc := 44) (tgt := 63) (ti_rfl v7) (ti_c (v := (-1)) (a := (-1)) (by decide)) (by decide) dX6_wireBlock_44 (fun q9 => ?_) (fun q9 => ?_)
            ·
              have k10 := if_t k8 q9
              refine go_aload_n (pc := 63) rfl dX6_wireBlock_63 ?_
              refine go_iload (pc := 64) rfl dX6_wireBlock_64 ?_
              refine go_iload (pc := 66) rfl dX6_wireBlock_66 ?_
              refine go_iload_n (pc := 68) rfl dX6_wireBlock_68 ?_
              refine go_iload (pc := 69) rfl dX6_wireBlock_69 ?_
              refine go_invV (pc := 71) (sl := 0) (s_X6_wireStatement_lv6_f l (d + 0) hvx l6 (by rw [show (l6 : Int32).toInt = l6.toInt from (ti_rfl l6)]; omega) (by rw [show (l6 : Int32).toInt = l6.toInt from (ti_rfl l6)]; omega) l5 (by rw [show (l5 : Int32).toInt = l5.toInt from (ti_rfl l5)]; omega) (by rw [show (l5 : Int32).toInt = l5.toInt from (ti_rfl l5)]; omega) l3 (by rw [show (l3 : Int32).toInt = l3.toInt from (ti_rfl l3)]; omega) (by rw [show (l3 : Int32).toInt = l3.toInt from (ti_rfl l3)]; omega) l4 (by rw [show (l4 : Int32).toInt = l4.toInt from (ti_rfl l4)]; omega) (by rw [show (l4 : Int32).toInt = l4.toInt from (ti_rfl l4)]; omega) (by rw [← v7w]; omega)) mL_X6_44 iM_X6_wireStatement sM_X6_wireStatement (hvx.sh rfl) rfl rfl rfl (Nat.le_of_ble_eq_true rfl) (show d + 0 + 2 + 1 ≤ d + 3 by omega) (show 8 + (7 + 11) + 40 * (d + 0 + 2) ≤ 40 * (d + 3) by omega) (g_c0 hvx.ln) (Nat.le_of_ble_eq_true rfl) dX6_wireBlock_71 ?_
              intro r h11 hq _
              obtain ⟨v14, rfl, v14l, v14u, hv11, f12, f13⟩ := hq
              have fx11 : FX KC0 h h11 := FX.tr fxx f13
              have k15 := bd2_e k10 f12
              refine go_istore (pc := 74) (Nat.le_of_ble_eq_true rfl) dX6_wireBlock_74 (go_lv (lv2 := [(0, .ref 48), (3, .int l3), (4, .int l4), (5, .int v14), (6, .int l6), (7, .int l7)]) rfl ?_)
              refine go_aload_n (pc := 76) rfl dX6_wireBlock_76 ?_
              refine gi_getF (pc := 77) (q := 36) hv11 fL_X6_9 rfl (Nat.le_of_ble_eq_true rfl) rfl (hv11.rf (by decide)) dX6_wireBlock_77 ?_
              refine gi_getF (pc := 80) (q := 38) hv11 fL_X6_47 rfl (Nat.le_of_ble_eq_true rfl) rfl (hv11.rf (by decide)) dX6_wireBlock_80 ?_
              refine go_iload (pc := 83) rfl dX6_wireBlock_83 ?_
              refine gi_iald (pc := 85) (lo := -1) (hi := 127) (len := 128) hv11 (ti_rfl l6) rfl (by omega) (by omega) (fun _ => rfl) dX6_wireBlock_85 (fun v16 v16l v16u v16w => ?_)
              have k17 := bd_e k15 (congrArg Int32.toInt v16w.symm)
              refine go_istore (pc := 86) (Nat.le_of_ble_eq_true rfl) dX6_wireBlock_86 (go_lv (lv2 := [(0, .ref 48), (3, .int l3), (4, .int l4), (5, .int v14), (6, .int v16), (7, .int l7)]) rfl ?_)
              refine gf_iinc (pc := 88) (Nat.le_of_ble_eq_true rfl) rfl (ti_rfl l7) (ti_c (by decide)) (by omega) (by omega) dX6_wireBlock_88 (fun v18 e19 => ?_)
              refine go_lv (lv2 := [(0, .ref 48), (3, .int l3), (4, .int l4), (5, .int v14), (6, .int v16), (7, .int v18)]) rfl ?_
              refine go_goto (pc := 91) (tgt := 20) (by decide) dX6_wireBlock_91 ?_
              have z20 : (v18 : Int32).toInt = (l7.toInt + 1) := e19
              exact go_lv rfl (ih l3 l4 v14 v16 v18 h11 hv11 (by omega) (by omega) (by omega) (by omega) (by omega) (by omega) (by omega) (by omega) (by omega) (by omega) fx11 (by rw [show (v18 : Int32).toInt = (l7.toInt + 1) from e19]; exact k17) (by omega))
            ·
              have k21 := if_f k8 (fun z => z q9)
              refine go_aload_n (pc := 47) rfl dX6_wireBlock_47 ?_
              refine go_iload (pc := 48) rfl dX6_wireBlock_48 ?_
              refine go_iload (pc := 50) rfl dX6_wireBlock_50 ?_
              refine go_iload_n (pc := 52) rfl dX6_wireBlock_52 ?_
              refine go_iload (pc := 53) rfl dX6_wireBlock_53 ?_
              refine go_invV (pc := 55) (sl := 0) (s_X6_wireTry_lv6_f l (d + 0) hvx l6 (by rw [show (l6 : Int32).toInt = l6.toInt from (ti_rfl l6)]; omega) (by rw [show (l6 : Int32).toInt = l6.toInt from (ti_rfl l6)]; omega) l5 (by rw [show (l5 : Int32).toInt = l5.toInt from (ti_rfl l5)]; omega) (by rw [show (l5 : Int32).toInt = l5.toInt from (ti_rfl l5)]; omega) l3 (by rw [show (l3 : Int32).toInt = l3.toInt from (ti_rfl l3)]; omega) (by rw [show (l3 : Int32).toInt = l3.toInt from (ti_rfl l3)]; omega) l4 (by rw [show (l4 : Int32).toInt = l4.toInt from (ti_rfl l4)]; omega) (by rw [show (l4 : Int32).toInt = l4.toInt from (ti_rfl l4)]; omega)) mL_X6_41 iM_X6_wireTry sM_X6_wireTry (hvx.sh rfl) rfl rfl rfl (Nat.le_of_ble_eq_true rfl) (show d + 0 + 2 + 1 ≤ d + 3 by omega) (show 8 + (6 + 11) + 40 * (d + 0 + 2) ≤ 40 * (d + 3) by omega) (g_c0 hvx.ln) (Nat.le_of_ble_eq_true rfl) dX6_wireBlock_55 ?_
              intro r h22 hq _
              obtain ⟨v25, rfl, v25l, v25u, hv22, f23, f24⟩ := hq
              have fx22 : FX KC0 h h22 := FX.tr fxx f24
              have k26 := bd2_e k21 f23
              refine go_istore (pc := 58) (Nat.le_of_ble_eq_true rfl) dX6_wireBlock_58 (go_lv (lv2 := [(0, .ref 48), (3, .int l3), (4, .int l4), (5, .int v25), (6, .int l6), (7, .int l7)]) rfl ?_)
              refine go_goto (pc := 60) (tgt := 76) (by decide) dX6_wireBlock_60 ?_
              refine go_aload_n (pc := 76) rfl dX6_wireBlock_76 ?_
              refine gi_getF (pc := 77) (q := 36) hv22 fL_X6_9 rfl (Nat.le_of_ble_eq_true rfl) rfl (hv22.rf (by decide)) dX6_wireBlock_77 ?_
              refine gi_getF (pc := 80) (q := 38) hv22 fL_X6_47 rfl (Nat.le_of_ble_eq_true rfl) rfl (hv22.rf (by decide)) dX6_wireBlock_80 ?_
              refine go_iload (pc := 83) rfl dX6_wireBlock_83 ?_
              refine gi_iald (pc := 85) (lo := -1) (hi := 127) (len := 128) hv22 (ti_rfl l6) rfl (by omega) (by omega) (fun _ => rfl) dX6_wireBlock_85 (fun v27 v27l v27u v27w => ?_)
              have k28 := bd_e k26 (congrArg Int32.toInt v27w.symm)
              refine go_istore (pc := 86) (Nat.le_of_ble_eq_true rfl) dX6_wireBlock_86 (go_lv (lv2 := [(0, .ref 48), (3, .int l3), (4, .int l4), (5, .int v25), (6, .int v27), (7, .int l7)]) rfl ?_)
              refine gf_iinc (pc := 88) (Nat.le_of_ble_eq_true rfl) rfl (ti_rfl l7) (ti_c (by decide)) (by omega) (by omega) dX6_wireBlock_88 (fun v29 e30 => ?_)
              refine go_lv (lv2 := [(0, .ref 48), (3, .int l3), (4, .int l4), (5, .int v25), (6, .int v27), (7, .int v29)]) rfl ?_
              refine go_goto (pc := 91) (tgt := 20) (by decide) dX6_wireBlock_91 ?_
              have z31 : (v29 : Int32).toInt = (l7.toInt + 1) := e30
              exact go_lv rfl (ih l3 l4 v25 v27 v29 h22 hv22 (by omega) (by omega) (by omega) (by omega) (by omega) (by omega) (by omega) (by omega) (by omega) (by omega) fx22 (by rw [show (v29 : Int32).toInt = (l7.toInt + 1) from e30]; exact k28) (by omega))
  refine go_iload_n (pc := 0) rfl dX6_wireBlock_0 ?_
  refine go_istore (pc := 1) (Nat.le_of_ble_eq_true rfl) dX6_wireBlock_1 (go_lv (lv2 := [(0, .ref 48), (1, .int a2), (2, .int a3), (3, .int a4), (4, .int a5), (5, .int a3)]) rfl ?_)
  refine go_iload (pc := 3) rfl dX6_wireBlock_3 ?_
  refine go_bipush (pc := 5) (v := 6) (by decide) dX6_wireBlock_5 ?_
  refine gf_icmp_le (pc := 7) (tgt := 14) (ti_rfl a5) (ti_c (v := 6) (a := 6) (by decide)) (by decide) dX6_wireBlock_7 (fun q32 => ?_) (fun q32 => False.elim (by omega))
  refine go_iload_n (pc := 14) rfl dX6_wireBlock_14 ?_
  refine go_istore (pc := 15) (Nat.le_of_ble_eq_true rfl) dX6_wireBlock_15 (go_lv (lv2 := [(0, .ref 48), (1, .int a2), (2, .int a3), (3, .int a4), (4, .int a5), (5, .int a3), (6, .int a2)]) rfl ?_)
  refine go_iconst (pc := 17) (v := 0) (by decide) dX6_wireBlock_17 ?_
  refine go_istore (pc := 18) (Nat.le_of_ble_eq_true rfl) dX6_wireBlock_18 (go_lv (lv2 := [(0, .ref 48), (1, .int a2), (2, .int a3), (3, .int a4), (4, .int a5), (5, .int a3), (6, .int a2), (7, .int 0)]) rfl ?_)
  have z33 : (0 : Int32).toInt = 0 := (ti_c (v := 0) (a := 0) (by decide))
  exact go_lv rfl ((key 403) a4 a5 a3 a2 0 h hv (by omega) (by omega) (by omega) (by omega) (by omega) (by omega) (by omega) (by omega) (by omega) (by omega) fx (by rw [show (0 : Int32).toInt = 0 from (ti_c (v := 0) (a := 0) (by decide))]; exact k0) (by omega))
def f_X6_wireTry_lv5 (s : ST) (a2 : Int) (a3 : Int) (a4 : Int) (a5 : Int) : ST × Int :=
  bd (s.1 40 (a2).toNat) fun v1 => bd2 (f_X6_wireBlock_lv6 s v1 a3 a4 ((a5 + 1))) fun s5 v8 => bd (sI s5 42 (a2).toNat v8) fun s10 => if ¬ v8 = a3 then (bd (sI s10 43 (a2).toNat v8) fun s14 => bd (s14.1 39 (a2).toNat) fun v16 => bd2 (f_X6_wireBlock_lv6 s14 v16 a3 a2 ((a5 + 1))) fun s20 v23 => (s20, v23)) else (bd (sI s10 43 (a2).toNat (-2)) fun s26 => bd (s26.1 39 (a2).toNat) fun v28 => bd2 (f_X6_wireBlock_lv6 s26 v28 a3 a2 ((a5 + 1))) fun s32 v35 => (s32, v35))
set_option maxHeartbeats 4000000 in
set_option maxRecDepth 100000 in
theorem s_X6_wireTry_lv5_f (l : Launch) (d : Nat) {P : PP} {h : HP} (hv : Iv P h) (a2 : Int32) (a2l : 0 ≤ a2.toInt) (a2u : a2.toInt ≤ 127) (a3 : Int32) (a3l : 0 ≤ a3.toInt) (a3u : a3.toInt ≤ 44) (a4 : Int32) (a4l : -1 ≤ a4.toInt) (a4u : a4.toInt ≤ 127) (a5 : Int32) (a5l : 5 ≤ a5.toInt) (a5u : a5.toInt ≤ 5) : Mt l yX6_wireTry cX6_wireTry 6 (some .int) (d + 4) [.ref 48, .int a2, .int a3, .int a4, .int a5] h 0 0 (fun r h' => ∃ v : Int32, r = some (.int v) ∧ 0 ≤ v.toInt ∧ v.toInt ≤ 44 ∧ Iv P h' ∧ ((st h', v.toInt) = f_X6_wireTry_lv5 (st h) a2.toInt a3.toInt a4.toInt a5.toInt) ∧ (FX KC0 h h')) := by
  refine Mt_iv hv (by decide) (Nat.le_of_ble_eq_true rfl) ?_
  show Go l RX6 cX6_wireTry 6 (g_rm (d + 4) 0 0) "wireTry" (some .int) 117 0 0 (fun _ _ => True) (fun r h' => ∃ v : Int32, r = some (.int v) ∧ 0 ≤ v.toInt ∧ v.toInt ≤ 44 ∧ Iv P h' ∧ ((st h', v.toInt) = f_X6_wireTry_lv5 (st h) a2.toInt a3.toInt a4.toInt a5.toInt) ∧ (FX KC0 h h')) 0 0 [(0, .ref 48), (1, .int a2), (2, .int a3), (3, .int a4), (4, .int a5)] [] h
  have fx : FX KC0 h h := FX.rfl
  obtain ⟨fin, kf⟩ : ∃ z, z = f_X6_wireTry_lv5 (st h) a2.toInt a3.toInt a4.toInt a5.toInt := ⟨_, _root_.rfl⟩
  have k0 := kf
  unfold f_X6_wireTry_lv5 at k0
  refine go_aload_n (pc := 0) rfl dX6_wireTry_0 ?_
  refine go_aload_n (pc := 1) rfl dX6_wireTry_1 ?_
  refine gi_getF (pc := 2) (q := 36) hv fL_X6_9 rfl (Nat.le_of_ble_eq_true rfl) rfl (hv.rf (by decide)) dX6_wireTry_2 ?_
  refine gi_getF (pc := 5) (q := 40) hv fL_X6_50 rfl (Nat.le_of_ble_eq_true rfl) rfl (hv.rf (by decide)) dX6_wireTry_5 ?_
  refine go_iload_n (pc := 8) rfl dX6_wireTry_8 ?_
  refine gi_iald (pc := 9) (lo := -1) (hi := 127) (len := 128) hv (ti_rfl a2) rfl (by omega) (by omega) (fun _ => rfl) dX6_wireTry_9 (fun v1 v1l v1u v1w => ?_)
  have k2 := bd_e k0 (congrArg Int32.toInt v1w.symm)
  refine go_iload_n (pc := 10) rfl dX6_wireTry_10 ?_
  refine go_iload_n (pc := 11) rfl dX6_wireTry_11 ?_
  refine go_iload (pc := 12) rfl dX6_wireTry_12 ?_
  refine go_iconst (pc := 14) (v := 1) (by decide) dX6_wireTry_14 ?_
  refine gf_iadd (pc := 15) (ti_rfl a5) (ti_c (v := 1) (a := 1) (by decide)) (by omega) (by omega) dX6_wireTry_15 (fun v3 e4 => ?_)
  refine go_invV (pc := 16) (sl := 0) (s_X6_wireBlock_lv6_f l (d + 0) hv v1 (by rw [show (v1 : Int32).toInt = v1.toInt from (ti_rfl v1)]; omega) (by rw [show (v1 : Int32).toInt = v1.toInt from (ti_rfl v1)]; omega) a3 (by rw [show (a3 : Int32).toInt = a3.toInt from (ti_rfl a3)]; omega) (by rw [show (a3 : Int32).toInt = a3.toInt from (ti_rfl a3)]; omega) a4 (by rw [show (a4 : Int32).toInt = a4.toInt from (ti_rfl a4)]; omega) (by rw [show (a4 : Int32).toInt = a4.toInt from (ti_rfl a4)]; omega) v3 (by rw [show (v3 : Int32).toInt = (a5.toInt + 1) from e4]; omega) (by rw [show (v3 : Int32).toInt = (a5.toInt + 1) from e4]; omega)) mL_X6_34 iM_X6_wireBlock sM_X6_wireBlock (hv.sh rfl) rfl rfl rfl (Nat.le_of_ble_eq_true rfl) (show d + 0 + 3 + 1 ≤ d + 4 by omega) (show 8 + (8 + 11) + 40 * (d + 0 + 3) ≤ 40 * (d + 4) by omega) (g_c0 hv.ln) (Nat.le_of_ble_eq_true rfl) dX6_wireTry_16 ?_
  intro r h5 hq _
  obtain ⟨v8, rfl, v8l, v8u, hv5, f6, f7⟩ := hq
  try rw [show (v3 : Int32).toInt = (a5.toInt + 1) from e4] at f6
  try rw [show (v3 : Int32).toInt = (a5.toInt + 1) from e4] at f7
  have fx5 : FX KC0 h h5 := FX.tr fx f7
  have k9 := bd2_e k2 f6
  refine go_istore (pc := 19) (Nat.le_of_ble_eq_true rfl) dX6_wireTry_19 (go_lv (lv2 := [(0, .ref 48), (1, .int a2), (2, .int a3), (3, .int a4), (4, .int a5), (5, .int v8)]) rfl ?_)
  refine go_aload_n (pc := 21) rfl dX6_wireTry_21 ?_
  refine gi_getF (pc := 22) (q := 36) hv5 fL_X6_9 rfl (Nat.le_of_ble_eq_true rfl) rfl (hv5.rf (by decide)) dX6_wireTry_22 ?_
  refine gi_getF (pc := 25) (q := 42) hv5 fL_X6_53 rfl (Nat.le_of_ble_eq_true rfl) rfl (hv5.rf (by decide)) dX6_wireTry_25 ?_
  refine go_iload_n (pc := 28) rfl dX6_wireTry_28 ?_
  refine go_iload (pc := 29) rfl dX6_wireTry_29 ?_
  refine gi_iast (pc := 31) (lo := 0) (hi := 44) (len := 128) hv5 (ti_rfl a2) (ti_rfl v8) rfl (by omega) (by omega) (fun _ => rfl) (by omega) (by omega) (by decide) dX6_wireTry_31 (fun h10 hv10 hv10e => ?_)
  have fx10 : FX KC0 h h10 := FX.pI fx5 hv10e (by unfold KC0; omega)
  have k11 := bd_e k9 (st_I hv10e (ti_rfl v8))
  refine go_aload_n (pc := 32) rfl dX6_wireTry_32 ?_
  refine gi_getF (pc := 33) (q := 36) hv10 fL_X6_9 rfl (Nat.le_of_ble_eq_true rfl) rfl (hv10.rf (by decide)) dX6_wireTry_33 ?_
  refine gi_getF (pc := 36) (q := 43) hv10 fL_X6_56 rfl (Nat.le_of_ble_eq_true rfl) rfl (hv10.rf (by decide)) dX6_wireTry_36 ?_
  refine go_iload_n (pc := 39) rfl dX6_wireTry_39 ?_
  refine go_iload (pc := 40) rfl dX6_wireTry_40 ?_
  refine go_iload_n (pc := 42) rfl dX6_wireTry_42 ?_
  refine gf_icmp_ne (pc := 43) (tgt := 51) (ti_rfl v8) (ti_rfl a3) (by decide) dX6_wireTry_43 (fun q12 => ?_) (fun q12 => ?_)
  ·
    have k13 := if_t k11 q12
    refine go_iload (pc := 51) rfl dX6_wireTry_51 ?_
    refine gi_iast (pc := 53) (lo := -2) (hi := 44) (len := 128) hv10 (ti_rfl a2) (ti_rfl v8) rfl (by omega) (by omega) (fun _ => rfl) (by omega) (by omega) (by decide) dX6_wireTry_53 (fun h14 hv14 hv14e => ?_)
    have fx14 : FX KC0 h h14 := FX.pI fx10 hv14e (by unfold KC0; omega)
    have k15 := bd_e k13 (st_I hv14e (ti_rfl v8))
    refine go_aload_n (pc := 54) rfl dX6_wireTry_54 ?_
    refine go_aload_n (pc := 55) rfl dX6_wireTry_55 ?_
    refine gi_getF (pc := 56) (q := 36) hv14 fL_X6_9 rfl (Nat.le_of_ble_eq_true rfl) rfl (hv14.rf (by decide)) dX6_wireTry_56 ?_
    refine gi_getF (pc := 59) (q := 39) hv14 fL_X6_59 rfl (Nat.le_of_ble_eq_true rfl) rfl (hv14.rf (by decide)) dX6_wireTry_59 ?_
    refine go_iload_n (pc := 62) rfl dX6_wireTry_62 ?_
    refine gi_iald (pc := 63) (lo := -1) (hi := 127) (len := 128) hv14 (ti_rfl a2) rfl (by omega) (by omega) (fun _ => rfl) dX6_wireTry_63 (fun v16 v16l v16u v16w => ?_)
    have k17 := bd_e k15 (congrArg Int32.toInt v16w.symm)
    refine go_iload_n (pc := 64) rfl dX6_wireTry_64 ?_
    refine go_iload_n (pc := 65) rfl dX6_wireTry_65 ?_
    refine go_iload (pc := 66) rfl dX6_wireTry_66 ?_
    refine go_iconst (pc := 68) (v := 1) (by decide) dX6_wireTry_68 ?_
    refine gf_iadd (pc := 69) (ti_rfl a5) (ti_c (v := 1) (a := 1) (by decide)) (by omega) (by omega) dX6_wireTry_69 (fun v18 e19 => ?_)
    refine go_invV (pc := 70) (sl := 0) (s_X6_wireBlock_lv6_f l (d + 0) hv14 v16 (by rw [show (v16 : Int32).toInt = v16.toInt from (ti_rfl v16)]; omega) (by rw [show (v16 : Int32).toInt = v16.toInt from (ti_rfl v16)]; omega) a3 (by rw [show (a3 : Int32).toInt = a3.toInt from (ti_rfl a3)]; omega) (by rw [show (a3 : Int32).toInt = a3.toInt from (ti_rfl a3)]; omega) a2 (by rw [show (a2 : Int32).toInt = a2.toInt from (ti_rfl a2)]; omega) (by rw [show (a2 : Int32).toInt = a2.toInt from (ti_rfl a2)]; omega) v18 (by rw [show (v18 : Int32).toInt = (a5.toInt + 1) from e19]; omega) (by rw [show (v18 : Int32).toInt = (a5.toInt + 1) from e19]; omega)) mL_X6_34 iM_X6_wireBlock sM_X6_wireBlock (hv14.sh rfl) rfl rfl rfl (Nat.le_of_ble_eq_true rfl) (show d + 0 + 3 + 1 ≤ d + 4 by omega) (show 8 + (8 + 11) + 40 * (d + 0 + 3) ≤ 40 * (d + 4) by omega) (g_c0 hv14.ln) (Nat.le_of_ble_eq_true rfl) dX6_wireTry_70 ?_
    intro r h20 hq _
    obtain ⟨v23, rfl, v23l, v23u, hv20, f21, f22⟩ := hq
    try rw [show (v18 : Int32).toInt = (a5.toInt + 1) from e19] at f21
    try rw [show (v18 : Int32).toInt = (a5.toInt + 1) from e19] at f22
    have fx20 : FX KC0 h h20 := FX.tr fx14 f22
    have k24 := bd2_e k17 f21
    exact gi_iret (pc := 73) (ti_rfl v23) ⟨_, rfl, (by rw [show (v23 : Int32).toInt = v23.toInt from (ti_rfl v23)]; omega), (by rw [show (v23 : Int32).toInt = v23.toInt from (ti_rfl v23)]; omega), hv20, (k24.symm.trans kf), fx20⟩ hv20 dX6_wireTry_73
  ·
    have k25 := if_f k11 (fun z => z q12)
    refine go_bipush (pc := 46) (v := (-2)) (by decide) dX6_wireTry_46 ?_
    refine go_goto (pc := 48) (tgt := 53) (by decide) dX6_wireTry_48 ?_
    refine gi_iast (pc := 53) (lo := -2) (hi := 44) (len := 128) hv10 (ti_rfl a2) (ti_c (v := (-2)) (a := (-2)) (by decide)) rfl (by omega) (by omega) (fun _ => rfl) (by omega) (by omega) (by decide) dX6_wireTry_53 (fun h26 hv26 hv26e => ?_)
    have fx26 : FX KC0 h h26 := FX.pI fx10 hv26e (by unfold KC0; omega)
    have k27 := bd_e k25 (st_I hv26e (ti_c (v := (-2)) (a := (-2)) (by decide)))
    refine go_aload_n (pc := 54) rfl dX6_wireTry_54 ?_
    refine go_aload_n (pc := 55) rfl dX6_wireTry_55 ?_
    refine gi_getF (pc := 56) (q := 36) hv26 fL_X6_9 rfl (Nat.le_of_ble_eq_true rfl) rfl (hv26.rf (by decide)) dX6_wireTry_56 ?_
    refine gi_getF (pc := 59) (q := 39) hv26 fL_X6_59 rfl (Nat.le_of_ble_eq_true rfl) rfl (hv26.rf (by decide)) dX6_wireTry_59 ?_
    refine go_iload_n (pc := 62) rfl dX6_wireTry_62 ?_
    refine gi_iald (pc := 63) (lo := -1) (hi := 127) (len := 128) hv26 (ti_rfl a2) rfl (by omega) (by omega) (fun _ => rfl) dX6_wireTry_63 (fun v28 v28l v28u v28w => ?_)
    have k29 := bd_e k27 (congrArg Int32.toInt v28w.symm)
    refine go_iload_n (pc := 64) rfl dX6_wireTry_64 ?_
    refine go_iload_n (pc := 65) rfl dX6_wireTry_65 ?_
    refine go_iload (pc := 66) rfl dX6_wireTry_66 ?_
    refine go_iconst (pc := 68) (v := 1) (by decide) dX6_wireTry_68 ?_
    refine gf_iadd (pc := 69) (ti_rfl a5) (ti_c (v := 1) (a := 1) (by decide)) (by omega) (by omega) dX6_wireTry_69 (fun v30 e31 => ?_)
    refine go_invV (pc := 70) (sl := 0) (s_X6_wireBlock_lv6_f l (d + 0) hv26 v28 (by rw [show (v28 : Int32).toInt = v28.toInt from (ti_rfl v28)]; omega) (by rw [show (v28 : Int32).toInt = v28.toInt from (ti_rfl v28)]; omega) a3 (by rw [show (a3 : Int32).toInt = a3.toInt from (ti_rfl a3)]; omega) (by rw [show (a3 : Int32).toInt = a3.toInt from (ti_rfl a3)]; omega) a2 (by rw [show (a2 : Int32).toInt = a2.toInt from (ti_rfl a2)]; omega) (by rw [show (a2 : Int32).toInt = a2.toInt from (ti_rfl a2)]; omega) v30 (by rw [show (v30 : Int32).toInt = (a5.toInt + 1) from e31]; omega) (by rw [show (v30 : Int32).toInt = (a5.toInt + 1) from e31]; omega)) mL_X6_34 iM_X6_wireBlock sM_X6_wireBlock (hv26.sh rfl) rfl rfl rfl (Nat.le_of_ble_eq_true rfl) (show d + 0 + 3 + 1 ≤ d + 4 by omega) (show 8 + (8 + 11) + 40 * (d + 0 + 3) ≤ 40 * (d + 4) by omega) (g_c0 hv26.ln) (Nat.le_of_ble_eq_true rfl) dX6_wireTry_70 ?_
    intro r h32 hq _
    obtain ⟨v35, rfl, v35l, v35u, hv32, f33, f34⟩ := hq
    try rw [show (v30 : Int32).toInt = (a5.toInt + 1) from e31] at f33
    try rw [show (v30 : Int32).toInt = (a5.toInt + 1) from e31] at f34
    have fx32 : FX KC0 h h32 := FX.tr fx26 f34
    have k36 := bd2_e k29 f33
    exact gi_iret (pc := 73) (ti_rfl v35) ⟨_, rfl, (by rw [show (v35 : Int32).toInt = v35.toInt from (ti_rfl v35)]; omega), (by rw [show (v35 : Int32).toInt = v35.toInt from (ti_rfl v35)]; omega), hv32, (k36.symm.trans kf), fx32⟩ hv32 dX6_wireTry_73
def f_X6_wireStatement_lv5 (s : ST) (a2 : Int) (a3 : Int) (a4 : Int) (a5 : Int) : ST × Int :=
  bd (s.1 37 (a2).toNat) fun v1 => bd (s.2.2 48 1) fun c3 => bd (s.1 (c3 + 3) (v1).toNat) fun v5 => bd (s.2.2 48 1) fun c9 => bd (sI s (c9 + 11) (v1).toNat a3) fun s11 => bd (s11.2.2 48 1) fun c13 => bd (sI s11 (c13 + 12) (v1).toNat a3) fun s15 => bd (s15.2.2 48 1) fun c17 => if 0 ≤ a4 then (bd (s15.1 42 (a4).toNat) fun v21 => bd (sI s15 (c17 + 13) (v1).toNat v21) fun s23 => bd (s23.2.2 48 1) fun c25 => bd (s23.1 41 (a4).toNat) fun v28 => bd (sI s23 (c25 + 14) (v1).toNat v28) fun s30 => bd (s30.2.2 48 1) fun c32 => bd (s30.1 43 (a4).toNat) fun v35 => bd (sI s30 (c32 + 15) (v1).toNat v35) fun s37 => bd (s37.2.2 48 1) fun c39 => bd (s37.1 (c39 + 2) (v1).toNat) fun v41 => if ¬ v41 = 5 then (bd (s37.2.2 48 1) fun c45 => bd (s37.1 (c45 + 2) (v1).toNat) fun v47 => if ¬ v47 = 3 then (bd (s37.2.2 48 1) fun c51 => bd (s37.1 (c51 + 2) (v1).toNat) fun v53 => if ¬ v53 = 2 then ((s37, v1)) else (bd (s37.2.2 48 1) fun c58 => bd (s37.1 39 (a2).toNat) fun v60 => bd2 (f_X6_wireBlock_lv6 s37 v60 a3 a4 ((a5 + 1))) fun s64 v67 => bd (sI s64 (c58 + 13) (v1).toNat v67) fun s69 => bd (s69.2.2 48 1) fun c71 => bd (s69.1 40 (a2).toNat) fun v73 => bd2 (f_X6_wireBlock_lv6 s69 v73 a3 a4 ((a5 + 1))) fun s77 v80 => bd (sI s77 (c71 + 12) (v1).toNat v80) fun s82 => (s82, v1))) else (bd (s37.2.2 48 1) fun c85 => bd (s37.1 39 (a2).toNat) fun v87 => bd2 (f_X6_wireBlock_lv6 s37 v87 v1 a4 ((a5 + 1))) fun s91 v94 => bd (sI s91 (c85 + 13) (v1).toNat v94) fun s96 => (s96, v1))) else (bd (s37.2.2 48 1) fun c99 => bd (sI s37 (c99 + 13) (v1).toNat ((40 + v5))) fun s101 => (s101, v1))) else (bd (sI s15 (c17 + 13) (v1).toNat ((40 + v5))) fun s104 => bd (s104.2.2 48 1) fun c106 => bd (sI s104 (c106 + 14) (v1).toNat (-1)) fun s109 => bd (s109.2.2 48 1) fun c111 => bd (sI s109 (c111 + 15) (v1).toNat (-2)) fun s114 => bd (s114.2.2 48 1) fun c116 => bd (s114.1 (c116 + 2) (v1).toNat) fun v118 => if ¬ v118 = 5 then (bd (s114.2.2 48 1) fun c122 => bd (s114.1 (c122 + 2) (v1).toNat) fun v124 => if ¬ v124 = 3 then (bd (s114.2.2 48 1) fun c128 => bd (s114.1 (c128 + 2) (v1).toNat) fun v130 => if ¬ v130 = 2 then ((s114, v1)) else (bd (s114.2.2 48 1) fun c135 => bd (s114.1 39 (a2).toNat) fun v137 => bd2 (f_X6_wireBlock_lv6 s114 v137 a3 a4 ((a5 + 1))) fun s141 v144 => bd (sI s141 (c135 + 13) (v1).toNat v144) fun s146 => bd (s146.2.2 48 1) fun c148 => bd (s146.1 40 (a2).toNat) fun v150 => bd2 (f_X6_wireBlock_lv6 s146 v150 a3 a4 ((a5 + 1))) fun s154 v157 => bd (sI s154 (c148 + 12) (v1).toNat v157) fun s159 => (s159, v1))) else (bd (s114.2.2 48 1) fun c162 => bd (s114.1 39 (a2).toNat) fun v164 => bd2 (f_X6_wireBlock_lv6 s114 v164 v1 a4 ((a5 + 1))) fun s168 v171 => bd (sI s168 (c162 + 13) (v1).toNat v171) fun s173 => (s173, v1))) else (bd (s114.2.2 48 1) fun c176 => bd (sI s114 (c176 + 13) (v1).toNat ((40 + v5))) fun s178 => (s178, v1)))
set_option maxHeartbeats 4000000 in
set_option maxRecDepth 100000 in
theorem s_X6_wireStatement_lv5_f (l : Launch) (d : Nat) {P : PP} {h : HP} (hv : Iv P h) (a2 : Int32) (a2l : 0 ≤ a2.toInt) (a2u : a2.toInt ≤ 127) (a3 : Int32) (a3l : 0 ≤ a3.toInt) (a3u : a3.toInt ≤ 44) (a4 : Int32) (a4l : -1 ≤ a4.toInt) (a4u : a4.toInt ≤ 127) (a5 : Int32) (a5l : 5 ≤ a5.toInt) (a5u : a5.toInt ≤ 5) (hp : 0 ≤ (h.2.1 37 a2.toInt.toNat).toInt) : Mt l yX6_wireStatement cX6_wireStatement 7 (some .int) (d + 4) [.ref 48, .int a2, .int a3, .int a4, .int a5] h 0 0 (fun r h' => ∃ v : Int32, r = some (.int v) ∧ 0 ≤ v.toInt ∧ v.toInt ≤ 44 ∧ Iv P h' ∧ ((st h', v.toInt) = f_X6_wireStatement_lv5 (st h) a2.toInt a3.toInt a4.toInt a5.toInt) ∧ (FX KC0 h h')) := by
  refine Mt_iv hv (by decide) (Nat.le_of_ble_eq_true rfl) ?_
  show Go l RX6 cX6_wireStatement 7 (g_rm (d + 4) 0 0) "wireStatement" (some .int) 117 0 0 (fun _ _ => True) (fun r h' => ∃ v : Int32, r = some (.int v) ∧ 0 ≤ v.toInt ∧ v.toInt ≤ 44 ∧ Iv P h' ∧ ((st h', v.toInt) = f_X6_wireStatement_lv5 (st h) a2.toInt a3.toInt a4.toInt a5.toInt) ∧ (FX KC0 h h')) 0 0 [(0, .ref 48), (1, .int a2), (2, .int a3), (3, .int a4), (4, .int a5)] [] h
  have fx : FX KC0 h h := FX.rfl
  obtain ⟨fin, kf⟩ : ∃ z, z = f_X6_wireStatement_lv5 (st h) a2.toInt a3.toInt a4.toInt a5.toInt := ⟨_, _root_.rfl⟩
  have k0 := kf
  unfold f_X6_wireStatement_lv5 at k0
  refine go_aload_n (pc := 0) rfl dX6_wireStatement_0 ?_
  refine gi_getF (pc := 1) (q := 36) hv fL_X6_9 rfl (Nat.le_of_ble_eq_true rfl) rfl (hv.rf (by decide)) dX6_wireStatement_1 ?_
  refine gi_getF (pc := 4) (q := 37) hv fL_X6_38 rfl (Nat.le_of_ble_eq_true rfl) rfl (hv.rf (by decide)) dX6_wireStatement_4 ?_
  refine go_iload_n (pc := 7) rfl dX6_wireStatement_7 ?_
  refine gi_iald (pc := 8) (lo := -1) (hi := 39) (len := 128) hv (ti_rfl a2) rfl (by omega) (by omega) (fun _ => rfl) dX6_wireStatement_8 (fun v1 v1l v1u v1w => ?_)
  have k2 := bd_e k0 (congrArg Int32.toInt v1w.symm)
  have kk : 0 ≤ v1.toInt := by rw [v1w]; exact hp
  refine go_istore (pc := 9) (Nat.le_of_ble_eq_true rfl) dX6_wireStatement_9 (go_lv (lv2 := [(0, .ref 48), (1, .int a2), (2, .int a3), (3, .int a4), (4, .int a5), (5, .int v1)]) rfl ?_)
  refine go_bipush (pc := 11) (v := 40) (by decide) dX6_wireStatement_11 ?_
  refine go_aload_n (pc := 13) rfl dX6_wireStatement_13 ?_
  refine gi_getC (pc := 14) hv fL_X6_15 rfl (Nat.le_of_ble_eq_true rfl) rfl (by decide) dX6_wireStatement_14 (fun c3 hc3 fc3 => ?_)
  have k4 := bd_e k2 (st_c fc3)
  refine gi_getF (pc := 17) (q := c3 + 3) hv fL_X6_62 (by rcases hc3 with rfl | rfl <;> rfl) (Nat.le_of_ble_eq_true rfl) rfl (by rcases hc3 with rfl | rfl <;> exact hv.rf (by decide)) dX6_wireStatement_17 ?_
  refine go_iload (pc := 20) rfl dX6_wireStatement_20 ?_
  refine gi_iald (pc := 22) (lo := -1) (hi := 4) (len := 40) hv (ti_rfl v1) (by rcases hc3 with rfl | rfl <;> rfl) (by omega) (by omega) (fun _ => by rcases hc3 with rfl | rfl <;> rfl) dX6_wireStatement_22 (fun v5 v5l v5u v5w => ?_)
  have k6 := bd_e k4 (congrArg Int32.toInt v5w.symm)
  refine gf_iadd (pc := 23) (ti_c (v := 40) (a := 40) (by decide)) (ti_rfl v5) (by omega) (by omega) dX6_wireStatement_23 (fun v7 e8 => ?_)
  refine go_istore (pc := 24) (Nat.le_of_ble_eq_true rfl) dX6_wireStatement_24 (go_lv (lv2 := [(0, .ref 48), (1, .int a2), (2, .int a3), (3, .int a4), (4, .int a5), (5, .int v1), (6, .int v7)]) rfl ?_)
  refine go_aload_n (pc := 26) rfl dX6_wireStatement_26 ?_
  refine gi_getC (pc := 27) hv fL_X6_15 rfl (Nat.le_of_ble_eq_true rfl) rfl (by decide) dX6_wireStatement_27 (fun c9 hc9 fc9 => ?_)
  have k10 := bd_e k6 (st_c fc9)
  refine gi_getF (pc := 30) (q := c9 + 11) hv fL_X6_65 (by rcases hc9 with rfl | rfl <;> rfl) (Nat.le_of_ble_eq_true rfl) rfl (by rcases hc9 with rfl | rfl <;> exact hv.rf (by decide)) dX6_wireStatement_30 ?_
  refine go_iload (pc := 33) rfl dX6_wireStatement_33 ?_
  refine go_iload_n (pc := 35) rfl dX6_wireStatement_35 ?_
  refine gi_iast (pc := 36) (lo := 0) (hi := 44) (len := 40) hv (ti_rfl v1) (ti_rfl a3) (by rcases hc9 with rfl | rfl <;> rfl) (by omega) (by omega) (fun _ => by rcases hc9 with rfl | rfl <;> rfl) (by omega) (by omega) (by rcases hc9 with rfl | rfl <;> decide) dX6_wireStatement_36 (fun h11 hv11 hv11e => ?_)
  have fx11 : FX KC0 h h11 := FX.pI fx hv11e (by unfold KC0; omega)
  have k12 := bd_e k10 (st_I hv11e (ti_rfl a3))
  refine go_aload_n (pc := 37) rfl dX6_wireStatement_37 ?_
  refine gi_getC (pc := 38) hv11 fL_X6_15 rfl (Nat.le_of_ble_eq_true rfl) rfl (by decide) dX6_wireStatement_38 (fun c13 hc13 fc13 => ?_)
  have k14 := bd_e k12 (st_c fc13)
  refine gi_getF (pc := 41) (q := c13 + 12) hv11 fL_X6_68 (by rcases hc13 with rfl | rfl <;> rfl) (Nat.le_of_ble_eq_true rfl) rfl (by rcases hc13 with rfl | rfl <;> exact hv11.rf (by decide)) dX6_wireStatement_41 ?_
  refine go_iload (pc := 44) rfl dX6_wireStatement_44 ?_
  refine go_iload_n (pc := 46) rfl dX6_wireStatement_46 ?_
  refine gi_iast (pc := 47) (lo := 0) (hi := 44) (len := 40) hv11 (ti_rfl v1) (ti_rfl a3) (by rcases hc13 with rfl | rfl <;> rfl) (by omega) (by omega) (fun _ => by rcases hc13 with rfl | rfl <;> rfl) (by omega) (by omega) (by rcases hc13 with rfl | rfl <;> decide) dX6_wireStatement_47 (fun h15 hv15 hv15e => ?_)
  have fx15 : FX KC0 h h15 := FX.pI fx11 hv15e (by unfold KC0; omega)
  have k16 := bd_e k14 (st_I hv15e (ti_rfl a3))
  refine go_aload_n (pc := 48) rfl dX6_wireStatement_48 ?_
  refine gi_getC (pc := 49) hv15 fL_X6_15 rfl (Nat.le_of_ble_eq_true rfl) rfl (by decide) dX6_wireStatement_49 (fun c17 hc17 fc17 => ?_)
  have k18 := bd_e k16 (st_c fc17)
  refine gi_getF (pc := 52) (q := c17 + 13) hv15 fL_X6_71 (by rcases hc17 with rfl | rfl <;> rfl) (Nat.le_of_ble_eq_true rfl) rfl (by rcases hc17 with rfl | rfl <;> exact hv15.rf (by decide)) dX6_wireStatement_52 ?_
  refine go_iload (pc := 55) rfl dX6_wireStatement_55 ?_
  refine go_iload_n (pc := 57) rfl dX6_wireStatement_57 ?_
  refine gf_if_ge (pc := 58) (tgt := 66) (ti_rfl a4) (by decide) dX6_wireStatement_58 (fun q19 => ?_) (fun q19 => ?_)
  ·
    have k20 := if_t k18 q19
    refine go_aload_n (pc := 66) rfl dX6_wireStatement_66 ?_
    refine gi_getF (pc := 67) (q := 36) hv15 fL_X6_9 rfl (Nat.le_of_ble_eq_true rfl) rfl (hv15.rf (by decide)) dX6_wireStatement_67 ?_
    refine gi_getF (pc := 70) (q := 42) hv15 fL_X6_53 rfl (Nat.le_of_ble_eq_true rfl) rfl (hv15.rf (by decide)) dX6_wireStatement_70 ?_
    refine go_iload_n (pc := 73) rfl dX6_wireStatement_73 ?_
    refine gi_iald (pc := 74) (lo := 0) (hi := 44) (len := 128) hv15 (ti_rfl a4) rfl (by omega) (by omega) (fun _ => rfl) dX6_wireStatement_74 (fun v21 v21l v21u v21w => ?_)
    have k22 := bd_e k20 (congrArg Int32.toInt v21w.symm)
    refine gi_iast (pc := 75) (lo := 0) (hi := 44) (len := 40) hv15 (ti_rfl v1) (ti_rfl v21) (by rcases hc17 with rfl | rfl <;> rfl) (by omega) (by omega) (fun _ => by rcases hc17 with rfl | rfl <;> rfl) (by omega) (by omega) (by rcases hc17 with rfl | rfl <;> decide) dX6_wireStatement_75 (fun h23 hv23 hv23e => ?_)
    have fx23 : FX KC0 h h23 := FX.pI fx15 hv23e (by unfold KC0; omega)
    have k24 := bd_e k22 (st_I hv23e (ti_rfl v21))
    refine go_aload_n (pc := 76) rfl dX6_wireStatement_76 ?_
    refine gi_getC (pc := 77) hv23 fL_X6_15 rfl (Nat.le_of_ble_eq_true rfl) rfl (by decide) dX6_wireStatement_77 (fun c25 hc25 fc25 => ?_)
    have k26 := bd_e k24 (st_c fc25)
    refine gi_getF (pc := 80) (q := c25 + 14) hv23 fL_X6_74 (by rcases hc25 with rfl | rfl <;> rfl) (Nat.le_of_ble_eq_true rfl) rfl (by rcases hc25 with rfl | rfl <;> exact hv23.rf (by decide)) dX6_wireStatement_80 ?_
    refine go_iload (pc := 83) rfl dX6_wireStatement_83 ?_
    refine go_iload_n (pc := 85) rfl dX6_wireStatement_85 ?_
    refine gf_if_ge (pc := 86) (tgt := 93) (ti_rfl a4) (by decide) dX6_wireStatement_86 (fun q27 => ?_) (fun q27 => False.elim (by omega))
    refine go_aload_n (pc := 93) rfl dX6_wireStatement_93 ?_
    refine gi_getF (pc := 94) (q := 36) hv23 fL_X6_9 rfl (Nat.le_of_ble_eq_true rfl) rfl (hv23.rf (by decide)) dX6_wireStatement_94 ?_
    refine gi_getF (pc := 97) (q := 41) hv23 fL_X6_77 rfl (Nat.le_of_ble_eq_true rfl) rfl (hv23.rf (by decide)) dX6_wireStatement_97 ?_
    refine go_iload_n (pc := 100) rfl dX6_wireStatement_100 ?_
    refine gi_iald (pc := 101) (lo := -1) (hi := 5) (len := 128) hv23 (ti_rfl a4) rfl (by omega) (by omega) (fun _ => rfl) dX6_wireStatement_101 (fun v28 v28l v28u v28w => ?_)
    have k29 := bd_e k26 (congrArg Int32.toInt v28w.symm)
    refine gi_iast (pc := 102) (lo := -1) (hi := 5) (len := 40) hv23 (ti_rfl v1) (ti_rfl v28) (by rcases hc25 with rfl | rfl <;> rfl) (by omega) (by omega) (fun _ => by rcases hc25 with rfl | rfl <;> rfl) (by omega) (by omega) (by rcases hc25 with rfl | rfl <;> decide) dX6_wireStatement_102 (fun h30 hv30 hv30e => ?_)
    have fx30 : FX KC0 h h30 := FX.pI fx23 hv30e (by unfold KC0; omega)
    have k31 := bd_e k29 (st_I hv30e (ti_rfl v28))
    refine go_aload_n (pc := 103) rfl dX6_wireStatement_103 ?_
    refine gi_getC (pc := 104) hv30 fL_X6_15 rfl (Nat.le_of_ble_eq_true rfl) rfl (by decide) dX6_wireStatement_104 (fun c32 hc32 fc32 => ?_)
    have k33 := bd_e k31 (st_c fc32)
    refine gi_getF (pc := 107) (q := c32 + 15) hv30 fL_X6_80 (by rcases hc32 with rfl | rfl <;> rfl) (Nat.le_of_ble_eq_true rfl) rfl (by rcases hc32 with rfl | rfl <;> exact hv30.rf (by decide)) dX6_wireStatement_107 ?_
    refine go_iload (pc := 110) rfl dX6_wireStatement_110 ?_
    refine go_iload_n (pc := 112) rfl dX6_wireStatement_112 ?_
    refine gf_if_ge (pc := 113) (tgt := 121) (ti_rfl a4) (by decide) dX6_wireStatement_113 (fun q34 => ?_) (fun q34 => False.elim (by omega))
    refine go_aload_n (pc := 121) rfl dX6_wireStatement_121 ?_
    refine gi_getF (pc := 122) (q := 36) hv30 fL_X6_9 rfl (Nat.le_of_ble_eq_true rfl) rfl (hv30.rf (by decide)) dX6_wireStatement_122 ?_
    refine gi_getF (pc := 125) (q := 43) hv30 fL_X6_56 rfl (Nat.le_of_ble_eq_true rfl) rfl (hv30.rf (by decide)) dX6_wireStatement_125 ?_
    refine go_iload_n (pc := 128) rfl dX6_wireStatement_128 ?_
    refine gi_iald (pc := 129) (lo := -2) (hi := 44) (len := 128) hv30 (ti_rfl a4) rfl (by omega) (by omega) (fun _ => rfl) dX6_wireStatement_129 (fun v35 v35l v35u v35w => ?_)
    have k36 := bd_e k33 (congrArg Int32.toInt v35w.symm)
    refine gi_iast (pc := 130) (lo := -2) (hi := 44) (len := 40) hv30 (ti_rfl v1) (ti_rfl v35) (by rcases hc32 with rfl | rfl <;> rfl) (by omega) (by omega) (fun _ => by rcases hc32 with rfl | rfl <;> rfl) (by omega) (by omega) (by rcases hc32 with rfl | rfl <;> decide) dX6_wireStatement_130 (fun h37 hv37 hv37e => ?_)
    have fx37 : FX KC0 h h37 := FX.pI fx30 hv37e (by unfold KC0; omega)
    have k38 := bd_e k36 (st_I hv37e (ti_rfl v35))
    refine go_aload_n (pc := 131) rfl dX6_wireStatement_131 ?_
    refine gi_getC (pc := 132) hv37 fL_X6_15 rfl (Nat.le_of_ble_eq_true rfl) rfl (by decide) dX6_wireStatement_132 (fun c39 hc39 fc39 => ?_)
    have k40 := bd_e k38 (st_c fc39)
    refine gi_getF (pc := 135) (q := c39 + 2) hv37 fL_X6_81 (by rcases hc39 with rfl | rfl <;> rfl) (Nat.le_of_ble_eq_true rfl) rfl (by rcases hc39 with rfl | rfl <;> exact hv37.rf (by decide)) dX6_wireStatement_135 ?_
    refine go_iload (pc := 138) rfl dX6_wireStatement_138 ?_
    refine gi_iald (pc := 140) (lo := 0) (hi := 5) (len := 40) hv37 (ti_rfl v1) (by rcases hc39 with rfl | rfl <;> rfl) (by omega) (by omega) (fun _ => by rcases hc39 with rfl | rfl <;> rfl) dX6_wireStatement_140 (fun v41 v41l v41u v41w => ?_)
    have k42 := bd_e k40 (congrArg Int32.toInt v41w.symm)
    refine go_iconst (pc := 141) (v := 5) (by decide) dX6_wireStatement_141 ?_
    refine gf_icmp_ne (pc := 142) (tgt := 160) (ti_rfl v41) (ti_c (v := 5) (a := 5) (by decide)) (by decide) dX6_wireStatement_142 (fun q43 => ?_) (fun q43 => ?_)
    ·
      have k44 := if_t k42 q43
      refine go_aload_n (pc := 160) rfl dX6_wireStatement_160 ?_
      refine gi_getC (pc := 161) hv37 fL_X6_15 rfl (Nat.le_of_ble_eq_true rfl) rfl (by decide) dX6_wireStatement_161 (fun c45 hc45 fc45 => ?_)
      have k46 := bd_e k44 (st_c fc45)
      refine gi_getF (pc := 164) (q := c45 + 2) hv37 fL_X6_81 (by rcases hc45 with rfl | rfl <;> rfl) (Nat.le_of_ble_eq_true rfl) rfl (by rcases hc45 with rfl | rfl <;> exact hv37.rf (by decide)) dX6_wireStatement_164 ?_
      refine go_iload (pc := 167) rfl dX6_wireStatement_167 ?_
      refine gi_iald (pc := 169) (lo := 0) (hi := 5) (len := 40) hv37 (ti_rfl v1) (by rcases hc45 with rfl | rfl <;> rfl) (by omega) (by omega) (fun _ => by rcases hc45 with rfl | rfl <;> rfl) dX6_wireStatement_169 (fun v47 v47l v47u v47w => ?_)
      have k48 := bd_e k46 (congrArg Int32.toInt v47w.symm)
      refine go_iconst (pc := 170) (v := 3) (by decide) dX6_wireStatement_170 ?_
      refine gf_icmp_ne (pc := 171) (tgt := 207) (ti_rfl v47) (ti_c (v := 3) (a := 3) (by decide)) (by decide) dX6_wireStatement_171 (fun q49 => ?_) (fun q49 => ?_)
      ·
        have k50 := if_t k48 q49
        refine go_aload_n (pc := 207) rfl dX6_wireStatement_207 ?_
        refine gi_getC (pc := 208) hv37 fL_X6_15 rfl (Nat.le_of_ble_eq_true rfl) rfl (by decide) dX6_wireStatement_208 (fun c51 hc51 fc51 => ?_)
        have k52 := bd_e k50 (st_c fc51)
        refine gi_getF (pc := 211) (q := c51 + 2) hv37 fL_X6_81 (by rcases hc51 with rfl | rfl <;> rfl) (Nat.le_of_ble_eq_true rfl) rfl (by rcases hc51 with rfl | rfl <;> exact hv37.rf (by decide)) dX6_wireStatement_211 ?_
        refine go_iload (pc := 214) rfl dX6_wireStatement_214 ?_
        refine gi_iald (pc := 216) (lo := 0) (hi := 5) (len := 40) hv37 (ti_rfl v1) (by rcases hc51 with rfl | rfl <;> rfl) (by omega) (by omega) (fun _ => by rcases hc51 with rfl | rfl <;> rfl) dX6_wireStatement_216 (fun v53 v53l v53u v53w => ?_)
        have k54 := bd_e k52 (congrArg Int32.toInt v53w.symm)
        refine go_iconst (pc := 217) (v := 2) (by decide) dX6_wireStatement_217 ?_
        refine gf_icmp_ne (pc := 218) (tgt := 279) (ti_rfl v53) (ti_c (v := 2) (a := 2) (by decide)) (by decide) dX6_wireStatement_218 (fun q55 => ?_) (fun q55 => ?_)
        ·
          have k56 := if_t k54 q55
          refine go_iload (pc := 279) rfl dX6_wireStatement_279 ?_
          exact gi_iret (pc := 281) (ti_rfl v1) ⟨_, rfl, (by rw [show (v1 : Int32).toInt = v1.toInt from (ti_rfl v1)]; omega), (by rw [show (v1 : Int32).toInt = v1.toInt from (ti_rfl v1)]; omega), hv37, (k56.symm.trans kf), fx37⟩ hv37 dX6_wireStatement_281
        ·
          have k57 := if_f k54 (fun z => z q55)
          refine go_aload_n (pc := 221) rfl dX6_wireStatement_221 ?_
          refine gi_getC (pc := 222) hv37 fL_X6_15 rfl (Nat.le_of_ble_eq_true rfl) rfl (by decide) dX6_wireStatement_222 (fun c58 hc58 fc58 => ?_)
          have k59 := bd_e k57 (st_c fc58)
          refine gi_getF (pc := 225) (q := c58 + 13) hv37 fL_X6_71 (by rcases hc58 with rfl | rfl <;> rfl) (Nat.le_of_ble_eq_true rfl) rfl (by rcases hc58 with rfl | rfl <;> exact hv37.rf (by decide)) dX6_wireStatement_225 ?_
          refine go_iload (pc := 228) rfl dX6_wireStatement_228 ?_
          refine go_aload_n (pc := 230) rfl dX6_wireStatement_230 ?_
          refine go_aload_n (pc := 231) rfl dX6_wireStatement_231 ?_
          refine gi_getF (pc := 232) (q := 36) hv37 fL_X6_9 rfl (Nat.le_of_ble_eq_true rfl) rfl (hv37.rf (by decide)) dX6_wireStatement_232 ?_
          refine gi_getF (pc := 235) (q := 39) hv37 fL_X6_59 rfl (Nat.le_of_ble_eq_true rfl) rfl (hv37.rf (by decide)) dX6_wireStatement_235 ?_
          refine go_iload_n (pc := 238) rfl dX6_wireStatement_238 ?_
          refine gi_iald (pc := 239) (lo := -1) (hi := 127) (len := 128) hv37 (ti_rfl a2) rfl (by omega) (by omega) (fun _ => rfl) dX6_wireStatement_239 (fun v60 v60l v60u v60w => ?_)
          have k61 := bd_e k59 (congrArg Int32.toInt v60w.symm)
          refine go_iload_n (pc := 240) rfl dX6_wireStatement_240 ?_
          refine go_iload_n (pc := 241) rfl dX6_wireStatement_241 ?_
          refine go_iload (pc := 242) rfl dX6_wireStatement_242 ?_
          refine go_iconst (pc := 244) (v := 1) (by decide) dX6_wireStatement_244 ?_
          refine gf_iadd (pc := 245) (ti_rfl a5) (ti_c (v := 1) (a := 1) (by decide)) (by omega) (by omega) dX6_wireStatement_245 (fun v62 e63 => ?_)
          refine go_invV (pc := 246) (sl := 0) (s_X6_wireBlock_lv6_f l (d + 0) hv37 v60 (by rw [show (v60 : Int32).toInt = v60.toInt from (ti_rfl v60)]; omega) (by rw [show (v60 : Int32).toInt = v60.toInt from (ti_rfl v60)]; omega) a3 (by rw [show (a3 : Int32).toInt = a3.toInt from (ti_rfl a3)]; omega) (by rw [show (a3 : Int32).toInt = a3.toInt from (ti_rfl a3)]; omega) a4 (by rw [show (a4 : Int32).toInt = a4.toInt from (ti_rfl a4)]; omega) (by rw [show (a4 : Int32).toInt = a4.toInt from (ti_rfl a4)]; omega) v62 (by rw [show (v62 : Int32).toInt = (a5.toInt + 1) from e63]; omega) (by rw [show (v62 : Int32).toInt = (a5.toInt + 1) from e63]; omega)) mL_X6_34 iM_X6_wireBlock sM_X6_wireBlock (hv37.sh rfl) rfl rfl rfl (Nat.le_of_ble_eq_true rfl) (show d + 0 + 3 + 1 ≤ d + 4 by omega) (show 8 + (8 + 11) + 40 * (d + 0 + 3) ≤ 40 * (d + 4) by omega) (g_c0 hv37.ln) (Nat.le_of_ble_eq_true rfl) dX6_wireStatement_246 ?_
          intro r h64 hq _
          obtain ⟨v67, rfl, v67l, v67u, hv64, f65, f66⟩ := hq
          try rw [show (v62 : Int32).toInt = (a5.toInt + 1) from e63] at f65
          try rw [show (v62 : Int32).toInt = (a5.toInt + 1) from e63] at f66
          have fx64 : FX KC0 h h64 := FX.tr fx37 f66
          have k68 := bd2_e k61 f65
          refine gi_iast (pc := 249) (lo := 0) (hi := 44) (len := 40) hv64 (ti_rfl v1) (ti_rfl v67) (by rcases hc58 with rfl | rfl <;> rfl) (by omega) (by omega) (fun _ => by rcases hc58 with rfl | rfl <;> rfl) (by omega) (by omega) (by rcases hc58 with rfl | rfl <;> decide) dX6_wireStatement_249 (fun h69 hv69 hv69e => ?_)
          have fx69 : FX KC0 h h69 := FX.pI fx64 hv69e (by unfold KC0; omega)
          have k70 := bd_e k68 (st_I hv69e (ti_rfl v67))
          refine go_aload_n (pc := 250) rfl dX6_wireStatement_250 ?_
          refine gi_getC (pc := 251) hv69 fL_X6_15 rfl (Nat.le_of_ble_eq_true rfl) rfl (by decide) dX6_wireStatement_251 (fun c71 hc71 fc71 => ?_)
          have k72 := bd_e k70 (st_c fc71)
          refine gi_getF (pc := 254) (q := c71 + 12) hv69 fL_X6_68 (by rcases hc71 with rfl | rfl <;> rfl) (Nat.le_of_ble_eq_true rfl) rfl (by rcases hc71 with rfl | rfl <;> exact hv69.rf (by decide)) dX6_wireStatement_254 ?_
          refine go_iload (pc := 257) rfl dX6_wireStatement_257 ?_
          refine go_aload_n (pc := 259) rfl dX6_wireStatement_259 ?_
          refine go_aload_n (pc := 260) rfl dX6_wireStatement_260 ?_
          refine gi_getF (pc := 261) (q := 36) hv69 fL_X6_9 rfl (Nat.le_of_ble_eq_true rfl) rfl (hv69.rf (by decide)) dX6_wireStatement_261 ?_
          refine gi_getF (pc := 264) (q := 40) hv69 fL_X6_50 rfl (Nat.le_of_ble_eq_true rfl) rfl (hv69.rf (by decide)) dX6_wireStatement_264 ?_
          refine go_iload_n (pc := 267) rfl dX6_wireStatement_267 ?_
          refine gi_iald (pc := 268) (lo := -1) (hi := 127) (len := 128) hv69 (ti_rfl a2) rfl (by omega) (by omega) (fun _ => rfl) dX6_wireStatement_268 (fun v73 v73l v73u v73w => ?_)
          have k74 := bd_e k72 (congrArg Int32.toInt v73w.symm)
          refine go_iload_n (pc := 269) rfl dX6_wireStatement_269 ?_
          refine go_iload_n (pc := 270) rfl dX6_wireStatement_270 ?_
          refine go_iload (pc := 271) rfl dX6_wireStatement_271 ?_
          refine go_iconst (pc := 273) (v := 1) (by decide) dX6_wireStatement_273 ?_
          refine gf_iadd (pc := 274) (ti_rfl a5) (ti_c (v := 1) (a := 1) (by decide)) (by omega) (by omega) dX6_wireStatement_274 (fun v75 e76 => ?_)
          refine go_invV (pc := 275) (sl := 0) (s_X6_wireBlock_lv6_f l (d + 0) hv69 v73 (by rw [show (v73 : Int32).toInt = v73.toInt from (ti_rfl v73)]; omega) (by rw [show (v73 : Int32).toInt = v73.toInt from (ti_rfl v73)]; omega) a3 (by rw [show (a3 : Int32).toInt = a3.toInt from (ti_rfl a3)]; omega) (by rw [show (a3 : Int32).toInt = a3.toInt from (ti_rfl a3)]; omega) a4 (by rw [show (a4 : Int32).toInt = a4.toInt from (ti_rfl a4)]; omega) (by rw [show (a4 : Int32).toInt = a4.toInt from (ti_rfl a4)]; omega) v75 (by rw [show (v75 : Int32).toInt = (a5.toInt + 1) from e76]; omega) (by rw [show (v75 : Int32).toInt = (a5.toInt + 1) from e76]; omega)) mL_X6_34 iM_X6_wireBlock sM_X6_wireBlock (hv69.sh rfl) rfl rfl rfl (Nat.le_of_ble_eq_true rfl) (show d + 0 + 3 + 1 ≤ d + 4 by omega) (show 8 + (8 + 11) + 40 * (d + 0 + 3) ≤ 40 * (d + 4) by omega) (g_c0 hv69.ln) (Nat.le_of_ble_eq_true rfl) dX6_wireStatement_275 ?_
          intro r h77 hq _
          obtain ⟨v80, rfl, v80l, v80u, hv77, f78, f79⟩ := hq
          try rw [show (v75 : Int32).toInt = (a5.toInt + 1) from e76] at f78
          try rw [show (v75 : Int32).toInt = (a5.toInt + 1) from e76] at f79
          have fx77 : FX KC0 h h77 := FX.tr fx69 f79
          have k81 := bd2_e k74 f78
          refine gi_iast (pc := 278) (lo := 0) (hi := 44) (len := 40) hv77 (ti_rfl v1) (ti_rfl v80) (by rcases hc71 with rfl | rfl <;> rfl) (by omega) (by omega) (fun _ => by rcases hc71 with rfl | rfl <;> rfl) (by omega) (by omega) (by rcases hc71 with rfl | rfl <;> decide) dX6_wireStatement_278 (fun h82 hv82 hv82e => ?_)
          have fx82 : FX KC0 h h82 := FX.pI fx77 hv82e (by unfold KC0; omega)
          have k83 := bd_e k81 (st_I hv82e (ti_rfl v80))
          refine go_iload (pc := 279) rfl dX6_wireStatement_279 ?_
          exact gi_iret (pc := 281) (ti_rfl v1) ⟨_, rfl, (by rw [show (v1 : Int32).toInt = v1.toInt from (ti_rfl v1)]; omega), (by rw [show (v1 : Int32).toInt = v1.toInt from (ti_rfl v1)]; omega), hv82, (k83.symm.trans kf), fx82⟩ hv82 dX6_wireStatement_281
      ·
        have k84 := if_f k48 (fun z => z q49)
        refine go_aload_n (pc := 174) rfl dX6_wireStatement_174 ?_
        refine gi_getC (pc := 175) hv37 fL_X6_15 rfl (Nat.le_of_ble_eq_true rfl) rfl (by decide) dX6_wireStatement_175 (fun c85 hc85 fc85 => ?_)
        have k86 := bd_e k84 (st_c fc85)
        refine gi_getF (pc := 178) (q := c85 + 13) hv37 fL_X6_71 (by rcases hc85 with rfl | rfl <;> rfl) (Nat.le_of_ble_eq_true rfl) rfl (by rcases hc85 with rfl | rfl <;> exact hv37.rf (by decide)) dX6_wireStatement_178 ?_
        refine go_iload (pc := 181) rfl dX6_wireStatement_181 ?_
        refine go_aload_n (pc := 183) rfl dX6_wireStatement_183 ?_
        refine go_aload_n (pc := 184) rfl dX6_wireStatement_184 ?_
        refine gi_getF (pc := 185) (q := 36) hv37 fL_X6_9 rfl (Nat.le_of_ble_eq_true rfl) rfl (hv37.rf (by decide)) dX6_wireStatement_185 ?_
        refine gi_getF (pc := 188) (q := 39) hv37 fL_X6_59 rfl (Nat.le_of_ble_eq_true rfl) rfl (hv37.rf (by decide)) dX6_wireStatement_188 ?_
        refine go_iload_n (pc := 191) rfl dX6_wireStatement_191 ?_
        refine gi_iald (pc := 192) (lo := -1) (hi := 127) (len := 128) hv37 (ti_rfl a2) rfl (by omega) (by omega) (fun _ => rfl) dX6_wireStatement_192 (fun v87 v87l v87u v87w => ?_)
        have k88 := bd_e k86 (congrArg Int32.toInt v87w.symm)
        refine go_iload (pc := 193) rfl dX6_wireStatement_193 ?_
        refine go_iload_n (pc := 195) rfl dX6_wireStatement_195 ?_
        refine go_iload (pc := 196) rfl dX6_wireStatement_196 ?_
        refine go_iconst (pc := 198) (v := 1) (by decide) dX6_wireStatement_198 ?_
        refine gf_iadd (pc := 199) (ti_rfl a5) (ti_c (v := 1) (a := 1) (by decide)) (by omega) (by omega) dX6_wireStatement_199 (fun v89 e90 => ?_)
        refine go_invV (pc := 200) (sl := 0) (s_X6_wireBlock_lv6_f l (d + 0) hv37 v87 (by rw [show (v87 : Int32).toInt = v87.toInt from (ti_rfl v87)]; omega) (by rw [show (v87 : Int32).toInt = v87.toInt from (ti_rfl v87)]; omega) v1 (by rw [show (v1 : Int32).toInt = v1.toInt from (ti_rfl v1)]; omega) (by rw [show (v1 : Int32).toInt = v1.toInt from (ti_rfl v1)]; omega) a4 (by rw [show (a4 : Int32).toInt = a4.toInt from (ti_rfl a4)]; omega) (by rw [show (a4 : Int32).toInt = a4.toInt from (ti_rfl a4)]; omega) v89 (by rw [show (v89 : Int32).toInt = (a5.toInt + 1) from e90]; omega) (by rw [show (v89 : Int32).toInt = (a5.toInt + 1) from e90]; omega)) mL_X6_34 iM_X6_wireBlock sM_X6_wireBlock (hv37.sh rfl) rfl rfl rfl (Nat.le_of_ble_eq_true rfl) (show d + 0 + 3 + 1 ≤ d + 4 by omega) (show 8 + (8 + 11) + 40 * (d + 0 + 3) ≤ 40 * (d + 4) by omega) (g_c0 hv37.ln) (Nat.le_of_ble_eq_true rfl) dX6_wireStatement_200 ?_
        intro r h91 hq _
        obtain ⟨v94, rfl, v94l, v94u, hv91, f92, f93⟩ := hq
        try rw [show (v89 : Int32).toInt = (a5.toInt + 1) from e90] at f92
        try rw [show (v89 : Int32).toInt = (a5.toInt + 1) from e90] at f93
        have fx91 : FX KC0 h h91 := FX.tr fx37 f93
        have k95 := bd2_e k88 f92
        refine gi_iast (pc := 203) (lo := 0) (hi := 44) (len := 40) hv91 (ti_rfl v1) (ti_rfl v94) (by rcases hc85 with rfl | rfl <;> rfl) (by omega) (by omega) (fun _ => by rcases hc85 with rfl | rfl <;> rfl) (by omega) (by omega) (by rcases hc85 with rfl | rfl <;> decide) dX6_wireStatement_203 (fun h96 hv96 hv96e => ?_)
        have fx96 : FX KC0 h h96 := FX.pI fx91 hv96e (by unfold KC0; omega)
        have k97 := bd_e k95 (st_I hv96e (ti_rfl v94))
        refine go_goto (pc := 204) (tgt := 279) (by decide) dX6_wireStatement_204 ?_
        refine go_iload (pc := 279) rfl dX6_wireStatement_279 ?_
        exact gi_iret (pc := 281) (ti_rfl v1) ⟨_, rfl, (by rw [show (v1 : Int32).toInt = v1.toInt from (ti_rfl v1)]; omega), (by rw [show (v1 : Int32).toInt = v1.toInt from (ti_rfl v1)]; omega), hv96, (k97.symm.trans kf), fx96⟩ hv96 dX6_wireStatement_281
    ·
      have k98 := if_f k42 (fun z => z q43)
      refine go_aload_n (pc := 145) rfl dX6_wireStatement_145 ?_
      refine gi_getC (pc := 146) hv37 fL_X6_15 rfl (Nat.le_of_ble_eq_true rfl) rfl (by decide) dX6_wireStatement_146 (fun c99 hc99 fc99 => ?_)
      have k100 := bd_e k98 (st_c fc99)
      refine gi_getF (pc := 149) (q := c99 + 13) hv37 fL_X6_71 (by rcases hc99 with rfl | rfl <;> rfl) (Nat.le_of_ble_eq_true rfl) rfl (by rcases hc99 with rfl | rfl <;> exact hv37.rf (by decide)) dX6_wireStatement_149 ?_
      refine go_iload (pc := 152) rfl dX6_wireStatement_152 ?_
      refine go_iload (pc := 154) rfl dX6_wireStatement_154 ?_
      refine gi_iast (pc := 156) (lo := 0) (hi := 44) (len := 40) hv37 (ti_rfl v1) e8 (by rcases hc99 with rfl | rfl <;> rfl) (by omega) (by omega) (fun _ => by rcases hc99 with rfl | rfl <;> rfl) (by omega) (by omega) (by rcases hc99 with rfl | rfl <;> decide) dX6_wireStatement_156 (fun h101 hv101 hv101e => ?_)
      have fx101 : FX KC0 h h101 := FX.pI fx37 hv101e (by unfold KC0; omega)
      have k102 := bd_e k100 (st_I hv101e e8)
      refine go_goto (pc := 157) (tgt := 279) (by decide) dX6_wireStatement_157 ?_
      refine go_iload (pc := 279) rfl dX6_wireStatement_279 ?_
      exact gi_iret (pc := 281) (ti_rfl v1) ⟨_, rfl, (by rw [show (v1 : Int32).toInt = v1.toInt from (ti_rfl v1)]; omega), (by rw [show (v1 : Int32).toInt = v1.toInt from (ti_rfl v1)]; omega), hv101, (k102.symm.trans kf), fx101⟩ hv101 dX6_wireStatement_281
  ·
    have k103 := if_f k18 (Int.not_le.mpr q19)
    refine go_iload (pc := 61) rfl dX6_wireStatement_61 ?_
    refine go_goto (pc := 63) (tgt := 75) (by decide) dX6_wireStatement_63 ?_
    refine gi_iast (pc := 75) (lo := 0) (hi := 44) (len := 40) hv15 (ti_rfl v1) e8 (by rcases hc17 with rfl | rfl <;> rfl) (by omega) (by omega) (fun _ => by rcases hc17 with rfl | rfl <;> rfl) (by omega) (by omega) (by rcases hc17 with rfl | rfl <;> decide) dX6_wireStatement_75 (fun h104 hv104 hv104e => ?_)
    have fx104 : FX KC0 h h104 := FX.pI fx15 hv104e (by unfold KC0; omega)
    have k105 := bd_e k103 (st_I hv104e e8)
    refine go_aload_n (pc := 76) rfl dX6_wireStatement_76 ?_
    refine gi_getC (pc := 77) hv104 fL_X6_15 rfl (Nat.le_of_ble_eq_true rfl) rfl (by decide) dX6_wireStatement_77 (fun c106 hc106 fc106 => ?_)
    have k107 := bd_e k105 (st_c fc106)
    refine gi_getF (pc := 80) (q := c106 + 14) hv104 fL_X6_74 (by rcases hc106 with rfl | rfl <;> rfl) (Nat.le_of_ble_eq_true rfl) rfl (by rcases hc106 with rfl | rfl <;> exact hv104.rf (by decide)) dX6_wireStatement_80 ?_
    refine go_iload (pc := 83) rfl dX6_wireStatement_83 ?_
    refine go_iload_n (pc := 85) rfl dX6_wireStatement_85 ?_
    refine gf_if_ge (pc := 86) (tgt := 93) (ti_rfl a4) (by decide) dX6_wireStatement_86 (fun q108 => False.elim (by omega)) (fun q108 => ?_)
    refine go_iconst (pc := 89) (v := (-1)) (by decide) dX6_wireStatement_89 ?_
    refine go_goto (pc := 90) (tgt := 102) (by decide) dX6_wireStatement_90 ?_
    refine gi_iast (pc := 102) (lo := -1) (hi := 5) (len := 40) hv104 (ti_rfl v1) (ti_c (v := (-1)) (a := (-1)) (by decide)) (by rcases hc106 with rfl | rfl <;> rfl) (by omega) (by omega) (fun _ => by rcases hc106 with rfl | rfl <;> rfl) (by omega) (by omega) (by rcases hc106 with rfl | rfl <;> decide) dX6_wireStatement_102 (fun h109 hv109 hv109e => ?_)
    have fx109 : FX KC0 h h109 := FX.pI fx104 hv109e (by unfold KC0; omega)
    have k110 := bd_e k107 (st_I hv109e (ti_c (v := (-1)) (a := (-1)) (by decide)))
    refine go_aload_n (pc := 103) rfl dX6_wireStatement_103 ?_
    refine gi_getC (pc := 104) hv109 fL_X6_15 rfl (Nat.le_of_ble_eq_true rfl) rfl (by decide) dX6_wireStatement_104 (fun c111 hc111 fc111 => ?_)
    have k112 := bd_e k110 (st_c fc111)
    refine gi_getF (pc := 107) (q := c111 + 15) hv109 fL_X6_80 (by rcases hc111 with rfl | rfl <;> rfl) (Nat.le_of_ble_eq_true rfl) rfl (by rcases hc111 with rfl | rfl <;> exact hv109.rf (by decide)) dX6_wireStatement_107 ?_
    refine go_iload (pc := 110) rfl dX6_wireStatement_110 ?_
    refine go_iload_n (pc := 112) rfl dX6_wireStatement_112 ?_
    refine gf_if_ge (pc := 113) (tgt := 121) (ti_rfl a4) (by decide) dX6_wireStatement_113 (fun q113 => False.elim (by omega)) (fun q113 => ?_)
    refine go_bipush (pc := 116) (v := (-2)) (by decide) dX6_wireStatement_116 ?_
    refine go_goto (pc := 118) (tgt := 130) (by decide) dX6_wireStatement_118 ?_
    refine gi_iast (pc := 130) (lo := -2) (hi := 44) (len := 40) hv109 (ti_rfl v1) (ti_c (v := (-2)) (a := (-2)) (by decide)) (by rcases hc111 with rfl | rfl <;> rfl) (by omega) (by omega) (fun _ => by rcases hc111 with rfl | rfl <;> rfl) (by omega) (by omega) (by rcases hc111 with rfl | rfl <;> decide) dX6_wireStatement_130 (fun h114 hv114 hv114e => ?_)
    have fx114 : FX KC0 h h114 := FX.pI fx109 hv114e (by unfold KC0; omega)
    have k115 := bd_e k112 (st_I hv114e (ti_c (v := (-2)) (a := (-2)) (by decide)))
    refine go_aload_n (pc := 131) rfl dX6_wireStatement_131 ?_
    refine gi_getC (pc := 132) hv114 fL_X6_15 rfl (Nat.le_of_ble_eq_true rfl) rfl (by decide) dX6_wireStatement_132 (fun c116 hc116 fc116 => ?_)
    have k117 := bd_e k115 (st_c fc116)
    refine gi_getF (pc := 135) (q := c116 + 2) hv114 fL_X6_81 (by rcases hc116 with rfl | rfl <;> rfl) (Nat.le_of_ble_eq_true rfl) rfl (by rcases hc116 with rfl | rfl <;> exact hv114.rf (by decide)) dX6_wireStatement_135 ?_
    refine go_iload (pc := 138) rfl dX6_wireStatement_138 ?_
    refine gi_iald (pc := 140) (lo := 0) (hi := 5) (len := 40) hv114 (ti_rfl v1) (by rcases hc116 with rfl | rfl <;> rfl) (by omega) (by omega) (fun _ => by rcases hc116 with rfl | rfl <;> rfl) dX6_wireStatement_140 (fun v118 v118l v118u v118w => ?_)
    have k119 := bd_e k117 (congrArg Int32.toInt v118w.symm)
    refine go_iconst (pc := 141) (v := 5) (by decide) dX6_wireStatement_141 ?_
    refine gf_icmp_ne (pc := 142) (tgt := 160) (ti_rfl v118) (ti_c (v := 5) (a := 5) (by decide)) (by decide) dX6_wireStatement_142 (fun q120 => ?_) (fun q120 => ?_)
    ·
      have k121 := if_t k119 q120
      refine go_aload_n (pc := 160) rfl dX6_wireStatement_160 ?_
      refine gi_getC (pc := 161) hv114 fL_X6_15 rfl (Nat.le_of_ble_eq_true rfl) rfl (by decide) dX6_wireStatement_161 (fun c122 hc122 fc122 => ?_)
      have k123 := bd_e k121 (st_c fc122)
      refine gi_getF (pc := 164) (q := c122 + 2) hv114 fL_X6_81 (by rcases hc122 with rfl | rfl <;> rfl) (Nat.le_of_ble_eq_true rfl) rfl (by rcases hc122 with rfl | rfl <;> exact hv114.rf (by decide)) dX6_wireStatement_164 ?_
      refine go_iload (pc := 167) rfl dX6_wireStatement_167 ?_
      refine gi_iald (pc := 169) (lo := 0) (hi := 5) (len := 40) hv114 (ti_rfl v1) (by rcases hc122 with rfl | rfl <;> rfl) (by omega) (by omega) (fun _ => by rcases hc122 with rfl | rfl <;> rfl) dX6_wireStatement_169 (fun v124 v124l v124u v124w => ?_)
      have k125 := bd_e k123 (congrArg Int32.toInt v124w.symm)
      refine go_iconst (pc := 170) (v := 3) (by decide) dX6_wireStatement_170 ?_
      refine gf_icmp_ne (pc := 171) (tgt := 207) (ti_rfl v124) (ti_c (v := 3) (a := 3) (by decide)) (by decide) dX6_wireStatement_171 (fun q126 => ?_) (fun q126 => ?_)
      ·
        have k127 := if_t k125 q126
        refine go_aload_n (pc := 207) rfl dX6_wireStatement_207 ?_
        refine gi_getC (pc := 208) hv114 fL_X6_15 rfl (Nat.le_of_ble_eq_true rfl) rfl (by decide) dX6_wireStatement_208 (fun c128 hc128 fc128 => ?_)
        have k129 := bd_e k127 (st_c fc128)
        refine gi_getF (pc := 211) (q := c128 + 2) hv114 fL_X6_81 (by rcases hc128 with rfl | rfl <;> rfl) (Nat.le_of_ble_eq_true rfl) rfl (by rcases hc128 with rfl | rfl <;> exact hv114.rf (by decide)) dX6_wireStatement_211 ?_
        refine go_iload (pc := 214) rfl dX6_wireStatement_214 ?_
        refine gi_iald (pc := 216) (lo := 0) (hi := 5) (len := 40) hv114 (ti_rfl v1) (by rcases hc128 with rfl | rfl <;> rfl) (by omega) (by omega) (fun _ => by rcases hc128 with rfl | rfl <;> rfl) dX6_wireStatement_216 (fun v130 v130l v130u v130w => ?_)
        have k131 := bd_e k129 (congrArg Int32.toInt v130w.symm)
        refine go_iconst (pc := 217) (v := 2) (by decide) dX6_wireStatement_217 ?_
        refine gf_icmp_ne (pc := 218) (tgt := 279) (ti_rfl v130) (ti_c (v := 2) (a := 2) (by decide)) (by decide) dX6_wireStatement_218 (fun q132 => ?_) (fun q132 => ?_)
        ·
          have k133 := if_t k131 q132
          refine go_iload (pc := 279) rfl dX6_wireStatement_279 ?_
          exact gi_iret (pc := 281) (ti_rfl v1) ⟨_, rfl, (by rw [show (v1 : Int32).toInt = v1.toInt from (ti_rfl v1)]; omega), (by rw [show (v1 : Int32).toInt = v1.toInt from (ti_rfl v1)]; omega), hv114, (k133.symm.trans kf), fx114⟩ hv114 dX6_wireStatement_281
        ·
          have k134 := if_f k131 (fun z => z q132)
          refine go_aload_n (pc := 221) rfl dX6_wireStatement_221 ?_
          refine gi_getC (pc := 222) hv114 fL_X6_15 rfl (Nat.le_of_ble_eq_true rfl) rfl (by decide) dX6_wireStatement_222 (fun c135 hc135 fc135 => ?_)
          have k136 := bd_e k134 (st_c fc135)
          refine gi_getF (pc := 225) (q := c135 + 13) hv114 fL_X6_71 (by rcases hc135 with rfl | rfl <;> rfl) (Nat.le_of_ble_eq_true rfl) rfl (by rcases hc135 with rfl | rfl <;> exact hv114.rf (by decide)) dX6_wireStatement_225 ?_
          refine go_iload (pc := 228) rfl dX6_wireStatement_228 ?_
          refine go_aload_n (pc := 230) rfl dX6_wireStatement_230 ?_
          refine go_aload_n (pc := 231) rfl dX6_wireStatement_231 ?_
          refine gi_getF (pc := 232) (q := 36) hv114 fL_X6_9 rfl (Nat.le_of_ble_eq_true rfl) rfl (hv114.rf (by decide)) dX6_wireStatement_232 ?_
          refine gi_getF (pc := 235) (q := 39) hv114 fL_X6_59 rfl (Nat.le_of_ble_eq_true rfl) rfl (hv114.rf (by decide)) dX6_wireStatement_235 ?_
          refine go_iload_n (pc := 238) rfl dX6_wireStatement_238 ?_
          refine gi_iald (pc := 239) (lo := -1) (hi := 127) (len := 128) hv114 (ti_rfl a2) rfl (by omega) (by omega) (fun _ => rfl) dX6_wireStatement_239 (fun v137 v137l v137u v137w => ?_)
          have k138 := bd_e k136 (congrArg Int32.toInt v137w.symm)
          refine go_iload_n (pc := 240) rfl dX6_wireStatement_240 ?_
          refine go_iload_n (pc := 241) rfl dX6_wireStatement_241 ?_
          refine go_iload (pc := 242) rfl dX6_wireStatement_242 ?_
          refine go_iconst (pc := 244) (v := 1) (by decide) dX6_wireStatement_244 ?_
          refine gf_iadd (pc := 245) (ti_rfl a5) (ti_c (v := 1) (a := 1) (by decide)) (by omega) (by omega) dX6_wireStatement_245 (fun v139 e140 => ?_)
          refine go_invV (pc := 246) (sl := 0) (s_X6_wireBlock_lv6_f l (d + 0) hv114 v137 (by rw [show (v137 : Int32).toInt = v137.toInt from (ti_rfl v137)]; omega) (by rw [show (v137 : Int32).toInt = v137.toInt from (ti_rfl v137)]; omega) a3 (by rw [show (a3 : Int32).toInt = a3.toInt from (ti_rfl a3)]; omega) (by rw [show (a3 : Int32).toInt = a3.toInt from (ti_rfl a3)]; omega) a4 (by rw [show (a4 : Int32).toInt = a4.toInt from (ti_rfl a4)]; omega) (by rw [show (a4 : Int32).toInt = a4.toInt from (ti_rfl a4)]; omega) v139 (by rw [show (v139 : Int32).toInt = (a5.toInt + 1) from e140]; omega) (by rw [show (v139 : Int32).toInt = (a5.toInt + 1) from e140]; omega)) mL_X6_34 iM_X6_wireBlock sM_X6_wireBlock (hv114.sh rfl) rfl rfl rfl (Nat.le_of_ble_eq_true rfl) (show d + 0 + 3 + 1 ≤ d + 4 by omega) (show 8 + (8 + 11) + 40 * (d + 0 + 3) ≤ 40 * (d + 4) by omega) (g_c0 hv114.ln) (Nat.le_of_ble_eq_true rfl) dX6_wireStatement_246 ?_
          intro r h141 hq _
          obtain ⟨v144, rfl, v144l, v144u, hv141, f142, f143⟩ := hq
          try rw [show (v139 : Int32).toInt = (a5.toInt + 1) from e140] at f142
          try rw [show (v139 : Int32).toInt = (a5.toInt + 1) from e140] at f143
          have fx141 : FX KC0 h h141 := FX.tr fx114 f143
          have k145 := bd2_e k138 f142
          refine gi_iast (pc := 249) (lo := 0) (hi := 44) (len := 40) hv141 (ti_rfl v1) (ti_rfl v144) (by rcases hc135 with rfl | rfl <;> rfl) (by omega) (by omega) (fun _ => by rcases hc135 with rfl | rfl <;> rfl) (by omega) (by omega) (by rcases hc135 with rfl | rfl <;> decide) dX6_wireStatement_249 (fun h146 hv146 hv146e => ?_)
          have fx146 : FX KC0 h h146 := FX.pI fx141 hv146e (by unfold KC0; omega)
          have k147 := bd_e k145 (st_I hv146e (ti_rfl v144))
          refine go_aload_n (pc := 250) rfl dX6_wireStatement_250 ?_
          refine gi_getC (pc := 251) hv146 fL_X6_15 rfl (Nat.le_of_ble_eq_true rfl) rfl (by decide) dX6_wireStatement_251 (fun c148 hc148 fc148 => ?_)
          have k149 := bd_e k147 (st_c fc148)
          refine gi_getF (pc := 254) (q := c148 + 12) hv146 fL_X6_68 (by rcases hc148 with rfl | rfl <;> rfl) (Nat.le_of_ble_eq_true rfl) rfl (by rcases hc148 with rfl | rfl <;> exact hv146.rf (by decide)) dX6_wireStatement_254 ?_
          refine go_iload (pc := 257) rfl dX6_wireStatement_257 ?_
          refine go_aload_n (pc := 259) rfl dX6_wireStatement_259 ?_
          refine go_aload_n (pc := 260) rfl dX6_wireStatement_260 ?_
          refine gi_getF (pc := 261) (q := 36) hv146 fL_X6_9 rfl (Nat.le_of_ble_eq_true rfl) rfl (hv146.rf (by decide)) dX6_wireStatement_261 ?_
          refine gi_getF (pc := 264) (q := 40) hv146 fL_X6_50 rfl (Nat.le_of_ble_eq_true rfl) rfl (hv146.rf (by decide)) dX6_wireStatement_264 ?_
          refine go_iload_n (pc := 267) rfl dX6_wireStatement_267 ?_
          refine gi_iald (pc := 268) (lo := -1) (hi := 127) (len := 128) hv146 (ti_rfl a2) rfl (by omega) (by omega) (fun _ => rfl) dX6_wireStatement_268 (fun v150 v150l v150u v150w => ?_)
          have k151 := bd_e k149 (congrArg Int32.toInt v150w.symm)
          refine go_iload_n (pc := 269) rfl dX6_wireStatement_269 ?_
          refine go_iload_n (pc := 270) rfl dX6_wireStatement_270 ?_
          refine go_iload (pc := 271) rfl dX6_wireStatement_271 ?_
          refine go_iconst (pc := 273) (v := 1) (by decide) dX6_wireStatement_273 ?_
          refine gf_iadd (pc := 274) (ti_rfl a5) (ti_c (v := 1) (a := 1) (by decide)) (by omega) (by omega) dX6_wireStatement_274 (fun v152 e153 => ?_)
          refine go_invV (pc := 275) (sl := 0) (s_X6_wireBlock_lv6_f l (d + 0) hv146 v150 (by rw [show (v150 : Int32).toInt = v150.toInt from (ti_rfl v150)]; omega) (by rw [show (v150 : Int32).toInt = v150.toInt from (ti_rfl v150)]; omega) a3 (by rw [show (a3 : Int32).toInt = a3.toInt from (ti_rfl a3)]; omega) (by rw [show (a3 : Int32).toInt = a3.toInt from (ti_rfl a3)]; omega) a4 (by rw [show (a4 : Int32).toInt = a4.toInt from (ti_rfl a4)]; omega) (by rw [show (a4 : Int32).toInt = a4.toInt from (ti_rfl a4)]; omega) v152 (by rw [show (v152 : Int32).toInt = (a5.toInt + 1) from e153]; omega) (by rw [show (v152 : Int32).toInt = (a5.toInt + 1) from e153]; omega)) mL_X6_34 iM_X6_wireBlock sM_X6_wireBlock (hv146.sh rfl) rfl rfl rfl (Nat.le_of_ble_eq_true rfl) (show d + 0 + 3 + 1 ≤ d + 4 by omega) (show 8 + (8 + 11) + 40 * (d + 0 + 3) ≤ 40 * (d + 4) by omega) (g_c0 hv146.ln) (Nat.le_of_ble_eq_true rfl) dX6_wireStatement_275 ?_
          intro r h154 hq _
          obtain ⟨v157, rfl, v157l, v157u, hv154, f155, f156⟩ := hq
          try rw [show (v152 : Int32).toInt = (a5.toInt + 1) from e153] at f155
          try rw [show (v152 : Int32).toInt = (a5.toInt + 1) from e153] at f156
          have fx154 : FX KC0 h h154 := FX.tr fx146 f156
          have k158 := bd2_e k151 f155
          refine gi_iast (pc := 278) (lo := 0) (hi := 44) (len := 40) hv154 (ti_rfl v1) (ti_rfl v157) (by rcases hc148 with rfl | rfl <;> rfl) (by omega) (by omega) (fun _ => by rcases hc148 with rfl | rfl <;> rfl) (by omega) (by omega) (by rcases hc148 with rfl | rfl <;> decide) dX6_wireStatement_278 (fun h159 hv159 hv159e => ?_)
          have fx159 : FX KC0 h h159 := FX.pI fx154 hv159e (by unfold KC0; omega)
          have k160 := bd_e k158 (st_I hv159e (ti_rfl v157))
          refine go_iload (pc := 279) rfl dX6_wireStatement_279 ?_
          exact gi_iret (pc := 281) (ti_rfl v1) ⟨_, rfl, (by rw [show (v1 : Int32).toInt = v1.toInt from (ti_rfl v1)]; omega), (by rw [show (v1 : Int32).toInt = v1.toInt from (ti_rfl v1)]; omega), hv159, (k160.symm.trans kf), fx159⟩ hv159 dX6_wireStatement_281
      ·
        have k161 := if_f k125 (fun z => z q126)
        refine go_aload_n (pc := 174) rfl dX6_wireStatement_174 ?_
        refine gi_getC (pc := 175) hv114 fL_X6_15 rfl (Nat.le_of_ble_eq_true rfl) rfl (by decide) dX6_wireStatement_175 (fun c162 hc162 fc162 => ?_)
        have k163 := bd_e k161 (st_c fc162)
        refine gi_getF (pc := 178) (q := c162 + 13) hv114 fL_X6_71 (by rcases hc162 with rfl | rfl <;> rfl) (Nat.le_of_ble_eq_true rfl) rfl (by rcases hc162 with rfl | rfl <;> exact hv114.rf (by decide)) dX6_wireStatement_178 ?_
        refine go_iload (pc := 181) rfl dX6_wireStatement_181 ?_
        refine go_aload_n (pc := 183) rfl dX6_wireStatement_183 ?_
        refine go_aload_n (pc := 184) rfl dX6_wireStatement_184 ?_
        refine gi_getF (pc := 185) (q := 36) hv114 fL_X6_9 rfl (Nat.le_of_ble_eq_true rfl) rfl (hv114.rf (by decide)) dX6_wireStatement_185 ?_
        refine gi_getF (pc := 188) (q := 39) hv114 fL_X6_59 rfl (Nat.le_of_ble_eq_true rfl) rfl (hv114.rf (by decide)) dX6_wireStatement_188 ?_
        refine go_iload_n (pc := 191) rfl dX6_wireStatement_191 ?_
        refine gi_iald (pc := 192) (lo := -1) (hi := 127) (len := 128) hv114 (ti_rfl a2) rfl (by omega) (by omega) (fun _ => rfl) dX6_wireStatement_192 (fun v164 v164l v164u v164w => ?_)
        have k165 := bd_e k163 (congrArg Int32.toInt v164w.symm)
        refine go_iload (pc := 193) rfl dX6_wireStatement_193 ?_
        refine go_iload_n (pc := 195) rfl dX6_wireStatement_195 ?_
        refine go_iload (pc := 196) rfl dX6_wireStatement_196 ?_
        refine go_iconst (pc := 198) (v := 1) (by decide) dX6_wireStatement_198 ?_
        refine gf_iadd (pc := 199) (ti_rfl a5) (ti_c (v := 1) (a := 1) (by decide)) (by omega) (by omega) dX6_wireStatement_199 (fun v166 e167 => ?_)
        refine go_invV (pc := 200) (sl := 0) (s_X6_wireBlock_lv6_f l (d + 0) hv114 v164 (by rw [show (v164 : Int32).toInt = v164.toInt from (ti_rfl v164)]; omega) (by rw [show (v164 : Int32).toInt = v164.toInt from (ti_rfl v164)]; omega) v1 (by rw [show (v1 : Int32).toInt = v1.toInt from (ti_rfl v1)]; omega) (by rw [show (v1 : Int32).toInt = v1.toInt from (ti_rfl v1)]; omega) a4 (by rw [show (a4 : Int32).toInt = a4.toInt from (ti_rfl a4)]; omega) (by rw [show (a4 : Int32).toInt = a4.toInt from (ti_rfl a4)]; omega) v166 (by rw [show (v166 : Int32).toInt = (a5.toInt + 1) from e167]; omega) (by rw [show (v166 : Int32).toInt = (a5.toInt + 1) from e167]; omega)) mL_X6_34 iM_X6_wireBlock sM_X6_wireBlock (hv114.sh rfl) rfl rfl rfl (Nat.le_of_ble_eq_true rfl) (show d + 0 + 3 + 1 ≤ d + 4 by omega) (show 8 + (8 + 11) + 40 * (d + 0 + 3) ≤ 40 * (d + 4) by omega) (g_c0 hv114.ln) (Nat.le_of_ble_eq_true rfl) dX6_wireStatement_200 ?_
        intro r h168 hq _
        obtain ⟨v171, rfl, v171l, v171u, hv168, f169, f170⟩ := hq
        try rw [show (v166 : Int32).toInt = (a5.toInt + 1) from e167] at f169
        try rw [show (v166 : Int32).toInt = (a5.toInt + 1) from e167] at f170
        have fx168 : FX KC0 h h168 := FX.tr fx114 f170
        have k172 := bd2_e k165 f169
        refine gi_iast (pc := 203) (lo := 0) (hi := 44) (len := 40) hv168 (ti_rfl v1) (ti_rfl v171) (by rcases hc162 with rfl | rfl <;> rfl) (by omega) (by omega) (fun _ => by rcases hc162 with rfl | rfl <;> rfl) (by omega) (by omega) (by rcases hc162 with rfl | rfl <;> decide) dX6_wireStatement_203 (fun h173 hv173 hv173e => ?_)
        have fx173 : FX KC0 h h173 := FX.pI fx168 hv173e (by unfold KC0; omega)
        have k174 := bd_e k172 (st_I hv173e (ti_rfl v171))
        refine go_goto (pc := 204) (tgt := 279) (by decide) dX6_wireStatement_204 ?_
        refine go_iload (pc := 279) rfl dX6_wireStatement_279 ?_
        exact gi_iret (pc := 281) (ti_rfl v1) ⟨_, rfl, (by rw [show (v1 : Int32).toInt = v1.toInt from (ti_rfl v1)]; omega), (by rw [show (v1 : Int32).toInt = v1.toInt from (ti_rfl v1)]; omega), hv173, (k174.symm.trans kf), fx173⟩ hv173 dX6_wireStatement_281
    ·
      have k175 := if_f k119 (fun z => z q120)
      refine go_aload_n (pc := 145) rfl dX6_wireStatement_145 ?_
      refine gi_getC (pc := 146) hv114 fL_X6_15 rfl (Nat.le_of_ble_eq_true rfl) rfl (by decide) dX6_wireStatement_146 (fun c176 hc176 fc176 => ?_)
      have k177 := bd_e k175 (st_c fc176)
      refine gi_getF (pc := 149) (q := c176 + 13) hv114 fL_X6_71 (by rcases hc176 with rfl | rfl <;> rfl) (Nat.le_of_ble_eq_true rfl) rfl (by rcases hc176 with rfl | rfl <;> exact hv114.rf (by decide)) dX6_wireStatement_149 ?_
      refine go_iload (pc := 152) rfl dX6_wireStatement_152 ?_
      refine go_iload (pc := 154) rfl dX6_wireStatement_154 ?_
      refine gi_iast (pc := 156) (lo := 0) (hi := 44) (len := 40) hv114 (ti_rfl v1) e8 (by rcases hc176 with rfl | rfl <;> rfl) (by omega) (by omega) (fun _ => by rcases hc176 with rfl | rfl <;> rfl) (by omega) (by omega) (by rcases hc176 with rfl | rfl <;> decide) dX6_wireStatement_156 (fun h178 hv178 hv178e => ?_)
      have fx178 : FX KC0 h h178 := FX.pI fx114 hv178e (by unfold KC0; omega)
      have k179 := bd_e k177 (st_I hv178e e8)
      refine go_goto (pc := 157) (tgt := 279) (by decide) dX6_wireStatement_157 ?_
      refine go_iload (pc := 279) rfl dX6_wireStatement_279 ?_
      exact gi_iret (pc := 281) (ti_rfl v1) ⟨_, rfl, (by rw [show (v1 : Int32).toInt = v1.toInt from (ti_rfl v1)]; omega), (by rw [show (v1 : Int32).toInt = v1.toInt from (ti_rfl v1)]; omega), hv178, (k179.symm.trans kf), fx178⟩ hv178 dX6_wireStatement_281
def f_X6_wireBlock_lv5_ : Nat → Nat → Int → Int → Int → Int → Int → ST → ST × Int
  | 0, _, _, _, _, _, _, sx => (sx, 0)
  | n + 1, _, l3, l4, l5, l6, l7, sx => if 128 ≤ l7 then ((sx, l5)) else (if l6 < 0 then ((sx, l5)) else (bd (sx.1 37 (l6).toNat) fun v7 => if ¬ v7 = (-1) then (bd2 (f_X6_wireStatement_lv5 sx l6 l5 l3 l4) fun s11 v14 => bd (s11.1 38 (l6).toNat) fun v16 => f_X6_wireBlock_lv5_ n 20 l3 l4 v14 v16 ((l7 + 1)) s11) else (bd2 (f_X6_wireTry_lv5 sx l6 l5 l3 l4) fun s22 v25 => bd (s22.1 38 (l6).toNat) fun v27 => f_X6_wireBlock_lv5_ n 20 l3 l4 v25 v27 ((l7 + 1)) s22)))
def f_X6_wireBlock_lv5 (s : ST) (a2 : Int) (a3 : Int) (a4 : Int) (a5 : Int) : ST × Int :=
  f_X6_wireBlock_lv5_ 403 20 a4 a5 a3 a2 0 s
set_option maxHeartbeats 4000000 in
set_option maxRecDepth 100000 in
theorem s_X6_wireBlock_lv5_f (l : Launch) (d : Nat) {P : PP} {h : HP} (hv : Iv P h) (a2 : Int32) (a2l : -1 ≤ a2.toInt) (a2u : a2.toInt ≤ 127) (a3 : Int32) (a3l : 0 ≤ a3.toInt) (a3u : a3.toInt ≤ 44) (a4 : Int32) (a4l : -1 ≤ a4.toInt) (a4u : a4.toInt ≤ 127) (a5 : Int32) (a5l : 5 ≤ a5.toInt) (a5u : a5.toInt ≤ 5) : Mt l yX6_wireBlock cX6_wireBlock 8 (some .int) (d + 5) [.ref 48, .int a2, .int a3, .int a4, .int a5] h 0 0 (fun r h' => ∃ v : Int32, r = some (.int v) ∧ 0 ≤ v.toInt ∧ v.toInt ≤ 44 ∧ Iv P h' ∧ ((st h', v.toInt) = f_X6_wireBlock_lv5 (st h) a2.toInt a3.toInt a4.toInt a5.toInt) ∧ (FX KC0 h h')) := by
  refine Mt_iv hv (by decide) (Nat.le_of_ble_eq_true rfl) ?_
  show Go l RX6 cX6_wireBlock 8 (g_rm (d + 5) 0 0) "wireBlock" (some .int) 117 0 0 (fun _ _ => True) (fun r h' => ∃ v : Int32, r = some (.int v) ∧ 0 ≤ v.toInt ∧ v.toInt ≤ 44 ∧ Iv P h' ∧ ((st h', v.toInt) = f_X6_wireBlock_lv5 (st h) a2.toInt a3.toInt a4.toInt a5.toInt) ∧ (FX KC0 h h')) 0 0 [(0, .ref 48), (1, .int a2), (2, .int a3), (3, .int a4), (4, .int a5)] [] h
  have fx : FX KC0 h h := FX.rfl
  obtain ⟨fin, kf⟩ : ∃ z, z = f_X6_wireBlock_lv5 (st h) a2.toInt a3.toInt a4.toInt a5.toInt := ⟨_, _root_.rfl⟩
  have k0 := kf
  unfold f_X6_wireBlock_lv5 at k0
  have key : ∀ n : Nat, (∀ (l3 : Int32) (l4 : Int32) (l5 : Int32) (l6 : Int32) (l7 : Int32) (hx : HP), Iv P hx → -1 ≤ l3.toInt → l3.toInt ≤ 127 → 5 ≤ l4.toInt → l4.toInt ≤ 5 → 0 ≤ l5.toInt → l5.toInt ≤ 44 → -1 ≤ l6.toInt → l6.toInt ≤ 127 → 0 ≤ l7.toInt → l7.toInt ≤ 128 → FX KC0 h hx → fin = f_X6_wireBlock_lv5_ n 20 l3.toInt l4.toInt l5.toInt l6.toInt l7.toInt (st hx) → (3 * (128 - l7.toInt) + 2 : Int) < n → Go l RX6 cX6_wireBlock 8 (g_rm (d + 5) 0 0) "wireBlock" (some .int) 117 0 0 (fun _ _ => True) (fun r h' => ∃ v : Int32, r = some (.int v) ∧ 0 ≤ v.toInt ∧ v.toInt ≤ 44 ∧ Iv P h' ∧ ((st h', v.toInt) = f_X6_wireBlock_lv5 (st h) a2.toInt a3.toInt a4.toInt a5.toInt) ∧ (FX KC0 h h')) 0 20 [(0, .ref 48), (3, .int l3), (4, .int l4), (5, .int l5), (6, .int l6), (7, .int l7)] [] hx) := by
    intro n
    induction n with
    | zero => exact (by intros; omega)
    | succ n ih =>
      refine ?_
      ·
        intro l3 l4 l5 l6 l7 hx hvx l3l l3u l4l l4u l5l l5u l6l l6u l7l l7u fxx kL hm
        rw [f_X6_wireBlock_lv5_] at kL
        refine go_iload (pc := 20) rfl dX6_wireBlock_20 ?_
        refine go_sipush (pc := 22) (v := 128) (by decide) dX6_wireBlock_22 ?_
        refine gf_icmp_ge (pc := 25) (tgt := 94) (ti_rfl l7) (ti_c (v := 128) (a := 128) (by decide)) (by decide) dX6_wireBlock_25 (fun q1 => ?_) (fun q1 => ?_)
        ·
          have k2 := if_t kL q1
          refine go_iload (pc := 94) rfl dX6_wireBlock_94 ?_
          exact gi_iret (pc := 96) (ti_rfl l5) ⟨_, rfl, (by rw [show (l5 : Int32).toInt = l5.toInt from (ti_rfl l5)]; omega), (by rw [show (l5 : Int32).toInt = l5.toInt from (ti_rfl l5)]; omega), hvx, (k2.symm.trans kf), fxx⟩ hvx dX6_wireBlock_96
        ·
          have k3 := if_f kL (Int.not_le.mpr q1)
          refine go_iload (pc := 28) rfl dX6_wireBlock_28 ?_
          refine gf_if_lt (pc := 30) (tgt := 94) (ti_rfl l6) (by decide) dX6_wireBlock_30 (fun q4 => ?_) (fun q4 => ?_)
          ·
            have k5 := if_t k3 q4
            refine go_iload (pc := 94) rfl dX6_wireBlock_94 ?_
            exact gi_iret (pc := 96) (ti_rfl l5) ⟨_, rfl, (by rw [show (l5 : Int32).toInt = l5.toInt from (ti_rfl l5)]; omega), (by rw [show (l5 : Int32).toInt = l5.toInt from (ti_rfl l5)]; omega), hvx, (k5.symm.trans kf), fxx⟩ hvx dX6_wireBlock_96
          ·
            have k6 := if_f k3 (Int.not_lt.mpr q4)
            refine go_aload_n (pc := 33) rfl dX6_wireBlock_33 ?_
            refine gi_getF (pc := 34) (q := 36) hvx fL_X6_9 rfl (Nat.le_of_ble_eq_true rfl) rfl (hvx.rf (by decide)) dX6_wireBlock_34 ?_
            refine gi_getF (pc := 37) (q := 37) hvx fL_X6_38 rfl (Nat.le_of_ble_eq_true rfl) rfl (hvx.rf (by decide)) dX6_wireBlock_37 ?_
            refine go_iload (pc := 40) rfl dX6_wireBlock_40 ?_
            refine gi_iald (pc := 42) (lo := -1) (hi := 39) (len := 128) hvx (ti_rfl l6) rfl (by omega) (by omega) (fun _ => rfl) dX6_wireBlock_42 (fun v7 v7l v7u v7w => ?_)
            have k8 := bd_e k6 (congrArg Int32.toInt v7w.symm)
            refine go_iconst (pc := 43) (v := (-1)) (by decide) dX6_wireBlock_43 ?_
            refine gf_icmp_ne (pc := 44) (tgt := 63) (ti_rfl v7) (ti_c (v := (-1)) (a := (-1)) (by decide)) (by decide) dX6_wireBlock_44 (fun q9 => ?_) (fun q9 => ?_)
            ·
              have k10 := if_t k8 q9
              refine go_aload_n (pc := 63) rfl dX6_wireBlock_63 ?_
              refine go_iload (pc := 64) rfl dX6_wireBlock_64 ?_
              refine go_iload (pc := 66) rfl dX6_wireBlock_66 ?_
              refine go_iload_n (pc := 68) rfl dX6_wireBlock_68 ?_
              refine go_iload (pc := 69) rfl dX6_wireBlock_69 ?_
              refine go_invV (pc := 71) (sl := 0) (s_X6_wireStatement_lv5_f l (d + 0) hvx l6 (by rw [show (l6 : Int32).toInt = l6.toInt from (ti_rfl l6)]; omega) (by rw [show (l6 : Int32).toInt = l6.toInt from (ti_rfl l6)]; omega) l5 (by rw [show (l5 : Int32).toInt = l5.toInt from (ti_rfl l5)]; omega) (by rw [show (l5 : Int32).toInt = l5.toInt from (ti_rfl l5)]; omega) l3 (by rw [show (l3 : Int32).toInt = l3.toInt from (ti_rfl l3)]; omega) (by rw [show (l3 : Int32).toInt = l3.toInt from (ti_rfl l3)]; omega) l4 (by rw [show (l4 : Int32).toInt = l4.toInt from (ti_rfl l4)]; omega) (by rw [show (l4 : Int32).toInt = l4.toInt from (ti_rfl l4)]; omega) (by rw [← v7w]; omega)) mL_X6_44 iM_X6_wireStatement sM_X6_wireStatement (hvx.sh rfl) rfl rfl rfl (Nat.le_of_ble_eq_true rfl) (show d + 0 + 4 + 1 ≤ d + 5 by omega) (show 8 + (7 + 11) + 40 * (d + 0 + 4) ≤ 40 * (d + 5) by omega) (g_c0 hvx.ln) (Nat.le_of_ble_eq_true rfl) dX6_wireBlock_71 ?_
              intro r h11 hq _
              obtain ⟨v14, rfl, v14l, v14u, hv11, f12, f13⟩ := hq
              have fx11 : FX KC0 h h11 := FX.tr fxx f13
              have k15 := bd2_e k10 f12
              refine go_istore (pc := 74) (Nat.le_of_ble_eq_true rfl) dX6_wireBlock_74 (go_lv (lv2 := [(0, .ref 48), (3, .int l3), (4, .int l4), (5, .int v14), (6, .int l6), (7, .int l7)]) rfl ?_)
              refine go_aload_n (pc := 76) rfl dX6_wireBlock_76 ?_
              refine gi_getF (pc := 77) (q := 36) hv11 fL_X6_9 rfl (Nat.le_of_ble_eq_true rfl) rfl (hv11.rf (by decide)) dX6_wireBlock_77 ?_
              refine gi_getF (pc := 80) (q := 38) hv11 fL_X6_47 rfl (Nat.le_of_ble_eq_true rfl) rfl (hv11.rf (by decide)) dX6_wireBlock_80 ?_
              refine go_iload (pc := 83) rfl dX6_wireBlock_83 ?_
              refine gi_iald (pc := 85) (lo := -1) (hi := 127) (len := 128) hv11 (ti_rfl l6) rfl (by omega) (by omega) (fun _ => rfl) dX6_wireBlock_85 (fun v16 v16l v16u v16w => ?_)
              have k17 := bd_e k15 (congrArg Int32.toInt v16w.symm)
              refine go_istore (pc := 86) (Nat.le_of_ble_eq_true rfl) dX6_wireBlock_86 (go_lv (lv2 := [(0, .ref 48), (3, .int l3), (4, .int l4), (5, .int v14), (6, .int v16), (7, .int l7)]) rfl ?_)
              refine gf_iinc (pc := 88) (Nat.le_of_ble_eq_true rfl) rfl (ti_rfl l7) (ti_c (by decide)) (by omega) (by omega) dX6_wireBlock_88 (fun v18 e19 => ?_)
              refine go_lv (lv2 := [(0, .ref 48), (3, .int l3), (4, .int l4), (5, .int v14), (6, .int v16), (7, .int v18)]) rfl ?_
              refine go_goto (pc := 91) (tgt := 20) (by decide) dX6_wireBlock_91 ?_
              have z20 : (v18 : Int32).toInt = (l7.toInt + 1) := e19
              exact go_lv rfl (ih l3 l4 v14 v16 v18 h11 hv11 (by omega) (by omega) (by omega) (by omega) (by omega) (by omega) (by omega) (by omega) (by omega) (by omega) fx11 (by rw [show (v18 : Int32).toInt = (l7.toInt + 1) from e19]; exact k17) (by omega))
            ·
              have k21 := if_f k8 (fun z => z q9)
              refine go_aload_n (pc := 47) rfl dX6_wireBlock_47 ?_
              refine go_iload (pc := 48) rfl dX6_wireBlock_48 ?_
              refine go_iload (pc := 50) rfl dX6_wireBlock_50 ?_
              refine go_iload_n (pc := 52) rfl dX6_wireBlock_52 ?_
              refine go_iload (pc := 53) rfl dX6_wireBlock_53 ?_
              refine go_invV (pc := 55) (sl := 0) (s_X6_wireTry_lv5_f l (d + 0) hvx l6 (by rw [show (l6 : Int32).toInt = l6.toInt from (ti_rfl l6)]; omega) (by rw [show (l6 : Int32).toInt = l6.toInt from (ti_rfl l6)]; omega) l5 (by rw [show (l5 : Int32).toInt = l5.toInt from (ti_rfl l5)]; omega) (by rw [show (l5 : Int32).toInt = l5.toInt from (ti_rfl l5)]; omega) l3 (by rw [show (l3 : Int32).toInt = l3.toInt from (ti_rfl l3)]; omega) (by rw [show (l3 : Int32).toInt = l3.toInt from (ti_rfl l3)]; omega) l4 (by rw [show (l4 : Int32).toInt = l4.toInt from (ti_rfl l4)]; omega) (by rw [show (l4 : Int32).toInt = l4.toInt from (ti_rfl l4)]; omega)) mL_X6_41 iM_X6_wireTry sM_X6_wireTry (hvx.sh rfl) rfl rfl rfl (Nat.le_of_ble_eq_true rfl) (show d + 0 + 4 + 1 ≤ d + 5 by omega) (show 8 + (6 + 11) + 40 * (d + 0 + 4) ≤ 40 * (d + 5) by omega) (g_c0 hvx.ln) (Nat.le_of_ble_eq_true rfl) dX6_wireBlock_55 ?_
              intro r h22 hq _
              obtain ⟨v25, rfl, v25l, v25u, hv22, f23, f24⟩ := hq
              have fx22 : FX KC0 h h22 := FX.tr fxx f24
              have k26 := bd2_e k21 f23
              refine go_istore (pc := 58) (Nat.le_of_ble_eq_true rfl) dX6_wireBlock_58 (go_lv (lv2 := [(0, .ref 48), (3, .int l3), (4, .int l4), (5, .int v25), (6, .int l6), (7, .int l7)]) rfl ?_)
              refine go_goto (pc := 60) (tgt := 76) (by decide) dX6_wireBlock_60 ?_
              refine go_aload_n (pc := 76) rfl dX6_wireBlock_76 ?_
              refine gi_getF (pc := 77) (q := 36) hv22 fL_X6_9 rfl (Nat.le_of_ble_eq_true rfl) rfl (hv22.rf (by decide)) dX6_wireBlock_77 ?_
              refine gi_getF (pc := 80) (q := 38) hv22 fL_X6_47 rfl (Nat.le_of_ble_eq_true rfl) rfl (hv22.rf (by decide)) dX6_wireBlock_80 ?_
              refine go_iload (pc := 83) rfl dX6_wireBlock_83 ?_
              refine gi_iald (pc := 85) (lo := -1) (hi := 127) (len := 128) hv22 (ti_rfl l6) rfl (by omega) (by omega) (fun _ => rfl) dX6_wireBlock_85 (fun v27 v27l v27u v27w => ?_)
              have k28 := bd_e k26 (congrArg Int32.toInt v27w.symm)
              refine go_istore (pc := 86) (Nat.le_of_ble_eq_true rfl) dX6_wireBlock_86 (go_lv (lv2 := [(0, .ref 48), (3, .int l3), (4, .int l4), (5, .int v25), (6, .int v27), (7, .int l7)]) rfl ?_)
              refine gf_iinc (pc := 88) (Nat.le_of_ble_eq_true rfl) rfl (ti_rfl l7) (ti_c (by decide)) (by omega) (by omega) dX6_wireBlock_88 (fun v29 e30 => ?_)
              refine go_lv (lv2 := [(0, .ref 48), (3, .int l3), (4, .int l4), (5, .int v25), (6, .int v27), (7, .int v29)]) rfl ?_
              refine go_goto (pc := 91) (tgt := 20) (by decide) dX6_wireBlock_91 ?_
              have z31 : (v29 : Int32).toInt = (l7.toInt + 1) := e30
              exact go_lv rfl (ih l3 l4 v25 v27 v29 h22 hv22 (by omega) (by omega) (by omega) (by omega) (by omega) (by omega) (by omega) (by omega) (by omega) (by omega) fx22 (by rw [show (v29 : Int32).toInt = (l7.toInt + 1) from e30]; exact k28) (by omega))
  refine go_iload_n (pc := 0) rfl dX6_wireBlock_0 ?_
  refine go_istore (pc := 1) (Nat.le_of_ble_eq_true rfl) dX6_wireBlock_1 (go_lv (lv2 := [(0, .ref 48), (1, .int a2), (2, .int a3), (3, .int a4), (4, .int a5), (5, .int a3)]) rfl ?_)
  refine go_iload (pc := 3) rfl dX6_wireBlock_3 ?_
  refine go_bipush (pc := 5) (v := 6) (by decide) dX6_wireBlock_5 ?_
  refine gf_icmp_le (pc := 7) (tgt := 14) (ti_rfl a5) (ti_c (v := 6) (a := 6) (by decide)) (by decide) dX6_wireBlock_7 (fun q32 => ?_) (fun q32 => False.elim (by omega))
  refine go_iload_n (pc := 14) rfl dX6_wireBlock_14 ?_
  refine go_istore (pc := 15) (Nat.le_of_ble_eq_true rfl) dX6_wireBlock_15 (go_lv (lv2 := [(0, .ref 48), (1, .int a2), (2, .int a3), (3, .int a4), (4, .int a5), (5, .int a3), (6, .int a2)]) rfl ?_)
  refine go_iconst (pc := 17) (v := 0) (by decide) dX6_wireBlock_17 ?_
  refine go_istore (pc := 18) (Nat.le_of_ble_eq_true rfl) dX6_wireBlock_18 (go_lv (lv2 := [(0, .ref 48), (1, .int a2), (2, .int a3), (3, .int a4), (4, .int a5), (5, .int a3), (6, .int a2), (7, .int 0)]) rfl ?_)
  have z33 : (0 : Int32).toInt = 0 := (ti_c (v := 0) (a := 0) (by decide))
  exact go_lv rfl ((key 403) a4 a5 a3 a2 0 h hv (by omega) (by omega) (by omega) (by omega) (by omega) (by omega) (by omega) (by omega) (by omega) (by omega) fx (by rw [show (0 : Int32).toInt = 0 from (ti_c (v := 0) (a := 0) (by decide))]; exact k0) (by omega))
def f_X6_wireTry_lv4 (s : ST) (a2 : Int) (a3 : Int) (a4 : Int) (a5 : Int) : ST × Int :=
  bd (s.1 40 (a2).toNat) fun v1 => bd2 (f_X6_wireBlock_lv5 s v1 a3 a4 ((a5 + 1))) fun s5 v8 => bd (sI s5 42 (a2).toNat v8) fun s10 => if ¬ v8 = a3 then (bd (sI s10 43 (a2).toNat v8) fun s14 => bd (s14.1 39 (a2).toNat) fun v16 => bd2 (f_X6_wireBlock_lv5 s14 v16 a3 a2 ((a5 + 1))) fun s20 v23 => (s20, v23)) else (bd (sI s10 43 (a2).toNat (-2)) fun s26 => bd (s26.1 39 (a2).toNat) fun v28 => bd2 (f_X6_wireBlock_lv5 s26 v28 a3 a2 ((a5 + 1))) fun s32 v35 => (s32, v35))
set_option maxHeartbeats 4000000 in
set_option maxRecDepth 100000 in
theorem s_X6_wireTry_lv4_f (l : Launch) (d : Nat) {P : PP} {h : HP} (hv : Iv P h) (a2 : Int32) (a2l : 0 ≤ a2.toInt) (a2u : a2.toInt ≤ 127) (a3 : Int32) (a3l : 0 ≤ a3.toInt) (a3u : a3.toInt ≤ 44) (a4 : Int32) (a4l : -1 ≤ a4.toInt) (a4u : a4.toInt ≤ 127) (a5 : Int32) (a5l : 4 ≤ a5.toInt) (a5u : a5.toInt ≤ 4) : Mt l yX6_wireTry cX6_wireTry 6 (some .int) (d + 6) [.ref 48, .int a2, .int a3, .int a4, .int a5] h 0 0 (fun r h' => ∃ v : Int32, r = some (.int v) ∧ 0 ≤ v.toInt ∧ v.toInt ≤ 44 ∧ Iv P h' ∧ ((st h', v.toInt) = f_X6_wireTry_lv4 (st h) a2.toInt a3.toInt a4.toInt a5.toInt) ∧ (FX KC0 h h')) := by
  refine Mt_iv hv (by decide) (Nat.le_of_ble_eq_true rfl) ?_
  show Go l RX6 cX6_wireTry 6 (g_rm (d + 6) 0 0) "wireTry" (some .int) 117 0 0 (fun _ _ => True) (fun r h' => ∃ v : Int32, r = some (.int v) ∧ 0 ≤ v.toInt ∧ v.toInt ≤ 44 ∧ Iv P h' ∧ ((st h', v.toInt) = f_X6_wireTry_lv4 (st h) a2.toInt a3.toInt a4.toInt a5.toInt) ∧ (FX KC0 h h')) 0 0 [(0, .ref 48), (1, .int a2), (2, .int a3), (3, .int a4), (4, .int a5)] [] h
  have fx : FX KC0 h h := FX.rfl
  obtain ⟨fin, kf⟩ : ∃ z, z = f_X6_wireTry_lv4 (st h) a2.toInt a3.toInt a4.toInt a5.toInt := ⟨_, _root_.rfl⟩
  have k0 := kf
  unfold f_X6_wireTry_lv4 at k0
  refine go_aload_n (pc := 0) rfl dX6_wireTry_0 ?_
  refine go_aload_n (pc := 1) rfl dX6_wireTry_1 ?_
  refine gi_getF (pc := 2) (q := 36) hv fL_X6_9 rfl (Nat.le_of_ble_eq_true rfl) rfl (hv.rf (by decide)) dX6_wireTry_2 ?_
  refine gi_getF (pc := 5) (q := 40) hv fL_X6_50 rfl (Nat.le_of_ble_eq_true rfl) rfl (hv.rf (by decide)) dX6_wireTry_5 ?_
  refine go_iload_n (pc := 8) rfl dX6_wireTry_8 ?_
  refine gi_iald (pc := 9) (lo := -1) (hi := 127) (len := 128) hv (ti_rfl a2) rfl (by omega) (by omega) (fun _ => rfl) dX6_wireTry_9 (fun v1 v1l v1u v1w => ?_)
  have k2 := bd_e k0 (congrArg Int32.toInt v1w.symm)
  refine go_iload_n (pc := 10) rfl dX6_wireTry_10 ?_
  refine go_iload_n (pc := 11) rfl dX6_wireTry_11 ?_
  refine go_iload (pc := 12) rfl dX6_wireTry_12 ?_
  refine go_iconst (pc := 14) (v := 1) (by decide) dX6_wireTry_14 ?_
  refine gf_iadd (pc := 15) (ti_rfl a5) (ti_c (v := 1) (a := 1) (by decide)) (by omega) (by omega) dX6_wireTry_15 (fun v3 e4 => ?_)
  refine go_invV (pc := 16) (sl := 0) (s_X6_wireBlock_lv5_f l (d + 0) hv v1 (by rw [show (v1 : Int32).toInt = v1.toInt from (ti_rfl v1)]; omega) (by rw [show (v1 : Int32).toInt = v1.toInt from (ti_rfl v1)]; omega) a3 (by rw [show (a3 : Int32).toInt = a3.toInt from (ti_rfl a3)]; omega) (by rw [show (a3 : Int32).toInt = a3.toInt from (ti_rfl a3)]; omega) a4 (by rw [show (a4 : Int32).toInt = a4.toInt from (ti_rfl a4)]; omega) (by rw [show (a4 : Int32).toInt = a4.toInt from (ti_rfl a4)]; omega) v3 (by rw [show (v3 : Int32).toInt = (a5.toInt + 1) from e4]; omega) (by rw [show (v3 : Int32).toInt = (a5.toInt + 1) from e4]; omega)) mL_X6_34 iM_X6_wireBlock sM_X6_wireBlock (hv.sh rfl) rfl rfl rfl (Nat.le_of_ble_eq_true rfl) (show d + 0 + 5 + 1 ≤ d + 6 by omega) (show 8 + (8 + 11) + 40 * (d + 0 + 5) ≤ 40 * (d + 6) by omega) (g_c0 hv.ln) (Nat.le_of_ble_eq_true rfl) dX6_wireTry_16 ?_
  intro r h5 hq _
  obtain ⟨v8, rfl, v8l, v8u, hv5, f6, f7⟩ := hq
  try rw [show (v3 : Int32).toInt = (a5.toInt + 1) from e4] at f6
  try rw [show (v3 : Int32).toInt = (a5.toInt + 1) from e4] at f7
  have fx5 : FX KC0 h h5 := FX.tr fx f7
  have k9 := bd2_e k2 f6
  refine go_istore (pc := 19) (Nat.le_of_ble_eq_true rfl) dX6_wireTry_19 (go_lv (lv2 := [(0, .ref 48), (1, .int a2), (2, .int a3), (3, .int a4), (4, .int a5), (5, .int v8)]) rfl ?_)
  refine go_aload_n (pc := 21) rfl dX6_wireTry_21 ?_
  refine gi_getF (pc := 22) (q := 36) hv5 fL_X6_9 rfl (Nat.le_of_ble_eq_true rfl) rfl (hv5.rf (by decide)) dX6_wireTry_22 ?_
  refine gi_getF (pc := 25) (q := 42) hv5 fL_X6_53 rfl (Nat.le_of_ble_eq_true rfl) rfl (hv5.rf (by decide)) dX6_wireTry_25 ?_
  refine go_iload_n (pc := 28) rfl dX6_wireTry_28 ?_
  refine go_iload (pc := 29) rfl dX6_wireTry_29 ?_
  refine gi_iast (pc := 31) (lo := 0) (hi := 44) (len := 128) hv5 (ti_rfl a2) (ti_rfl v8) rfl (by omega) (by omega) (fun _ => rfl) (by omega) (by omega) (by decide) dX6_wireTry_31 (fun h10 hv10 hv10e => ?_)
  have fx10 : FX KC0 h h10 := FX.pI fx5 hv10e (by unfold KC0; omega)
  have k11 := bd_e k9 (st_I hv10e (ti_rfl v8))
  refine go_aload_n (pc := 32) rfl dX6_wireTry_32 ?_
  refine gi_getF (pc := 33) (q := 36) hv10 fL_X6_9 rfl (Nat.le_of_ble_eq_true rfl) rfl (hv10.rf (by decide)) dX6_wireTry_33 ?_
  refine gi_getF (pc := 36) (q := 43) hv10 fL_X6_56 rfl (Nat.le_of_ble_eq_true rfl) rfl (hv10.rf (by decide)) dX6_wireTry_36 ?_
  refine go_iload_n (pc := 39) rfl dX6_wireTry_39 ?_
  refine go_iload (pc := 40) rfl dX6_wireTry_40 ?_
  refine go_iload_n (pc := 42) rfl dX6_wireTry_42 ?_
  refine gf_icmp_ne (pc := 43) (tgt := 51) (ti_rfl v8) (ti_rfl a3) (by decide) dX6_wireTry_43 (fun q12 => ?_) (fun q12 => ?_)
  ·
    have k13 := if_t k11 q12
    refine go_iload (pc := 51) rfl dX6_wireTry_51 ?_
    refine gi_iast (pc := 53) (lo := -2) (hi := 44) (len := 128) hv10 (ti_rfl a2) (ti_rfl v8) rfl (by omega) (by omega) (fun _ => rfl) (by omega) (by omega) (by decide) dX6_wireTry_53 (fun h14 hv14 hv14e => ?_)
    have fx14 : FX KC0 h h14 := FX.pI fx10 hv14e (by unfold KC0; omega)
    have k15 := bd_e k13 (st_I hv14e (ti_rfl v8))
    refine go_aload_n (pc := 54) rfl dX6_wireTry_54 ?_
    refine go_aload_n (pc := 55) rfl dX6_wireTry_55 ?_
    refine gi_getF (pc := 56) (q := 36) hv14 fL_X6_9 rfl (Nat.le_of_ble_eq_true rfl) rfl (hv14.rf (by decide)) dX6_wireTry_56 ?_
    refine gi_getF (pc := 59) (q := 39) hv14 fL_X6_59 rfl (Nat.le_of_ble_eq_true rfl) rfl (hv14.rf (by decide)) dX6_wireTry_59 ?_
    refine go_iload_n (pc := 62) rfl dX6_wireTry_62 ?_
    refine gi_iald (pc := 63) (lo := -1) (hi := 127) (len := 128) hv14 (ti_rfl a2) rfl (by omega) (by omega) (fun _ => rfl) dX6_wireTry_63 (fun v16 v16l v16u v16w => ?_)
    have k17 := bd_e k15 (congrArg Int32.toInt v16w.symm)
    refine go_iload_n (pc := 64) rfl dX6_wireTry_64 ?_
    refine go_iload_n (pc := 65) rfl dX6_wireTry_65 ?_
    refine go_iload (pc := 66) rfl dX6_wireTry_66 ?_
    refine go_iconst (pc := 68) (v := 1) (by decide) dX6_wireTry_68 ?_
    refine gf_iadd (pc := 69) (ti_rfl a5) (ti_c (v := 1) (a := 1) (by decide)) (by omega) (by omega) dX6_wireTry_69 (fun v18 e19 => ?_)
    refine go_invV (pc := 70) (sl := 0) (s_X6_wireBlock_lv5_f l (d + 0) hv14 v16 (by rw [show (v16 : Int32).toInt = v16.toInt from (ti_rfl v16)]; omega) (by rw [show (v16 : Int32).toInt = v16.toInt from (ti_rfl v16)]; omega) a3 (by rw [show (a3 : Int32).toInt = a3.toInt from (ti_rfl a3)]; omega) (by rw [show (a3 : Int32).toInt = a3.toInt from (ti_rfl a3)]; omega) a2 (by rw [show (a2 : Int32).toInt = a2.toInt from (ti_rfl a2)]; omega) (by rw [show (a2 : Int32).toInt = a2.toInt from (ti_rfl a2)]; omega) v18 (by rw [show (v18 : Int32).toInt = (a5.toInt + 1) from e19]; omega) (by rw [show (v18 : Int32).toInt = (a5.toInt + 1) from e19]; omega)) mL_X6_34 iM_X6_wireBlock sM_X6_wireBlock (hv14.sh rfl) rfl rfl rfl (Nat.le_of_ble_eq_true rfl) (show d + 0 + 5 + 1 ≤ d + 6 by omega) (show 8 + (8 + 11) + 40 * (d + 0 + 5) ≤ 40 * (d + 6) by omega) (g_c0 hv14.ln) (Nat.le_of_ble_eq_true rfl) dX6_wireTry_70 ?_
    intro r h20 hq _
    obtain ⟨v23, rfl, v23l, v23u, hv20, f21, f22⟩ := hq
    try rw [show (v18 : Int32).toInt = (a5.toInt + 1) from e19] at f21
    try rw [show (v18 : Int32).toInt = (a5.toInt + 1) from e19] at f22
    have fx20 : FX KC0 h h20 := FX.tr fx14 f22
    have k24 := bd2_e k17 f21
    exact gi_iret (pc := 73) (ti_rfl v23) ⟨_, rfl, (by rw [show (v23 : Int32).toInt = v23.toInt from (ti_rfl v23)]; omega), (by rw [show (v23 : Int32).toInt = v23.toInt from (ti_rfl v23)]; omega), hv20, (k24.symm.trans kf), fx20⟩ hv20 dX6_wireTry_73
  ·
    have k25 := if_f k11 (fun z => z q12)
    refine go_bipush (pc := 46) (v := (-2)) (by decide) dX6_wireTry_46 ?_
    refine go_goto (pc := 48) (tgt := 53) (by decide) dX6_wireTry_48 ?_
    refine gi_iast (pc := 53) (lo := -2) (hi := 44) (len := 128) hv10 (ti_rfl a2) (ti_c (v := (-2)) (a := (-2)) (by decide)) rfl (by omega) (by omega) (fun _ => rfl) (by omega) (by omega) (by decide) dX6_wireTry_53 (fun h26 hv26 hv26e => ?_)
    have fx26 : FX KC0 h h26 := FX.pI fx10 hv26e (by unfold KC0; omega)
    have k27 := bd_e k25 (st_I hv26e (ti_c (v := (-2)) (a := (-2)) (by decide)))
    refine go_aload_n (pc := 54) rfl dX6_wireTry_54 ?_
    refine go_aload_n (pc := 55) rfl dX6_wireTry_55 ?_
    refine gi_getF (pc := 56) (q := 36) hv26 fL_X6_9 rfl (Nat.le_of_ble_eq_true rfl) rfl (hv26.rf (by decide)) dX6_wireTry_56 ?_
    refine gi_getF (pc := 59) (q := 39) hv26 fL_X6_59 rfl (Nat.le_of_ble_eq_true rfl) rfl (hv26.rf (by decide)) dX6_wireTry_59 ?_
    refine go_iload_n (pc := 62) rfl dX6_wireTry_62 ?_
    refine gi_iald (pc := 63) (lo := -1) (hi := 127) (len := 128) hv26 (ti_rfl a2) rfl (by omega) (by omega) (fun _ => rfl) dX6_wireTry_63 (fun v28 v28l v28u v28w => ?_)
    have k29 := bd_e k27 (congrArg Int32.toInt v28w.symm)
    refine go_iload_n (pc := 64) rfl dX6_wireTry_64 ?_
    refine go_iload_n (pc := 65) rfl dX6_wireTry_65 ?_
    refine go_iload (pc := 66) rfl dX6_wireTry_66 ?_
    refine go_iconst (pc := 68) (v := 1) (by decide) dX6_wireTry_68 ?_
    refine gf_iadd (pc := 69) (ti_rfl a5) (ti_c (v := 1) (a := 1) (by decide)) (by omega) (by omega) dX6_wireTry_69 (fun v30 e31 => ?_)
    refine go_invV (pc := 70) (sl := 0) (s_X6_wireBlock_lv5_f l (d + 0) hv26 v28 (by rw [show (v28 : Int32).toInt = v28.toInt from (ti_rfl v28)]; omega) (by rw [show (v28 : Int32).toInt = v28.toInt from (ti_rfl v28)]; omega) a3 (by rw [show (a3 : Int32).toInt = a3.toInt from (ti_rfl a3)]; omega) (by rw [show (a3 : Int32).toInt = a3.toInt from (ti_rfl a3)]; omega) a2 (by rw [show (a2 : Int32).toInt = a2.toInt from (ti_rfl a2)]; omega) (by rw [show (a2 : Int32).toInt = a2.toInt from (ti_rfl a2)]; omega) v30 (by rw [show (v30 : Int32).toInt = (a5.toInt + 1) from e31]; omega) (by rw [show (v30 : Int32).toInt = (a5.toInt + 1) from e31]; omega)) mL_X6_34 iM_X6_wireBlock sM_X6_wireBlock (hv26.sh rfl) rfl rfl rfl (Nat.le_of_ble_eq_true rfl) (show d + 0 + 5 + 1 ≤ d + 6 by omega) (show 8 + (8 + 11) + 40 * (d + 0 + 5) ≤ 40 * (d + 6) by omega) (g_c0 hv26.ln) (Nat.le_of_ble_eq_true rfl) dX6_wireTry_70 ?_
    intro r h32 hq _
    obtain ⟨v35, rfl, v35l, v35u, hv32, f33, f34⟩ := hq
    try rw [show (v30 : Int32).toInt = (a5.toInt + 1) from e31] at f33
    try rw [show (v30 : Int32).toInt = (a5.toInt + 1) from e31] at f34
    have fx32 : FX KC0 h h32 := FX.tr fx26 f34
    have k36 := bd2_e k29 f33
    exact gi_iret (pc := 73) (ti_rfl v35) ⟨_, rfl, (by rw [show (v35 : Int32).toInt = v35.toInt from (ti_rfl v35)]; omega), (by rw [show (v35 : Int32).toInt = v35.toInt from (ti_rfl v35)]; omega), hv32, (k36.symm.trans kf), fx32⟩ hv32 dX6_wireTry_73
def f_X6_wireStatement_lv4 (s : ST) (a2 : Int) (a3 : Int) (a4 : Int) (a5 : Int) : ST × Int :=
  bd (s.1 37 (a2).toNat) fun v1 => bd (s.2.2 48 1) fun c3 => bd (s.1 (c3 + 3) (v1).toNat) fun v5 => bd (s.2.2 48 1) fun c9 => bd (sI s (c9 + 11) (v1).toNat a3) fun s11 => bd (s11.2.2 48 1) fun c13 => bd (sI s11 (c13 + 12) (v1).toNat a3) fun s15 => bd (s15.2.2 48 1) fun c17 => if 0 ≤ a4 then (bd (s15.1 42 (a4).toNat) fun v21 => bd (sI s15 (c17 + 13) (v1).toNat v21) fun s23 => bd (s23.2.2 48 1) fun c25 => bd (s23.1 41 (a4).toNat) fun v28 => bd (sI s23 (c25 + 14) (v1).toNat v28) fun s30 => bd (s30.2.2 48 1) fun c32 => bd (s30.1 43 (a4).toNat) fun v35 => bd (sI s30 (c32 + 15) (v1).toNat v35) fun s37 => bd (s37.2.2 48 1) fun c39 => bd (s37.1 (c39 + 2) (v1).toNat) fun v41 => if ¬ v41 = 5 then (bd (s37.2.2 48 1) fun c45 => bd (s37.1 (c45 + 2) (v1).toNat) fun v47 => if ¬ v47 = 3 then (bd (s37.2.2 48 1) fun c51 => bd (s37.1 (c51 + 2) (v1).toNat) fun v53 => if ¬ v53 = 2 then ((s37, v1)) else (bd (s37.2.2 48 1) fun c58 => bd (s37.1 39 (a2).toNat) fun v60 => bd2 (f_X6_wireBlock_lv5 s37 v60 a3 a4 ((a5 + 1))) fun s64 v67 => bd (sI s64 (c58 + 13) (v1).toNat v67) fun s69 => bd (s69.2.2 48 1) fun c71 => bd (s69.1 40 (a2).toNat) fun v73 => bd2 (f_X6_wireBlock_lv5 s69 v73 a3 a4 ((a5 + 1))) fun s77 v80 => bd (sI s77 (c71 + 12) (v1).toNat v80) fun s82 => (s82, v1))) else (bd (s37.2.2 48 1) fun c85 => bd (s37.1 39 (a2).toNat) fun v87 => bd2 (f_X6_wireBlock_lv5 s37 v87 v1 a4 ((a5 + 1))) fun s91 v94 => bd (sI s91 (c85 + 13) (v1).toNat v94) fun s96 => (s96, v1))) else (bd (s37.2.2 48 1) fun c99 => bd (sI s37 (c99 + 13) (v1).toNat ((40 + v5))) fun s101 => (s101, v1))) else (bd (sI s15 (c17 + 13) (v1).toNat ((40 + v5))) fun s104 => bd (s104.2.2 48 1) fun c106 => bd (sI s104 (c106 + 14) (v1).toNat (-1)) fun s109 => bd (s109.2.2 48 1) fun c111 => bd (sI s109 (c111 + 15) (v1).toNat (-2)) fun s114 => bd (s114.2.2 48 1) fun c116 => bd (s114.1 (c116 + 2) (v1).toNat) fun v118 => if ¬ v118 = 5 then (bd (s114.2.2 48 1) fun c122 => bd (s114.1 (c122 + 2) (v1).toNat) fun v124 => if ¬ v124 = 3 then (bd (s114.2.2 48 1) fun c128 => bd (s114.1 (c128 + 2) (v1).toNat) fun v130 => if ¬ v130 = 2 then ((s114, v1)) else (bd (s114.2.2 48 1) fun c135 => bd (s114.1 39 (a2).toNat) fun v137 => bd2 (f_X6_wireBlock_lv5 s114 v137 a3 a4 ((a5 + 1))) fun s141 v144 => bd (sI s141 (c135 + 13) (v1).toNat v144) fun s146 => bd (s146.2.2 48 1) fun c148 => bd (s146.1 40 (a2).toNat) fun v150 => bd2 (f_X6_wireBlock_lv5 s146 v150 a3 a4 ((a5 + 1))) fun s154 v157 => bd (sI s154 (c148 + 12) (v1).toNat v157) fun s159 => (s159, v1))) else (bd (s114.2.2 48 1) fun c162 => bd (s114.1 39 (a2).toNat) fun v164 => bd2 (f_X6_wireBlock_lv5 s114 v164 v1 a4 ((a5 + 1))) fun s168 v171 => bd (sI s168 (c162 + 13) (v1).toNat v171) fun s173 => (s173, v1))) else (bd (s114.2.2 48 1) fun c176 => bd (sI s114 (c176 + 13) (v1).toNat ((40 + v5))) fun s178 => (s178, v1)))
set_option maxHeartbeats 4000000 in
set_option maxRecDepth 100000 in
theorem s_X6_wireStatement_lv4_f (l : Launch) (d : Nat) {P : PP} {h : HP} (hv : Iv P h) (a2 : Int32) (a2l : 0 ≤ a2.toInt) (a2u : a2.toInt ≤ 127) (a3 : Int32) (a3l : 0 ≤ a3.toInt) (a3u : a3.toInt ≤ 44) (a4 : Int32) (a4l : -1 ≤ a4.toInt) (a4u : a4.toInt ≤ 127) (a5 : Int32) (a5l : 4 ≤ a5.toInt) (a5u : a5.toInt ≤ 4) (hp : 0 ≤ (h.2.1 37 a2.toInt.toNat).toInt) : Mt l yX6_wireStatement cX6_wireStatement 7 (some .int) (d + 6) [.ref 48, .int a2, .int a3, .int a4, .int a5] h 0 0 (fun r h' => ∃ v : Int32, r = some (.int v) ∧ 0 ≤ v.toInt ∧ v.toInt ≤ 44 ∧ Iv P h' ∧ ((st h', v.toInt) = f_X6_wireStatement_lv4 (st h) a2.toInt a3.toInt a4.toInt a5.toInt) ∧ (FX KC0 h h')) := by
  refine Mt_iv hv (by decide) (Nat.le_of_ble_eq_true rfl) ?_
  show Go l RX6 cX6_wireStatement 7 (g_rm (d + 6) 0 0) "wireStatement" (some .int) 117 0 0 (fun _ _ => True) (fun r h' => ∃ v : Int32, r = some (.int v) ∧ 0 ≤ v.toInt ∧ v.toInt ≤ 44 ∧ Iv P h' ∧ ((st h', v.toInt) = f_X6_wireStatement_lv4 (st h) a2.toInt a3.toInt a4.toInt a5.toInt) ∧ (FX KC0 h h')) 0 0 [(0, .ref 48), (1, .int a2), (2, .int a3), (3, .int a4), (4, .int a5)] [] h
  have fx : FX KC0 h h := FX.rfl
  obtain ⟨fin, kf⟩ : ∃ z, z = f_X6_wireStatement_lv4 (st h) a2.toInt a3.toInt a4.toInt a5.toInt := ⟨_, _root_.rfl⟩
  have k0 := kf
  unfold f_X6_wireStatement_lv4 at k0
  refine go_aload_n (pc := 0) rfl dX6_wireStatement_0 ?_
  refine gi_getF (pc := 1) (q := 36) hv fL_X6_9 rfl (Nat.le_of_ble_eq_true rfl) rfl (hv.rf (by decide)) dX6_wireStatement_1 ?_
  refine gi_getF (pc := 4) (q := 37) hv fL_X6_38 rfl (Nat.le_of_ble_eq_true rfl) rfl (hv.rf (by decide)) dX6_wireStatement_4 ?_
  refine go_iload_n (pc := 7) rfl dX6_wireStatement_7 ?_
  refine gi_iald (pc := 8) (lo := -1) (hi := 39) (len := 128) hv (ti_rfl a2) rfl (by omega) (by omega) (fun _ => rfl) dX6_wireStatement_8 (fun v1 v1l v1u v1w => ?_)
  have k2 := bd_e k0 (congrArg Int32.toInt v1w.symm)
  have kk : 0 ≤ v1.toInt := by rw [v1w]; exact hp
  refine go_istore (pc := 9) (Nat.le_of_ble_eq_true rfl) dX6_wireStatement_9 (go_lv (lv2 := [(0, .ref 48), (1, .int a2), (2, .int a3), (3, .int a4), (4, .int a5), (5, .int v1)]) rfl ?_)
  refine go_bipush (pc := 11) (v := 40) (by decide) dX6_wireStatement_11 ?_
  refine go_aload_n (pc := 13) rfl dX6_wireStatement_13 ?_
  refine gi_getC (pc := 14) hv fL_X6_15 rfl (Nat.le_of_ble_eq_true rfl) rfl (by decide) dX6_wireStatement_14 (fun c3 hc3 fc3 => ?_)
  have k4 := bd_e k2 (st_c fc3)
  refine gi_getF (pc := 17) (q := c3 + 3) hv fL_X6_62 (by rcases hc3 with rfl | rfl <;> rfl) (Nat.le_of_ble_eq_true rfl) rfl (by rcases hc3 with rfl | rfl <;> exact hv.rf (by decide)) dX6_wireStatement_17 ?_
  refine go_iload (pc := 20) rfl dX6_wireStatement_20 ?_
  refine gi_iald (pc := 22) (lo := -1) (hi := 4) (len := 40) hv (ti_rfl v1) (by rcases hc3 with rfl | rfl <;> rfl) (by omega) (by omega) (fun _ => by rcases hc3 with rfl | rfl <;> rfl) dX6_wireStatement_22 (fun v5 v5l v5u v5w => ?_)
  have k6 := bd_e k4 (congrArg Int32.toInt v5w.symm)
  refine gf_iadd (pc := 23) (ti_c (v := 40) (a := 40) (by decide)) (ti_rfl v5) (by omega) (by omega) dX6_wireStatement_23 (fun v7 e8 => ?_)
  refine go_istore (pc := 24) (Nat.le_of_ble_eq_true rfl) dX6_wireStatement_24 (go_lv (lv2 := [(0, .ref 48), (1, .int a2), (2, .int a3), (3, .int a4), (4, .int a5), (5, .int v1), (6, .int v7)]) rfl ?_)
  refine go_aload_n (pc := 26) rfl dX6_wireStatement_26 ?_
  refine gi_getC (pc := 27) hv fL_X6_15 rfl (Nat.le_of_ble_eq_true rfl) rfl (by decide) dX6_wireStatement_27 (fun c9 hc9 fc9 => ?_)
  have k10 := bd_e k6 (st_c fc9)
  refine gi_getF (pc := 30) (q := c9 + 11) hv fL_X6_65 (by rcases hc9 with rfl | rfl <;> rfl) (Nat.le_of_ble_eq_true rfl) rfl (by rcases hc9 with rfl | rfl <;> exact hv.rf (by decide)) dX6_wireStatement_30 ?_
  refine go_iload (pc := 33) rfl dX6_wireStatement_33 ?_
  refine go_iload_n (pc := 35) rfl dX6_wireStatement_35 ?_
  refine gi_iast (pc := 36) (lo := 0) (hi := 44) (len := 40) hv (ti_rfl v1) (ti_rfl a3) (by rcases hc9 with rfl | rfl <;> rfl) (by omega) (by omega) (fun _ => by rcases hc9 with rfl | rfl <;> rfl) (by omega) (by omega) (by rcases hc9 with rfl | rfl <;> decide) dX6_wireStatement_36 (fun h11 hv11 hv11e => ?_)
  have fx11 : FX KC0 h h11 := FX.pI fx hv11e (by unfold KC0; omega)
  have k12 := bd_e k10 (st_I hv11e (ti_rfl a3))
  refine go_aload_n (pc := 37) rfl dX6_wireStatement_37 ?_
  refine gi_getC (pc := 38) hv11 fL_X6_15 rfl (Nat.le_of_ble_eq_true rfl) rfl (by decide) dX6_wireStatement_38 (fun c13 hc13 fc13 => ?_)
  have k14 := bd_e k12 (st_c fc13)
  refine gi_getF (pc := 41) (q := c13 + 12) hv11 fL_X6_68 (by rcases hc13 with rfl | rfl <;> rfl) (Nat.le_of_ble_eq_true rfl) rfl (by rcases hc13 with rfl | rfl <;> exact hv11.rf (by decide)) dX6_wireStatement_41 ?_
  refine go_iload (pc := 44) rfl dX6_wireStatement_44 ?_
  refine go_iload_n (pc := 46) rfl dX6_wireStatement_46 ?_
  refine gi_iast (pc := 47) (lo := 0) (hi := 44) (len := 40) hv11 (ti_rfl v1) (ti_rfl a3) (by rcases hc13 with rfl | rfl <;> rfl) (by omega) (by omega) (fun _ => by rcases hc13 with rfl | rfl <;> rfl) (by omega) (by omega) (by rcases hc13 with rfl | rfl <;> decide) dX6_wireStatement_47 (fun h15 hv15 hv15e => ?_)
  have fx15 : FX KC0 h h15 := FX.pI fx11 hv15e (by unfold KC0; omega)
  have k16 := bd_e k14 (st_I hv15e (ti_rfl a3))
  refine go_aload_n (pc := 48) rfl dX6_wireStatement_48 ?_
  refine gi_getC (pc := 49) hv15 fL_X6_15 rfl (Nat.le_of_ble_eq_true rfl) rfl (by decide) dX6_wireStatement_49 (fun c17 hc17 fc17 => ?_)
  have k18 := bd_e k16 (st_c fc17)
  refine gi_getF (pc := 52) (q := c17 + 13) hv15 fL_X6_71 (by rcases hc17 with rfl | rfl <;> rfl) (Nat.le_of_ble_eq_true rfl) rfl (by rcases hc17 with rfl | rfl <;> exact hv15.rf (by decide)) dX6_wireStatement_52 ?_
  refine go_iload (pc := 55) rfl dX6_wireStatement_55 ?_
  refine go_iload_n (pc := 57) rfl dX6_wireStatement_57 ?_
  refine gf_if_ge (pc := 58) (tgt := 66) (ti_rfl a4) (by decide) dX6_wireStatement_58 (fun q19 => ?_) (fun q19 => ?_)
  ·
    have k20 := if_t k18 q19
    refine go_aload_n (pc := 66) rfl dX6_wireStatement_66 ?_
    refine gi_getF (pc := 67) (q := 36) hv15 fL_X6_9 rfl (Nat.le_of_ble_eq_true rfl) rfl (hv15.rf (by decide)) dX6_wireStatement_67 ?_
    refine gi_getF (pc := 70) (q := 42) hv15 fL_X6_53 rfl (Nat.le_of_ble_eq_true rfl) rfl (hv15.rf (by decide)) dX6_wireStatement_70 ?_
    refine go_iload_n (pc := 73) rfl dX6_wireStatement_73 ?_
    refine gi_iald (pc := 74) (lo := 0) (hi := 44) (len := 128) hv15 (ti_rfl a4) rfl (by omega) (by omega) (fun _ => rfl) dX6_wireStatement_74 (fun v21 v21l v21u v21w => ?_)
    have k22 := bd_e k20 (congrArg Int32.toInt v21w.symm)
    refine gi_iast (pc := 75) (lo := 0) (hi := 44) (len := 40) hv15 (ti_rfl v1) (ti_rfl v21) (by rcases hc17 with rfl | rfl <;> rfl) (by omega) (by omega) (fun _ => by rcases hc17 with rfl | rfl <;> rfl) (by omega) (by omega) (by rcases hc17 with rfl | rfl <;> decide) dX6_wireStatement_75 (fun h23 hv23 hv23e => ?_)
    have fx23 : FX KC0 h h23 := FX.pI fx15 hv23e (by unfold KC0; omega)
    have k24 := bd_e k22 (st_I hv23e (ti_rfl v21))
    refine go_aload_n (pc := 76) rfl dX6_wireStatement_76 ?_
    refine gi_getC (pc := 77) hv23 fL_X6_15 rfl (Nat.le_of_ble_eq_true rfl) rfl (by decide) dX6_wireStatement_77 (fun c25 hc25 fc25 => ?_)
    have k26 := bd_e k24 (st_c fc25)
    refine gi_getF (pc := 80) (q := c25 + 14) hv23 fL_X6_74 (by rcases hc25 with rfl | rfl <;> rfl) (Nat.le_of_ble_eq_true rfl) rfl (by rcases hc25 with rfl | rfl <;> exact hv23.rf (by decide)) dX6_wireStatement_80 ?_
    refine go_iload (pc := 83) rfl dX6_wireStatement_83 ?_
    refine go_iload_n (pc := 85) rfl dX6_wireStatement_85 ?_
    refine gf_if_ge (pc := 86) (tgt := 93) (ti_rfl a4) (by decide) dX6_wireStatement_86 (fun q27 => ?_) (fun q27 => False.elim (by omega))
    refine go_aload_n (pc := 93) rfl dX6_wireStatement_93 ?_
    refine gi_getF (pc := 94) (q := 36) hv23 fL_X6_9 rfl (Nat.le_of_ble_eq_true rfl) rfl (hv23.rf (by decide)) dX6_wireStatement_94 ?_
    refine gi_getF (pc := 97) (q := 41) hv23 fL_X6_77 rfl (Nat.le_of_ble_eq_true rfl) rfl (hv23.rf (by decide)) dX6_wireStatement_97 ?_
    refine go_iload_n (pc := 100) rfl dX6_wireStatement_100 ?_
    refine gi_iald (pc := 101) (lo := -1) (hi := 5) (len := 128) hv23 (ti_rfl a4) rfl (by omega) (by omega) (fun _ => rfl) dX6_wireStatement_101 (fun v28 v28l v28u v28w => ?_)
    have k29 := bd_e k26 (congrArg Int32.toInt v28w.symm)
    refine gi_iast (pc := 102) (lo := -1) (hi := 5) (len := 40) hv23 (ti_rfl v1) (ti_rfl v28) (by rcases hc25 with rfl | rfl <;> rfl) (by omega) (by omega) (fun _ => by rcases hc25 with rfl | rfl <;> rfl) (by omega) (by omega) (by rcases hc25 with rfl | rfl <;> decide) dX6_wireStatement_102 (fun h30 hv30 hv30e => ?_)
    have fx30 : FX KC0 h h30 := FX.pI fx23 hv30e (by unfold KC0; omega)
    have k31 := bd_e k29 (st_I hv30e (ti_rfl v28))
    refine go_aload_n (pc := 103) rfl dX6_wireStatement_103 ?_
    refine gi_getC (pc := 104) hv30 fL_X6_15 rfl (Nat.le_of_ble_eq_true rfl) rfl (by decide) dX6_wireStatement_104 (fun c32 hc32 fc32 => ?_)
    have k33 := bd_e k31 (st_c fc32)
    refine gi_getF (pc := 107) (q := c32 + 15) hv30 fL_X6_80 (by rcases hc32 with rfl | rfl <;> rfl) (Nat.le_of_ble_eq_true rfl) rfl (by rcases hc32 with rfl | rfl <;> exact hv30.rf (by decide)) dX6_wireStatement_107 ?_
    refine go_iload (pc := 110) rfl dX6_wireStatement_110 ?_
    refine go_iload_n (pc := 112) rfl dX6_wireStatement_112 ?_
    refine gf_if_ge (pc := 113) (tgt := 121) (ti_rfl a4) (by decide) dX6_wireStatement_113 (fun q34 => ?_) (fun q34 => False.elim (by omega))
    refine go_aload_n (pc := 121) rfl dX6_wireStatement_121 ?_
    refine gi_getF (pc := 122) (q := 36) hv30 fL_X6_9 rfl (Nat.le_of_ble_eq_true rfl) rfl (hv30.rf (by decide)) dX6_wireStatement_122 ?_
    refine gi_getF (pc := 125) (q := 43) hv30 fL_X6_56 rfl (Nat.le_of_ble_eq_true rfl) rfl (hv30.rf (by decide)) dX6_wireStatement_125 ?_
    refine go_iload_n (pc := 128) rfl dX6_wireStatement_128 ?_
    refine gi_iald (pc := 129) (lo := -2) (hi := 44) (len := 128) hv30 (ti_rfl a4) rfl (by omega) (by omega) (fun _ => rfl) dX6_wireStatement_129 (fun v35 v35l v35u v35w => ?_)
    have k36 := bd_e k33 (congrArg Int32.toInt v35w.symm)
    refine gi_iast (pc := 130) (lo := -2) (hi := 44) (len := 40) hv30 (ti_rfl v1) (ti_rfl v35) (by rcases hc32 with rfl | rfl <;> rfl) (by omega) (by omega) (fun _ => by rcases hc32 with rfl | rfl <;> rfl) (by omega) (by omega) (by rcases hc32 with rfl | rfl <;> decide) dX6_wireStatement_130 (fun h37 hv37 hv37e => ?_)
    have fx37 : FX KC0 h h37 := FX.pI fx30 hv37e (by unfold KC0; omega)
    have k38 := bd_e k36 (st_I hv37e (ti_rfl v35))
    refine go_aload_n (pc := 131) rfl dX6_wireStatement_131 ?_
    refine gi_getC (pc := 132) hv37 fL_X6_15 rfl (Nat.le_of_ble_eq_true rfl) rfl (by decide) dX6_wireStatement_132 (fun c39 hc39 fc39 => ?_)
    have k40 := bd_e k38 (st_c fc39)
    refine gi_getF (pc := 135) (q := c39 + 2) hv37 fL_X6_81 (by rcases hc39 with rfl | rfl <;> rfl) (Nat.le_of_ble_eq_true rfl) rfl (by rcases hc39 with rfl | rfl <;> exact hv37.rf (by decide)) dX6_wireStatement_135 ?_
    refine go_iload (pc := 138) rfl dX6_wireStatement_138 ?_
    refine gi_iald (pc := 140) (lo := 0) (hi := 5) (len := 40) hv37 (ti_rfl v1) (by rcases hc39 with rfl | rfl <;> rfl) (by omega) (by omega) (fun _ => by rcases hc39 with rfl | rfl <;> rfl) dX6_wireStatement_140 (fun v41 v41l v41u v41w => ?_)
    have k42 := bd_e k40 (congrArg Int32.toInt v41w.symm)
    refine go_iconst (pc := 141) (v := 5) (by decide) dX6_wireStatement_141 ?_
    refine gf_icmp_ne (pc := 142) (tgt := 160) (ti_rfl v41) (ti_c (v := 5) (a := 5) (by decide)) (by decide) dX6_wireStatement_142 (fun q43 => ?_) (fun q43 => ?_)
    ·
      have k44 := if_t k42 q43
      refine go_aload_n (pc := 160) rfl dX6_wireStatement_160 ?_
      refine gi_getC (pc := 161) hv37 fL_X6_15 rfl (Nat.le_of_ble_eq_true rfl) rfl (by decide) dX6_wireStatement_161 (fun c45 hc45 fc45 => ?_)
      have k46 := bd_e k44 (st_c fc45)
      refine gi_getF (pc := 164) (q := c45 + 2) hv37 fL_X6_81 (by rcases hc45 with rfl | rfl <;> rfl) (Nat.le_of_ble_eq_true rfl) rfl (by rcases hc45 with rfl | rfl <;> exact hv37.rf (by decide)) dX6_wireStatement_164 ?_
      refine go_iload (pc := 167) rfl dX6_wireStatement_167 ?_
      refine gi_iald (pc := 169) (lo := 0) (hi := 5) (len := 40) hv37 (ti_rfl v1) (by rcases hc45 with rfl | rfl <;> rfl) (by omega) (by omega) (fun _ => by rcases hc45 with rfl | rfl <;> rfl) dX6_wireStatement_169 (fun v47 v47l v47u v47w => ?_)
      have k48 := bd_e k46 (congrArg Int32.toInt v47w.symm)
      refine go_iconst (pc := 170) (v := 3) (by decide) dX6_wireStatement_170 ?_
      refine gf_icmp_ne (pc := 171) (tgt := 207) (ti_rfl v47) (ti_c (v := 3) (a := 3) (by decide)) (by decide) dX6_wireStatement_171 (fun q49 => ?_) (fun q49 => ?_)
      ·
        have k50 := if_t k48 q49
        refine go_aload_n (pc := 207) rfl dX6_wireStatement_207 ?_
        refine gi_getC (pc := 208) hv37 fL_X6_15 rfl (Nat.le_of_ble_eq_true rfl) rfl (by decide) dX6_wireStatement_208 (fun c51 hc51 fc51 => ?_)
        have k52 := bd_e k50 (st_c fc51)
        refine gi_getF (pc := 211) (q := c51 + 2) hv37 fL_X6_81 (by rcases hc51 with rfl | rfl <;> rfl) (Nat.le_of_ble_eq_true rfl) rfl (by rcases hc51 with rfl | rfl <;> exact hv37.rf (by decide)) dX6_wireStatement_211 ?_
        refine go_iload (pc := 214) rfl dX6_wireStatement_214 ?_
        refine gi_iald (pc := 216) (lo := 0) (hi := 5) (len := 40) hv37 (ti_rfl v1) (by rcases hc51 with rfl | rfl <;> rfl) (by omega) (by omega) (fun _ => by rcases hc51 with rfl | rfl <;> rfl) dX6_wireStatement_216 (fun v53 v53l v53u v53w => ?_)
        have k54 := bd_e k52 (congrArg Int32.toInt v53w.symm)
        refine go_iconst (pc := 217) (v := 2) (by decide) dX6_wireStatement_217 ?_
        refine gf_icmp_ne (pc := 218) (tgt := 279) (ti_rfl v53) (ti_c (v := 2) (a := 2) (by decide)) (by decide) dX6_wireStatement_218 (fun q55 => ?_) (fun q55 => ?_)
        ·
          have k56 := if_t k54 q55
          refine go_iload (pc := 279) rfl dX6_wireStatement_279 ?_
          exact gi_iret (pc := 281) (ti_rfl v1) ⟨_, rfl, (by rw [show (v1 : Int32).toInt = v1.toInt from (ti_rfl v1)]; omega), (by rw [show (v1 : Int32).toInt = v1.toInt from (ti_rfl v1)]; omega), hv37, (k56.symm.trans kf), fx37⟩ hv37 dX6_wireStatement_281
        ·
          have k57 := if_f k54 (fun z => z q55)
          refine go_aload_n (pc := 221) rfl dX6_wireStatement_221 ?_
          refine gi_getC (pc := 222) hv37 fL_X6_15 rfl (Nat.le_of_ble_eq_true rfl) rfl (by decide) dX6_wireStatement_222 (fun c58 hc58 fc58 => ?_)
          have k59 := bd_e k57 (st_c fc58)
          refine gi_getF (pc := 225) (q := c58 + 13) hv37 fL_X6_71 (by rcases hc58 with rfl | rfl <;> rfl) (Nat.le_of_ble_eq_true rfl) rfl (by rcases hc58 with rfl | rfl <;> exact hv37.rf (by decide)) dX6_wireStatement_225 ?_
          refine go_iload (pc := 228) rfl dX6_wireStatement_228 ?_
          refine go_aload_n (pc := 230) rfl dX6_wireStatement_230 ?_
          refine go_aload_n (pc := 231) rfl dX6_wireStatement_231 ?_
          refine gi_getF (pc := 232) (q := 36) hv37 fL_X6_9 rfl (Nat.le_of_ble_eq_true rfl) rfl (hv37.rf (by decide)) dX6_wireStatement_232 ?_
          refine gi_getF (pc := 235) (q := 39) hv37 fL_X6_59 rfl (Nat.le_of_ble_eq_true rfl) rfl (hv37.rf (by decide)) dX6_wireStatement_235 ?_
          refine go_iload_n (pc := 238) rfl dX6_wireStatement_238 ?_
          refine gi_iald (pc := 239) (lo := -1) (hi := 127) (len := 128) hv37 (ti_rfl a2) rfl (by omega) (by omega) (fun _ => rfl) dX6_wireStatement_239 (fun v60 v60l v60u v60w => ?_)
          have k61 := bd_e k59 (congrArg Int32.toInt v60w.symm)
          refine go_iload_n (pc := 240) rfl dX6_wireStatement_240 ?_
          refine go_iload_n (pc := 241) rfl dX6_wireStatement_241 ?_
          refine go_iload (pc := 242) rfl dX6_wireStatement_242 ?_
          refine go_iconst (pc := 244) (v := 1) (by decide) dX6_wireStatement_244 ?_
          refine gf_iadd (pc := 245) (ti_rfl a5) (ti_c (v := 1) (a := 1) (by decide)) (by omega) (by omega) dX6_wireStatement_245 (fun v62 e63 => ?_)
          refine go_invV (pc := 246) (sl := 0) (s_X6_wireBlock_lv5_f l (d + 0) hv37 v60 (by rw [show (v60 : Int32).toInt = v60.toInt from (ti_rfl v60)]; omega) (by rw [show (v60 : Int32).toInt = v60.toInt from (ti_rfl v60)]; omega) a3 (by rw [show (a3 : Int32).toInt = a3.toInt from (ti_rfl a3)]; omega) (by rw [show (a3 : Int32).toInt = a3.toInt from (ti_rfl a3)]; omega) a4 (by rw [show (a4 : Int32).toInt = a4.toInt from (ti_rfl a4)]; omega) (by rw [show (a4 : Int32).toInt = a4.toInt from (ti_rfl a4)]; omega) v62 (by rw [show (v62 : Int32).toInt = (a5.toInt + 1) from e63]; omega) (by rw [show (v62 : Int32).toInt = (a5.toInt + 1) from e63]; omega)) mL_X6_34 iM_X6_wireBlock sM_X6_wireBlock (hv37.sh rfl) rfl rfl rfl (Nat.le_of_ble_eq_true rfl) (show d + 0 + 5 + 1 ≤ d + 6 by omega) (show 8 + (8 + 11) + 40 * (d + 0 + 5) ≤ 40 * (d + 6) by omega) (g_c0 hv37.ln) (Nat.le_of_ble_eq_true rfl) dX6_wireStatement_246 ?_
          intro r h64 hq _
          obtain ⟨v67, rfl, v67l, v67u, hv64, f65, f66⟩ := hq
          try rw [show (v62 : Int32).toInt = (a5.toInt + 1) from e63] at f65
          try rw [show (v62 : Int32).toInt = (a5.toInt + 1) from e63] at f66
          have fx64 : FX KC0 h h64 := FX.tr fx37 f66
          have k68 := bd2_e k61 f65
          refine gi_iast (pc := 249) (lo := 0) (hi := 44) (len := 40) hv64 (ti_rfl v1) (ti_rfl v67) (by rcases hc58 with rfl | rfl <;> rfl) (by omega) (by omega) (fun _ => by rcases hc58 with rfl | rfl <;> rfl) (by omega) (by omega) (by rcases hc58 with rfl | rfl <;> decide) dX6_wireStatement_249 (fun h69 hv69 hv69e => ?_)
          have fx69 : FX KC0 h h69 := FX.pI fx64 hv69e (by unfold KC0; omega)
          have k70 := bd_e k68 (st_I hv69e (ti_rfl v67))
          refine go_aload_n (pc := 250) rfl dX6_wireStatement_250 ?_
          refine gi_getC (pc := 251) hv69 fL_X6_15 rfl (Nat.le_of_ble_eq_true rfl) rfl (by decide) dX6_wireStatement_251 (fun c71 hc71 fc71 => ?_)
          have k72 := bd_e k70 (st_c fc71)
          refine gi_getF (pc := 254) (q := c71 + 12) hv69 fL_X6_68 (by rcases hc71 with rfl | rfl <;> rfl) (Nat.le_of_ble_eq_true rfl) rfl (by rcases hc71 with rfl | rfl <;> exact hv69.rf (by decide)) dX6_wireStatement_254 ?_
          refine go_iload (pc := 257) rfl dX6_wireStatement_257 ?_
          refine go_aload_n (pc := 259) rfl dX6_wireStatement_259 ?_
          refine go_aload_n (pc := 260) rfl dX6_wireStatement_260 ?_
          refine gi_getF (pc := 261) (q := 36) hv69 fL_X6_9 rfl (Nat.le_of_ble_eq_true rfl) rfl (hv69.rf (by decide)) dX6_wireStatement_261 ?_
          refine gi_getF (pc := 264) (q := 40) hv69 fL_X6_50 rfl (Nat.le_of_ble_eq_true rfl) rfl (hv69.rf (by decide)) dX6_wireStatement_264 ?_
          refine go_iload_n (pc := 267) rfl dX6_wireStatement_267 ?_
          refine gi_iald (pc := 268) (lo := -1) (hi := 127) (len := 128) hv69 (ti_rfl a2) rfl (by omega) (by omega) (fun _ => rfl) dX6_wireStatement_268 (fun v73 v73l v73u v73w => ?_)
          have k74 := bd_e k72 (congrArg Int32.toInt v73w.symm)
          refine go_iload_n (pc := 269) rfl dX6_wireStatement_269 ?_
          refine go_iload_n (pc := 270) rfl dX6_wireStatement_270 ?_
          refine go_iload (pc := 271) rfl dX6_wireStatement_271 ?_
          refine go_iconst (pc := 273) (v := 1) (by decide) dX6_wireStatement_273 ?_
          refine gf_iadd (pc := 274) (ti_rfl a5) (ti_c (v := 1) (a := 1) (by decide)) (by omega) (by omega) dX6_wireStatement_274 (fun v75 e76 => ?_)
          refine go_invV (pc := 275) (sl := 0) (s_X6_wireBlock_lv5_f l (d + 0) hv69 v73 (by rw [show (v73 : Int32).toInt = v73.toInt from (ti_rfl v73)]; omega) (by rw [show (v73 : Int32).toInt = v73.toInt from (ti_rfl v73)]; omega) a3 (by rw [show (a3 : Int32).toInt = a3.toInt from (ti_rfl a3)]; omega) (by rw [show (a3 : Int32).toInt = a3.toInt from (ti_rfl a3)]; omega) a4 (by rw [show (a4 : Int32).toInt = a4.toInt from (ti_rfl a4)]; omega) (by rw [show (a4 : Int32).toInt = a4.toInt from (ti_rfl a4)]; omega) v75 (by rw [show (v75 : Int32).toInt = (a5.toInt + 1) from e76]; omega) (by rw [show (v75 : Int32).toInt = (a5.toInt + 1) from e76]; omega)) mL_X6_34 iM_X6_wireBlock sM_X6_wireBlock (hv69.sh rfl) rfl rfl rfl (Nat.le_of_ble_eq_true rfl) (show d + 0 + 5 + 1 ≤ d + 6 by omega) (show 8 + (8 + 11) + 40 * (d + 0 + 5) ≤ 40 * (d + 6) by omega) (g_c0 hv69.ln) (Nat.le_of_ble_eq_true rfl) dX6_wireStatement_275 ?_
          intro r h77 hq _
          obtain ⟨v80, rfl, v80l, v80u, hv77, f78, f79⟩ := hq
          try rw [show (v75 : Int32).toInt = (a5.toInt + 1) from e76] at f78
          try rw [show (v75 : Int32).toInt = (a5.toInt + 1) from e76] at f79
          have fx77 : FX KC0 h h77 := FX.tr fx69 f79
          have k81 := bd2_e k74 f78
          refine gi_iast (pc := 278) (lo := 0) (hi := 44) (len := 40) hv77 (ti_rfl v1) (ti_rfl v80) (by rcases hc71 with rfl | rfl <;> rfl) (by omega) (by omega) (fun _ => by rcases hc71 with rfl | rfl <;> rfl) (by omega) (by omega) (by rcases hc71 with rfl | rfl <;> decide) dX6_wireStatement_278 (fun h82 hv82 hv82e => ?_)
          have fx82 : FX KC0 h h82 := FX.pI fx77 hv82e (by unfold KC0; omega)
          have k83 := bd_e k81 (st_I hv82e (ti_rfl v80))
          refine go_iload (pc := 279) rfl dX6_wireStatement_279 ?_
          exact gi_iret (pc := 281) (ti_rfl v1) ⟨_, rfl, (by rw [show (v1 : Int32).toInt = v1.toInt from (ti_rfl v1)]; omega), (by rw [show (v1 : Int32).toInt = v1.toInt from (ti_rfl v1)]; omega), hv82, (k83.symm.trans kf), fx82⟩ hv82 dX6_wireStatement_281
      ·
        have k84 := if_f k48 (fun z => z q49)
        refine go_aload_n (pc := 174) rfl dX6_wireStatement_174 ?_
        refine gi_getC (pc := 175) hv37 fL_X6_15 rfl (Nat.le_of_ble_eq_true rfl) rfl (by decide) dX6_wireStatement_175 (fun c85 hc85 fc85 => ?_)
        have k86 := bd_e k84 (st_c fc85)
        refine gi_getF (pc := 178) (q := c85 + 13) hv37 fL_X6_71 (by rcases hc85 with rfl | rfl <;> rfl) (Nat.le_of_ble_eq_true rfl) rfl (by rcases hc85 with rfl | rfl <;> exact hv37.rf (by decide)) dX6_wireStatement_178 ?_
        refine go_iload (pc := 181) rfl dX6_wireStatement_181 ?_
        refine go_aload_n (pc := 183) rfl dX6_wireStatement_183 ?_
        refine go_aload_n (pc := 184) rfl dX6_wireStatement_184 ?_
        refine gi_getF (pc := 185) (q := 36) hv37 fL_X6_9 rfl (Nat.le_of_ble_eq_true rfl) rfl (hv37.rf (by decide)) dX6_wireStatement_185 ?_
        refine gi_getF (pc := 188) (q := 39) hv37 fL_X6_59 rfl (Nat.le_of_ble_eq_true rfl) rfl (hv37.rf (by decide)) dX6_wireStatement_188 ?_
        refine go_iload_n (pc := 191) rfl dX6_wireStatement_191 ?_
        refine gi_iald (pc := 192) (lo := -1) (hi := 127) (len := 128) hv37 (ti_rfl a2) rfl (by omega) (by omega) (fun _ => rfl) dX6_wireStatement_192 (fun v87 v87l v87u v87w => ?_)
        have k88 := bd_e k86 (congrArg Int32.toInt v87w.symm)
        refine go_iload (pc := 193) rfl dX6_wireStatement_193 ?_
        refine go_iload_n (pc := 195) rfl dX6_wireStatement_195 ?_
        refine go_iload (pc := 196) rfl dX6_wireStatement_196 ?_
        refine go_iconst (pc := 198) (v := 1) (by decide) dX6_wireStatement_198 ?_
        refine gf_iadd (pc := 199) (ti_rfl a5) (ti_c (v := 1) (a := 1) (by decide)) (by omega) (by omega) dX6_wireStatement_199 (fun v89 e90 => ?_)
        refine go_invV (pc := 200) (sl := 0) (s_X6_wireBlock_lv5_f l (d + 0) hv37 v87 (by rw [show (v87 : Int32).toInt = v87.toInt from (ti_rfl v87)]; omega) (by rw [show (v87 : Int32).toInt = v87.toInt from (ti_rfl v87)]; omega) v1 (by rw [show (v1 : Int32).toInt = v1.toInt from (ti_rfl v1)]; omega) (by rw [show (v1 : Int32).toInt = v1.toInt from (ti_rfl v1)]; omega) a4 (by rw [show (a4 : Int32).toInt = a4.toInt from (ti_rfl a4)]; omega) (by rw [show (a4 : Int32).toInt = a4.toInt from (ti_rfl a4)]; omega) v89 (by rw [show (v89 : Int32).toInt = (a5.toInt + 1) from e90]; omega) (by rw [show (v89 : Int32).toInt = (a5.toInt + 1) from e90]; omega)) mL_X6_34 iM_X6_wireBlock sM_X6_wireBlock (hv37.sh rfl) rfl rfl rfl (Nat.le_of_ble_eq_true rfl) (show d + 0 + 5 + 1 ≤ d + 6 by omega) (show 8 + (8 + 11) + 40 * (d + 0 + 5) ≤ 40 * (d + 6) by omega) (g_c0 hv37.ln) (Nat.le_of_ble_eq_true rfl) dX6_wireStatement_200 ?_
        intro r h91 hq _
        obtain ⟨v94, rfl, v94l, v94u, hv91, f92, f93⟩ := hq
        try rw [show (v89 : Int32).toInt = (a5.toInt + 1) from e90] at f92
        try rw [show (v89 : Int32).toInt = (a5.toInt + 1) from e90] at f93
        have fx91 : FX KC0 h h91 := FX.tr fx37 f93
        have k95 := bd2_e k88 f92
        refine gi_iast (pc := 203) (lo := 0) (hi := 44) (len := 40) hv91 (ti_rfl v1) (ti_rfl v94) (by rcases hc85 with rfl | rfl <;> rfl) (by omega) (by omega) (fun _ => by rcases hc85 with rfl | rfl <;> rfl) (by omega) (by omega) (by rcases hc85 with rfl | rfl <;> decide) dX6_wireStatement_203 (fun h96 hv96 hv96e => ?_)
        have fx96 : FX KC0 h h96 := FX.pI fx91 hv96e (by unfold KC0; omega)
        have k97 := bd_e k95 (st_I hv96e (ti_rfl v94))
        refine go_goto (pc := 204) (tgt := 279) (by decide) dX6_wireStatement_204 ?_
        refine go_iload (pc := 279) rfl dX6_wireStatement_279 ?_
        exact gi_iret (pc := 281) (ti_rfl v1) ⟨_, rfl, (by rw [show (v1 : Int32).toInt = v1.toInt from (ti_rfl v1)]; omega), (by rw [show (v1 : Int32).toInt = v1.toInt from (ti_rfl v1)]; omega), hv96, (k97.symm.trans kf), fx96⟩ hv96 dX6_wireStatement_281
    ·
      have k98 := if_f k42 (fun z => z q43)
      refine go_aload_n (pc := 145) rfl dX6_wireStatement_145 ?_
      refine gi_getC (pc := 146) hv37 fL_X6_15 rfl (Nat.le_of_ble_eq_true rfl) rfl (by decide) dX6_wireStatement_146 (fun c99 hc99 fc99 => ?_)
      have k100 := bd_e k98 (st_c fc99)
      refine gi_getF (pc := 149) (q := c99 + 13) hv37 fL_X6_71 (by rcases hc99 with rfl | rfl <;> rfl) (Nat.le_of_ble_eq_true rfl) rfl (by rcases hc99 with rfl | rfl <;> exact hv37.rf (by decide)) dX6_wireStatement_149 ?_
      refine go_iload (pc := 152) rfl dX6_wireStatement_152 ?_
      refine go_iload (pc := 154) rfl dX6_wireStatement_154 ?_
      refine gi_iast (pc := 156) (lo := 0) (hi := 44) (len := 40) hv37 (ti_rfl v1) e8 (by rcases hc99 with rfl | rfl <;> rfl) (by omega) (by omega) (fun _ => by rcases hc99 with rfl | rfl <;> rfl) (by omega) (by omega) (by rcases hc99 with rfl | rfl <;> decide) dX6_wireStatement_156 (fun h101 hv101 hv101e => ?_)
      have fx101 : FX KC0 h h101 := FX.pI fx37 hv101e (by unfold KC0; omega)
      have k102 := bd_e k100 (st_I hv101e e8)
      refine go_goto (pc := 157) (tgt := 279) (by decide) dX6_wireStatement_157 ?_
      refine go_iload (pc := 279) rfl dX6_wireStatement_279 ?_
      exact gi_iret (pc := 281) (ti_rfl v1) ⟨_, rfl, (by rw [show (v1 : Int32).toInt = v1.toInt from (ti_rfl v1)]; omega), (by rw [show (v1 : Int32).toInt = v1.toInt from (ti_rfl v1)]; omega), hv101, (k102.symm.trans kf), fx101⟩ hv101 dX6_wireStatement_281
  ·
    have k103 := if_f k18 (Int.not_le.mpr q19)
    refine go_iload (pc := 61) rfl dX6_wireStatement_61 ?_
    refine go_goto (pc := 63) (tgt := 75) (by decide) dX6_wireStatement_63 ?_
    refine gi_iast (pc := 75) (lo := 0) (hi := 44) (len := 40) hv15 (ti_rfl v1) e8 (by rcases hc17 with rfl | rfl <;> rfl) (by omega) (by omega) (fun _ => by rcases hc17 with rfl | rfl <;> rfl) (by omega) (by omega) (by rcases hc17 with rfl | rfl <;> decide) dX6_wireStatement_75 (fun h104 hv104 hv104e => ?_)
    have fx104 : FX KC0 h h104 := FX.pI fx15 hv104e (by unfold KC0; omega)
    have k105 := bd_e k103 (st_I hv104e e8)
    refine go_aload_n (pc := 76) rfl dX6_wireStatement_76 ?_
    refine gi_getC (pc := 77) hv104 fL_X6_15 rfl (Nat.le_of_ble_eq_true rfl) rfl (by decide) dX6_wireStatement_77 (fun c106 hc106 fc106 => ?_)
    have k107 := bd_e k105 (st_c fc106)
    refine gi_getF (pc := 80) (q := c106 + 14) hv104 fL_X6_74 (by rcases hc106 with rfl | rfl <;> rfl) (Nat.le_of_ble_eq_true rfl) rfl (by rcases hc106 with rfl | rfl <;> exact hv104.rf (by decide)) dX6_wireStatement_80 ?_
    refine go_iload (pc := 83) rfl dX6_wireStatement_83 ?_
    refine go_iload_n (pc := 85) rfl dX6_wireStatement_85 ?_
    refine gf_if_ge (pc := 86) (tgt := 93) (ti_rfl a4) (by decide) dX6_wireStatement_86 (fun q108 => False.elim (by omega)) (fun q108 => ?_)
    refine go_iconst (pc := 89) (v := (-1)) (by decide) dX6_wireStatement_89 ?_
    refine go_goto (pc := 90) (tgt := 102) (by decide) dX6_wireStatement_90 ?_
    refine gi_iast (pc := 102) (lo := -1) (hi := 5) (len := 40) hv104 (ti_rfl v1) (ti_c (v := (-1)) (a := (-1)) (by decide)) (by rcases hc106 with rfl | rfl <;> rfl) (by omega) (by omega) (fun _ => by rcases hc106 with rfl | rfl <;> rfl) (by omega) (by omega) (by rcases hc106 with rfl | rfl <;> decide) dX6_wireStatement_102 (fun h109 hv109 hv109e => ?_)
    have fx109 : FX KC0 h h109 := FX.pI fx104 hv109e (by unfold KC0; omega)
    have k110 := bd_e k107 (st_I hv109e (ti_c (v := (-1)) (a := (-1)) (by decide)))
    refine go_aload_n (pc := 103) rfl dX6_wireStatement_103 ?_
    refine gi_getC (pc := 104) hv109 fL_X6_15 rfl (Nat.le_of_ble_eq_true rfl) rfl (by decide) dX6_wireStatement_104 (fun c111 hc111 fc111 => ?_)
    have k112 := bd_e k110 (st_c fc111)
    refine gi_getF (pc := 107) (q := c111 + 15) hv109 fL_X6_80 (by rcases hc111 with rfl | rfl <;> rfl) (Nat.le_of_ble_eq_true rfl) rfl (by rcases hc111 with rfl | rfl <;> exact hv109.rf (by decide)) dX6_wireStatement_107 ?_
    refine go_iload (pc := 110) rfl dX6_wireStatement_110 ?_
    refine go_iload_n (pc := 112) rfl dX6_wireStatement_112 ?_
    refine gf_if_ge (pc := 113) (tgt := 121) (ti_rfl a4) (by decide) dX6_wireStatement_113 (fun q113 => False.elim (by omega)) (fun q113 => ?_)
    refine go_bipush (pc := 116) (v := (-2)) (by decide) dX6_wireStatement_116 ?_
    refine go_goto (pc := 118) (tgt := 130) (by decide) dX6_wireStatement_118 ?_
    refine gi_iast (pc := 130) (lo := -2) (hi := 44) (len := 40) hv109 (ti_rfl v1) (ti_c (v := (-2)) (a := (-2)) (by decide)) (by rcases hc111 with rfl | rfl <;> rfl) (by omega) (by omega) (fun _ => by rcases hc111 with rfl | rfl <;> rfl) (by omega) (by omega) (by rcases hc111 with rfl | rfl <;> decide) dX6_wireStatement_130 (fun h114 hv114 hv114e => ?_)
    have fx114 : FX KC0 h h114 := FX.pI fx109 hv114e (by unfold KC0; omega)
    have k115 := bd_e k112 (st_I hv114e (ti_c (v := (-2)) (a := (-2)) (by decide)))
    refine go_aload_n (pc := 131) rfl dX6_wireStatement_131 ?_
    refine gi_getC (pc := 132) hv114 fL_X6_15 rfl (Nat.le_of_ble_eq_true rfl) rfl (by decide) dX6_wireStatement_132 (fun c116 hc116 fc116 => ?_)
    have k117 := bd_e k115 (st_c fc116)
    refine gi_getF (pc := 135) (q := c116 + 2) hv114 fL_X6_81 (by rcases hc116 with rfl | rfl <;> rfl) (Nat.le_of_ble_eq_true rfl) rfl (by rcases hc116 with rfl | rfl <;> exact hv114.rf (by decide)) dX6_wireStatement_135 ?_
    refine go_iload (pc := 138) rfl dX6_wireStatement_138 ?_
    refine gi_iald (pc := 140) (lo := 0) (hi := 5) (len := 40) hv114 (ti_rfl v1) (by rcases hc116 with rfl | rfl <;> rfl) (by omega) (by omega) (fun _ => by rcases hc116 with rfl | rfl <;> rfl) dX6_wireStatement_140 (fun v118 v118l v118u v118w => ?_)
    have k119 := bd_e k117 (congrArg Int32.toInt v118w.symm)
    refine go_iconst (pc := 141) (v := 5) (by decide) dX6_wireStatement_141 ?_
    refine gf_icmp_ne (pc := 142) (tgt := 160) (ti_rfl v118) (ti_c (v := 5) (a := 5) (by decide)) (by decide) dX6_wireStatement_142 (fun q120 => ?_) (fun q120 => ?_)
    ·
      have k121 := if_t k119 q120
      refine go_aload_n (pc := 160) rfl dX6_wireStatement_160 ?_
      refine gi_getC (pc := 161) hv114 fL_X6_15 rfl (Nat.le_of_ble_eq_true rfl) rfl (by decide) dX6_wireStatement_161 (fun c122 hc122 fc122 => ?_)
      have k123 := bd_e k121 (st_c fc122)
      refine gi_getF (pc := 164) (q := c122 + 2) hv114 fL_X6_81 (by rcases hc122 with rfl | rfl <;> rfl) (Nat.le_of_ble_eq_true rfl) rfl (by rcases hc122 with rfl | rfl <;> exact hv114.rf (by decide)) dX6_wireStatement_164 ?_
      refine go_iload (pc := 167) rfl dX6_wireStatement_167 ?_
      refine gi_iald (pc := 169) (lo := 0) (hi := 5) (len := 40) hv114 (ti_rfl v1) (by rcases hc122 with rfl | rfl <;> rfl) (by omega) (by omega) (fun _ => by rcases hc122 with rfl | rfl <;> rfl) dX6_wireStatement_169 (fun v124 v124l v124u v124w => ?_)
      have k125 := bd_e k123 (congrArg Int32.toInt v124w.symm)
      refine go_iconst (pc := 170) (v := 3) (by decide) dX6_wireStatement_170 ?_
      refine gf_icmp_ne (pc := 171) (tgt := 207) (ti_rfl v124) (ti_c (v := 3) (a := 3) (by decide)) (by decide) dX6_wireStatement_171 (fun q126 => ?_) (fun q126 => ?_)
      ·
        have k127 := if_t k125 q126
        refine go_aload_n (pc := 207) rfl dX6_wireStatement_207 ?_
        refine gi_getC (pc := 208) hv114 fL_X6_15 rfl (Nat.le_of_ble_eq_true rfl) rfl (by decide) dX6_wireStatement_208 (fun c128 hc128 fc128 => ?_)
        have k129 := bd_e k127 (st_c fc128)
        refine gi_getF (pc := 211) (q := c128 + 2) hv114 fL_X6_81 (by rcases hc128 with rfl | rfl <;> rfl) (Nat.le_of_ble_eq_true rfl) rfl (by rcases hc128 with rfl | rfl <;> exact hv114.rf (by decide)) dX6_wireStatement_211 ?_
        refine go_iload (pc := 214) rfl dX6_wireStatement_214 ?_
        refine gi_iald (pc := 216) (lo := 0) (hi := 5) (len := 40) hv114 (ti_rfl v1) (by rcases hc128 with rfl | rfl <;> rfl) (by omega) (by omega) (fun _ => by rcases hc128 with rfl | rfl <;> rfl) dX6_wireStatement_216 (fun v130 v130l v130u v130w => ?_)
        have k131 := bd_e k129 (congrArg Int32.toInt v130w.symm)
        refine go_iconst (pc := 217) (v := 2) (by decide) dX6_wireStatement_217 ?_
        refine gf_icmp_ne (pc := 218) (tgt := 279) (ti_rfl v130) (ti_c (v := 2) (a := 2) (by decide)) (by decide) dX6_wireStatement_218 (fun q132 => ?_) (fun q132 => ?_)
        ·
          have k133 := if_t k131 q132
          refine go_iload (pc := 279) rfl dX6_wireStatement_279 ?_
          exact gi_iret (pc := 281) (ti_rfl v1) ⟨_, rfl, (by rw [show (v1 : Int32).toInt = v1.toInt from (ti_rfl v1)]; omega), (by rw [show (v1 : Int32).toInt = v1.toInt from (ti_rfl v1)]; omega), hv114, (k133.symm.trans kf), fx114⟩ hv114 dX6_wireStatement_281
        ·
          have k134 := if_f k131 (fun z => z q132)
          refine go_aload_n (pc := 221) rfl dX6_wireStatement_221 ?_
          refine gi_getC (pc := 222) hv114 fL_X6_15 rfl (Nat.le_of_ble_eq_true rfl) rfl (by decide) dX6_wireStatement_222 (fun c135 hc135 fc135 => ?_)
          have k136 := bd_e k134 (st_c fc135)
          refine gi_getF (pc := 225) (q := c135 + 13) hv114 fL_X6_71 (by rcases hc135 with rfl | rfl <;> rfl) (Nat.le_of_ble_eq_true rfl) rfl (by rcases hc135 with rfl | rfl <;> exact hv114.rf (by decide)) dX6_wireStatement_225 ?_
          refine go_iload (pc := 228) rfl dX6_wireStatement_228 ?_
          refine go_aload_n (pc := 230) rfl dX6_wireStatement_230 ?_
          refine go_aload_n (pc := 231) rfl dX6_wireStatement_231 ?_
          refine gi_getF (pc := 232) (q := 36) hv114 fL_X6_9 rfl (Nat.le_of_ble_eq_true rfl) rfl (hv114.rf (by decide)) dX6_wireStatement_232 ?_
          refine gi_getF (pc := 235) (q := 39) hv114 fL_X6_59 rfl (Nat.le_of_ble_eq_true rfl) rfl (hv114.rf (by decide)) dX6_wireStatement_235 ?_
          refine go_iload_n (pc := 238) rfl dX6_wireStatement_238 ?_
          refine gi_iald (pc := 239) (lo := -1) (hi := 127) (len := 128) hv114 (ti_rfl a2) rfl (by omega) (by omega) (fun _ => rfl) dX6_wireStatement_239 (fun v137 v137l v137u v137w => ?_)
          have k138 := bd_e k136 (congrArg Int32.toInt v137w.symm)
          refine go_iload_n (pc := 240) rfl dX6_wireStatement_240 ?_
          refine go_iload_n (pc := 241) rfl dX6_wireStatement_241 ?_
          refine go_iload (pc := 242) rfl dX6_wireStatement_242 ?_
          refine go_iconst (pc := 244) (v := 1) (by decide) dX6_wireStatement_244 ?_
          refine gf_iadd (pc := 245) (ti_rfl a5) (ti_c (v := 1) (a := 1) (by decide)) (by omega) (by omega) dX6_wireStatement_245 (fun v139 e140 => ?_)
          refine go_invV (pc := 246) (sl := 0) (s_X6_wireBlock_lv5_f l (d + 0) hv114 v137 (by rw [show (v137 : Int32).toInt = v137.toInt from (ti_rfl v137)]; omega) (by rw [show (v137 : Int32).toInt = v137.toInt from (ti_rfl v137)]; omega) a3 (by rw [show (a3 : Int32).toInt = a3.toInt from (ti_rfl a3)]; omega) (by rw [show (a3 : Int32).toInt = a3.toInt from (ti_rfl a3)]; omega) a4 (by rw [show (a4 : Int32).toInt = a4.toInt from (ti_rfl a4)]; omega) (by rw [show (a4 : Int32).toInt = a4.toInt from (ti_rfl a4)]; omega) v139 (by rw [show (v139 : Int32).toInt = (a5.toInt + 1) from e140]; omega) (by rw [show (v139 : Int32).toInt = (a5.toInt + 1) from e140]; omega)) mL_X6_34 iM_X6_wireBlock sM_X6_wireBlock (hv114.sh rfl) rfl rfl rfl (Nat.le_of_ble_eq_true rfl) (show d + 0 + 5 + 1 ≤ d + 6 by omega) (show 8 + (8 + 11) + 40 * (d + 0 + 5) ≤ 40 * (d + 6) by omega) (g_c0 hv114.ln) (Nat.le_of_ble_eq_true rfl) dX6_wireStatement_246 ?_
          intro r h141 hq _
          obtain ⟨v144, rfl, v144l, v144u, hv141, f142, f143⟩ := hq
          try rw [show (v139 : Int32).toInt = (a5.toInt + 1) from e140] at f142
          try rw [show (v139 : Int32).toInt = (a5.toInt + 1) from e140] at f143
          have fx141 : FX KC0 h h141 := FX.tr fx114 f143
          have k145 := bd2_e k138 f142
          refine gi_iast (pc := 249) (lo := 0) (hi := 44) (len := 40) hv141 (ti_rfl v1) (ti_rfl v144) (by rcases hc135 with rfl | rfl <;> rfl) (by omega) (by omega) (fun _ => by rcases hc135 with rfl | rfl <;> rfl) (by omega) (by omega) (by rcases hc135 with rfl | rfl <;> decide) dX6_wireStatement_249 (fun h146 hv146 hv146e => ?_)
          have fx146 : FX KC0 h h146 := FX.pI fx141 hv146e (by unfold KC0; omega)
          have k147 := bd_e k145 (st_I hv146e (ti_rfl v144))
          refine go_aload_n (pc := 250) rfl dX6_wireStatement_250 ?_
          refine gi_getC (pc := 251) hv146 fL_X6_15 rfl (Nat.le_of_ble_eq_true rfl) rfl (by decide) dX6_wireStatement_251 (fun c148 hc148 fc148 => ?_)
          have k149 := bd_e k147 (st_c fc148)
          refine gi_getF (pc := 254) (q := c148 + 12) hv146 fL_X6_68 (by rcases hc148 with rfl | rfl <;> rfl) (Nat.le_of_ble_eq_true rfl) rfl (by rcases hc148 with rfl | rfl <;> exact hv146.rf (by decide)) dX6_wireStatement_254 ?_
          refine go_iload (pc := 257) rfl dX6_wireStatement_257 ?_
          refine go_aload_n (pc := 259) rfl dX6_wireStatement_259 ?_
          refine go_aload_n (pc := 260) rfl dX6_wireStatement_260 ?_
          refine gi_getF (pc := 261) (q := 36) hv146 fL_X6_9 rfl (Nat.le_of_ble_eq_true rfl) rfl (hv146.rf (by decide)) dX6_wireStatement_261 ?_
          refine gi_getF (pc := 264) (q := 40) hv146 fL_X6_50 rfl (Nat.le_of_ble_eq_true rfl) rfl (hv146.rf (by decide)) dX6_wireStatement_264 ?_
          refine go_iload_n (pc := 267) rfl dX6_wireStatement_267 ?_
          refine gi_iald (pc := 268) (lo := -1) (hi := 127) (len := 128) hv146 (ti_rfl a2) rfl (by omega) (by omega) (fun _ => rfl) dX6_wireStatement_268 (fun v150 v150l v150u v150w => ?_)
          have k151 := bd_e k149 (congrArg Int32.toInt v150w.symm)
          refine go_iload_n (pc := 269) rfl dX6_wireStatement_269 ?_
          refine go_iload_n (pc := 270) rfl dX6_wireStatement_270 ?_
          refine go_iload (pc := 271) rfl dX6_wireStatement_271 ?_
          refine go_iconst (pc := 273) (v := 1) (by decide) dX6_wireStatement_273 ?_
          refine gf_iadd (pc := 274) (ti_rfl a5) (ti_c (v := 1) (a := 1) (by decide)) (by omega) (by omega) dX6_wireStatement_274 (fun v152 e153 => ?_)
          refine go_invV (pc := 275) (sl := 0) (s_X6_wireBlock_lv5_f l (d + 0) hv146 v150 (by rw [show (v150 : Int32).toInt = v150.toInt from (ti_rfl v150)]; omega) (by rw [show (v150 : Int32).toInt = v150.toInt from (ti_rfl v150)]; omega) a3 (by rw [show (a3 : Int32).toInt = a3.toInt from (ti_rfl a3)]; omega) (by rw [show (a3 : Int32).toInt = a3.toInt from (ti_rfl a3)]; omega) a4 (by rw [show (a4 : Int32).toInt = a4.toInt from (ti_rfl a4)]; omega) (by rw [show (a4 : Int32).toInt = a4.toInt from (ti_rfl a4)]; omega) v152 (by rw [show (v152 : Int32).toInt = (a5.toInt + 1) from e153]; omega) (by rw [show (v152 : Int32).toInt = (a5.toInt + 1) from e153]; omega)) mL_X6_34 iM_X6_wireBlock sM_X6_wireBlock (hv146.sh rfl) rfl rfl rfl (Nat.le_of_ble_eq_true rfl) (show d + 0 + 5 + 1 ≤ d + 6 by omega) (show 8 + (8 + 11) + 40 * (d + 0 + 5) ≤ 40 * (d + 6) by omega) (g_c0 hv146.ln) (Nat.le_of_ble_eq_true rfl) dX6_wireStatement_275 ?_
          intro r h154 hq _
          obtain ⟨v157, rfl, v157l, v157u, hv154, f155, f156⟩ := hq
          try rw [show (v152 : Int32).toInt = (a5.toInt + 1) from e153] at f155
          try rw [show (v152 : Int32).toInt = (a5.toInt + 1) from e153] at f156
          have fx154 : FX KC0 h h154 := FX.tr fx146 f156
          have k158 := bd2_e k151 f155
          refine gi_iast (pc := 278) (lo := 0) (hi := 44) (len := 40) hv154 (ti_rfl v1) (ti_rfl v157) (by rcases hc148 with rfl | rfl <;> rfl) (by omega) (by omega) (fun _ => by rcases hc148 with rfl | rfl <;> rfl) (by omega) (by omega) (by rcases hc148 with rfl | rfl <;> decide) dX6_wireStatement_278 (fun h159 hv159 hv159e => ?_)
          have fx159 : FX KC0 h h159 := FX.pI fx154 hv159e (by unfold KC0; omega)
          have k160 := bd_e k158 (st_I hv159e (ti_rfl v157))
          refine go_iload (pc := 279) rfl dX6_wireStatement_279 ?_
          exact gi_iret (pc := 281) (ti_rfl v1) ⟨_, rfl, (by rw [show (v1 : Int32).toInt = v1.toInt from (ti_rfl v1)]; omega), (by rw [show (v1 : Int32).toInt = v1.toInt from (ti_rfl v1)]; omega), hv159, (k160.symm.trans kf), fx159⟩ hv159 dX6_wireStatement_281
      ·
        have k161 := if_f k125 (fun z => z q126)
        refine go_aload_n (pc := 174) rfl dX6_wireStatement_174 ?_
        refine gi_getC (pc := 175) hv114 fL_X6_15 rfl (Nat.le_of_ble_eq_true rfl) rfl (by decide) dX6_wireStatement_175 (fun c162 hc162 fc162 => ?_)
        have k163 := bd_e k161 (st_c fc162)
        refine gi_getF (pc := 178) (q := c162 + 13) hv114 fL_X6_71 (by rcases hc162 with rfl | rfl <;> rfl) (Nat.le_of_ble_eq_true rfl) rfl (by rcases hc162 with rfl | rfl <;> exact hv114.rf (by decide)) dX6_wireStatement_178 ?_
        refine go_iload (pc := 181) rfl dX6_wireStatement_181 ?_
        refine go_aload_n (pc := 183) rfl dX6_wireStatement_183 ?_
        refine go_aload_n (pc := 184) rfl dX6_wireStatement_184 ?_
        refine gi_getF (pc := 185) (q := 36) hv114 fL_X6_9 rfl (Nat.le_of_ble_eq_true rfl) rfl (hv114.rf (by decide)) dX6_wireStatement_185 ?_
        refine gi_getF (pc := 188) (q := 39) hv114 fL_X6_59 rfl (Nat.le_of_ble_eq_true rfl) rfl (hv114.rf (by decide)) dX6_wireStatement_188 ?_
        refine go_iload_n (pc := 191) rfl dX6_wireStatement_191 ?_
        refine gi_iald (pc := 192) (lo := -1) (hi := 127) (len := 128) hv114 (ti_rfl a2) rfl (by omega) (by omega) (fun _ => rfl) dX6_wireStatement_192 (fun v164 v164l v164u v164w => ?_)
        have k165 := bd_e k163 (congrArg Int32.toInt v164w.symm)
        refine go_iload (pc := 193) rfl dX6_wireStatement_193 ?_
        refine go_iload_n (pc := 195) rfl dX6_wireStatement_195 ?_
        refine go_iload (pc := 196) rfl dX6_wireStatement_196 ?_
        refine go_iconst (pc := 198) (v := 1) (by decide) dX6_wireStatement_198 ?_
        refine gf_iadd (pc := 199) (ti_rfl a5) (ti_c (v := 1) (a := 1) (by decide)) (by omega) (by omega) dX6_wireStatement_199 (fun v166 e167 => ?_)
        refine go_invV (pc := 200) (sl := 0) (s_X6_wireBlock_lv5_f l (d + 0) hv114 v164 (by rw [show (v164 : Int32).toInt = v164.toInt from (ti_rfl v164)]; omega) (by rw [show (v164 : Int32).toInt = v164.toInt from (ti_rfl v164)]; omega) v1 (by rw [show (v1 : Int32).toInt = v1.toInt from (ti_rfl v1)]; omega) (by rw [show (v1 : Int32).toInt = v1.toInt from (ti_rfl v1)]; omega) a4 (by rw [show (a4 : Int32).toInt = a4.toInt from (ti_rfl a4)]; omega) (by rw [show (a4 : Int32).toInt = a4.toInt from (ti_rfl a4)]; omega) v166 (by rw [show (v166 : Int32).toInt = (a5.toInt + 1) from e167]; omega) (by rw [show (v166 : Int32).toInt = (a5.toInt + 1) from e167]; omega)) mL_X6_34 iM_X6_wireBlock sM_X6_wireBlock (hv114.sh rfl) rfl rfl rfl (Nat.le_of_ble_eq_true rfl) (show d + 0 + 5 + 1 ≤ d + 6 by omega) (show 8 + (8 + 11) + 40 * (d + 0 + 5) ≤ 40 * (d + 6) by omega) (g_c0 hv114.ln) (Nat.le_of_ble_eq_true rfl) dX6_wireStatement_200 ?_
        intro r h168 hq _
        obtain ⟨v171, rfl, v171l, v171u, hv168, f169, f170⟩ := hq
        try rw [show (v166 : Int32).toInt = (a5.toInt + 1) from e167] at f169
        try rw [show (v166 : Int32).toInt = (a5.toInt + 1) from e167] at f170
        have fx168 : FX KC0 h h168 := FX.tr fx114 f170
        have k172 := bd2_e k165 f169
        refine gi_iast (pc := 203) (lo := 0) (hi := 44) (len := 40) hv168 (ti_rfl v1) (ti_rfl v171) (by rcases hc162 with rfl | rfl <;> rfl) (by omega) (by omega) (fun _ => by rcases hc162 with rfl | rfl <;> rfl) (by omega) (by omega) (by rcases hc162 with rfl | rfl <;> decide) dX6_wireStatement_203 (fun h173 hv173 hv173e => ?_)
        have fx173 : FX KC0 h h173 := FX.pI fx168 hv173e (by unfold KC0; omega)
        have k174 := bd_e k172 (st_I hv173e (ti_rfl v171))
        refine go_goto (pc := 204) (tgt := 279) (by decide) dX6_wireStatement_204 ?_
        refine go_iload (pc := 279) rfl dX6_wireStatement_279 ?_
        exact gi_iret (pc := 281) (ti_rfl v1) ⟨_, rfl, (by rw [show (v1 : Int32).toInt = v1.toInt from (ti_rfl v1)]; omega), (by rw [show (v1 : Int32).toInt = v1.toInt from (ti_rfl v1)]; omega), hv173, (k174.symm.trans kf), fx173⟩ hv173 dX6_wireStatement_281
    ·
      have k175 := if_f k119 (fun z => z q120)
      refine go_aload_n (pc := 145) rfl dX6_wireStatement_145 ?_
      refine gi_getC (pc := 146) hv114 fL_X6_15 rfl (Nat.le_of_ble_eq_true rfl) rfl (by decide) dX6_wireStatement_146 (fun c176 hc176 fc176 => ?_)
      have k177 := bd_e k175 (st_c fc176)
      refine gi_getF (pc := 149) (q := c176 + 13) hv114 fL_X6_71 (by rcases hc176 with rfl | rfl <;> rfl) (Nat.le_of_ble_eq_true rfl) rfl (by rcases hc176 with rfl | rfl <;> exact hv114.rf (by decide)) dX6_wireStatement_149 ?_
      refine go_iload (pc := 152) rfl dX6_wireStatement_152 ?_
      refine go_iload (pc := 154) rfl dX6_wireStatement_154 ?_
      refine gi_iast (pc := 156) (lo := 0) (hi := 44) (len := 40) hv114 (ti_rfl v1) e8 (by rcases hc176 with rfl | rfl <;> rfl) (by omega) (by omega) (fun _ => by rcases hc176 with rfl | rfl <;> rfl) (by omega) (by omega) (by rcases hc176 with rfl | rfl <;> decide) dX6_wireStatement_156 (fun h178 hv178 hv178e => ?_)
      have fx178 : FX KC0 h h178 := FX.pI fx114 hv178e (by unfold KC0; omega)
      have k179 := bd_e k177 (st_I hv178e e8)
      refine go_goto (pc := 157) (tgt := 279) (by decide) dX6_wireStatement_157 ?_
      refine go_iload (pc := 279) rfl dX6_wireStatement_279 ?_
      exact gi_iret (pc := 281) (ti_rfl v1) ⟨_, rfl, (by rw [show (v1 : Int32).toInt = v1.toInt from (ti_rfl v1)]; omega), (by rw [show (v1 : Int32).toInt = v1.toInt from (ti_rfl v1)]; omega), hv178, (k179.symm.trans kf), fx178⟩ hv178 dX6_wireStatement_281
def f_X6_wireBlock_lv4_ : Nat → Nat → Int → Int → Int → Int → Int → ST → ST × Int
  | 0, _, _, _, _, _, _, sx => (sx, 0)
  | n + 1, _, l3, l4, l5, l6, l7, sx => if 128 ≤ l7 then ((sx, l5)) else (if l6 < 0 then ((sx, l5)) else (bd (sx.1 37 (l6).toNat) fun v7 => if ¬ v7 = (-1) then (bd2 (f_X6_wireStatement_lv4 sx l6 l5 l3 l4) fun s11 v14 => bd (s11.1 38 (l6).toNat) fun v16 => f_X6_wireBlock_lv4_ n 20 l3 l4 v14 v16 ((l7 + 1)) s11) else (bd2 (f_X6_wireTry_lv4 sx l6 l5 l3 l4) fun s22 v25 => bd (s22.1 38 (l6).toNat) fun v27 => f_X6_wireBlock_lv4_ n 20 l3 l4 v25 v27 ((l7 + 1)) s22)))
def f_X6_wireBlock_lv4 (s : ST) (a2 : Int) (a3 : Int) (a4 : Int) (a5 : Int) : ST × Int :=
  f_X6_wireBlock_lv4_ 403 20 a4 a5 a3 a2 0 s
set_option maxHeartbeats 4000000 in
set_option maxRecDepth 100000 in
theorem s_X6_wireBlock_lv4_f (l : Launch) (d : Nat) {P : PP} {h : HP} (hv : Iv P h) (a2 : Int32) (a2l : -1 ≤ a2.toInt) (a2u : a2.toInt ≤ 127) (a3 : Int32) (a3l : 0 ≤ a3.toInt) (a3u : a3.toInt ≤ 44) (a4 : Int32) (a4l : -1 ≤ a4.toInt) (a4u : a4.toInt ≤ 127) (a5 : Int32) (a5l : 4 ≤ a5.toInt) (a5u : a5.toInt ≤ 4) : Mt l yX6_wireBlock cX6_wireBlock 8 (some .int) (d + 7) [.ref 48, .int a2, .int a3, .int a4, .int a5] h 0 0 (fun r h' => ∃ v : Int32, r = some (.int v) ∧ 0 ≤ v.toInt ∧ v.toInt ≤ 44 ∧ Iv P h' ∧ ((st h', v.toInt) = f_X6_wireBlock_lv4 (st h) a2.toInt a3.toInt a4.toInt a5.toInt) ∧ (FX KC0 h h')) := by
  refine Mt_iv hv (by decide) (Nat.le_of_ble_eq_true rfl) ?_
  show Go l RX6 cX6_wireBlock 8 (g_rm (d + 7) 0 0) "wireBlock" (some .int) 117 0 0 (fun _ _ => True) (fun r h' => ∃ v : Int32, r = some (.int v) ∧ 0 ≤ v.toInt ∧ v.toInt ≤ 44 ∧ Iv P h' ∧ ((st h', v.toInt) = f_X6_wireBlock_lv4 (st h) a2.toInt a3.toInt a4.toInt a5.toInt) ∧ (FX KC0 h h')) 0 0 [(0, .ref 48), (1, .int a2), (2, .int a3), (3, .int a4), (4, .int a5)] [] h
  have fx : FX KC0 h h := FX.rfl
  obtain ⟨fin, kf⟩ : ∃ z, z = f_X6_wireBlock_lv4 (st h) a2.toInt a3.toInt a4.toInt a5.toInt := ⟨_, _root_.rfl⟩
  have k0 := kf
  unfold f_X6_wireBlock_lv4 at k0
  have key : ∀ n : Nat, (∀ (l3 : Int32) (l4 : Int32) (l5 : Int32) (l6 : Int32) (l7 : Int32) (hx : HP), Iv P hx → -1 ≤ l3.toInt → l3.toInt ≤ 127 → 4 ≤ l4.toInt → l4.toInt ≤ 4 → 0 ≤ l5.toInt → l5.toInt ≤ 44 → -1 ≤ l6.toInt → l6.toInt ≤ 127 → 0 ≤ l7.toInt → l7.toInt ≤ 128 → FX KC0 h hx → fin = f_X6_wireBlock_lv4_ n 20 l3.toInt l4.toInt l5.toInt l6.toInt l7.toInt (st hx) → (3 * (128 - l7.toInt) + 2 : Int) < n → Go l RX6 cX6_wireBlock 8 (g_rm (d + 7) 0 0) "wireBlock" (some .int) 117 0 0 (fun _ _ => True) (fun r h' => ∃ v : Int32, r = some (.int v) ∧ 0 ≤ v.toInt ∧ v.toInt ≤ 44 ∧ Iv P h' ∧ ((st h', v.toInt) = f_X6_wireBlock_lv4 (st h) a2.toInt a3.toInt a4.toInt a5.toInt) ∧ (FX KC0 h h')) 0 20 [(0, .ref 48), (3, .int l3), (4, .int l4), (5, .int l5), (6, .int l6), (7, .int l7)] [] hx) := by
    intro n
    induction n with
    | zero => exact (by intros; omega)
    | succ n ih =>
      refine ?_
      ·
        intro l3 l4 l5 l6 l7 hx hvx l3l l3u l4l l4u l5l l5u l6l l6u l7l l7u fxx kL hm
        rw [f_X6_wireBlock_lv4_] at kL
        refine go_iload (pc := 20) rfl dX6_wireBlock_20 ?_
        refine go_sipush (pc := 22) (v := 128) (by decide) dX6_wireBlock_22 ?_
        refine gf_icmp_ge (pc := 25) (tgt := 94) (ti_rfl l7) (ti_c (v := 128) (a := 128) (by decide)) (by decide) dX6_wireBlock_25 (fun q1 => ?_) (fun q1 => ?_)
        ·
          have k2 := if_t kL q1
          refine go_iload (pc := 94) rfl dX6_wireBlock_94 ?_
          exact gi_iret (pc := 96) (ti_rfl l5) ⟨_, rfl, (by rw [show (l5 : Int32).toInt = l5.toInt from (ti_rfl l5)]; omega), (by rw [show (l5 : Int32).toInt = l5.toInt from (ti_rfl l5)]; omega), hvx, (k2.symm.trans kf), fxx⟩ hvx dX6_wireBlock_96
        ·
          have k3 := if_f kL (Int.not_le.mpr q1)
          refine go_iload (pc := 28) rfl dX6_wireBlock_28 ?_
          refine gf_if_lt (pc := 30) (tgt := 94) (ti_rfl l6) (by decide) dX6_wireBlock_30 (fun q4 => ?_) (fun q4 => ?_)
          ·
            have k5 := if_t k3 q4
            refine go_iload (pc := 94) rfl dX6_wireBlock_94 ?_
            exact gi_iret (pc := 96) (ti_rfl l5) ⟨_, rfl, (by rw [show (l5 : Int32).toInt = l5.toInt from (ti_rfl l5)]; omega), (by rw [show (l5 : Int32).toInt = l5.toInt from (ti_rfl l5)]; omega), hvx, (k5.symm.trans kf), fxx⟩ hvx dX6_wireBlock_96
          ·
            have k6 := if_f k3 (Int.not_lt.mpr q4)
            refine go_aload_n (pc := 33) rfl dX6_wireBlock_33 ?_
            refine gi_getF (pc := 34) (q := 36) hvx fL_X6_9 rfl (Nat.le_of_ble_eq_true rfl) rfl (hvx.rf (by decide)) dX6_wireBlock_34 ?_
            refine gi_getF (pc := 37) (q := 37) hvx fL_X6_38 rfl (Nat.le_of_ble_eq_true rfl) rfl (hvx.rf (by decide)) dX6_wireBlock_37 ?_
            refine go_iload (pc := 40) rfl dX6_wireBlock_40 ?_
            refine gi_iald (pc := 42) (lo := -1) (hi := 39) (len := 128) hvx (ti_rfl l6) rfl (by omega) (by omega) (fun _ => rfl) dX6_wireBlock_42 (fun v7 v7l v7u v7w => ?_)
            have k8 := bd_e k6 (congrArg Int32.toInt v7w.symm)
            refine go_iconst (pc := 43) (v := (-1)) (by decide) dX6_wireBlock_43 ?_
            refine gf_icmp_ne (pc := 44) (tgt := 63) (ti_rfl v7) (ti_c (v := (-1)) (a := (-1)) (by decide)) (by decide) dX6_wireBlock_44 (fun q9 => ?_) (fun q9 => ?_)
            ·
              have k10 := if_t k8 q9
              refine go_aload_n (pc := 63) rfl dX6_wireBlock_63 ?_
              refine go_iload (pc := 64) rfl dX6_wireBlock_64 ?_
              refine go_iload (pc := 66) rfl dX6_wireBlock_66 ?_
              refine go_iload_n (pc := 68) rfl dX6_wireBlock_68 ?_
              refine go_iload (pc := 69) rfl dX6_wireBlock_69 ?_
              refine go_invV (pc := 71) (sl := 0) (s_X6_wireStatement_lv4_f l (d + 0) hvx l6 (by rw [show (l6 : Int32).toInt = l6.toInt from (ti_rfl l6)]; omega) (by rw [show (l6 : Int32).toInt = l6.toInt from (ti_rfl l6)]; omega) l5 (by rw [show (l5 : Int32).toInt = l5.toInt from (ti_rfl l5)]; omega) (by rw [show (l5 : Int32).toInt = l5.toInt from (ti_rfl l5)]; omega) l3 (by rw [show (l3 : Int32).toInt = l3.toInt from (ti_rfl l3)]; omega) (by rw [show (l3 : Int32).toInt = l3.toInt from (ti_rfl l3)]; omega) l4 (by rw [show (l4 : Int32).toInt = l4.toInt from (ti_rfl l4)]; omega) (by rw [show (l4 : Int32).toInt = l4.toInt from (ti_rfl l4)]; omega) (by rw [← v7w]; omega)) mL_X6_44 iM_X6_wireStatement sM_X6_wireStatement (hvx.sh rfl) rfl rfl rfl (Nat.le_of_ble_eq_true rfl) (show d + 0 + 6 + 1 ≤ d + 7 by omega) (show 8 + (7 + 11) + 40 * (d + 0 + 6) ≤ 40 * (d + 7) by omega) (g_c0 hvx.ln) (Nat.le_of_ble_eq_true rfl) dX6_wireBlock_71 ?_
              intro r h11 hq _
              obtain ⟨v14, rfl, v14l, v14u, hv11, f12, f13⟩ := hq
              have fx11 : FX KC0 h h11 := FX.tr fxx f13
              have k15 := bd2_e k10 f12
              refine go_istore (pc := 74) (Nat.le_of_ble_eq_true rfl) dX6_wireBlock_74 (go_lv (lv2 := [(0, .ref 48), (3, .int l3), (4, .int l4), (5, .int v14), (6, .int l6), (7, .int l7)]) rfl ?_)
              refine go_aload_n (pc := 76) rfl dX6_wireBlock_76 ?_
              refine gi_getF (pc := 77) (q := 36) hv11 fL_X6_9 rfl (Nat.le_of_ble_eq_true rfl) rfl (hv11.rf (by decide)) dX6_wireBlock_77 ?_
              refine gi_getF (pc := 80) (q := 38) hv11 fL_X6_47 rfl (Nat.le_of_ble_eq_true rfl) rfl (hv11.rf (by decide)) dX6_wireBlock_80 ?_
              refine go_iload (pc := 83) rfl dX6_wireBlock_83 ?_
              refine gi_iald (pc := 85) (lo := -1) (hi := 127) (len := 128) hv11 (ti_rfl l6) rfl (by omega) (by omega) (fun _ => rfl) dX6_wireBlock_85 (fun v16 v16l v16u v16w => ?_)
              have k17 := bd_e k15 (congrArg Int32.toInt v16w.symm)
              refine go_istore (pc := 86) (Nat.le_of_ble_eq_true rfl) dX6_wireBlock_86 (go_lv (lv2 := [(0, .ref 48), (3, .int l3), (4, .int l4), (5, .int v14), (6, .int v16), (7, .int l7)]) rfl ?_)
              refine gf_iinc (pc := 88) (Nat.le_of_ble_eq_true rfl) rfl (ti_rfl l7) (ti_c (by decide)) (by omega) (by omega) dX6_wireBlock_88 (fun v18 e19 => ?_)
              refine go_lv (lv2 := [(0, .ref 48), (3, .int l3), (4, .int l4), (5, .int v14), (6, .int v16), (7, .int v18)]) rfl ?_
              refine go_goto (pc := 91) (tgt := 20) (by decide) dX6_wireBlock_91 ?_
              have z20 : (v18 : Int32).toInt = (l7.toInt + 1) := e19
              exact go_lv rfl (ih l3 l4 v14 v16 v18 h11 hv11 (by omega) (by omega) (by omega) (by omega) (by omega) (by omega) (by omega) (by omega) (by omega) (by omega) fx11 (by rw [show (v18 : Int32).toInt = (l7.toInt + 1) from e19]; exact k17) (by omega))
            ·
              have k21 := if_f k8 (fun z => z q9)
              refine go_aload_n (pc := 47) rfl dX6_wireBlock_47 ?_
              refine go_iload (pc := 48) rfl dX6_wireBlock_48 ?_
              refine go_iload (pc := 50) rfl dX6_wireBlock_50 ?_
              refine go_iload_n (pc := 52) rfl dX6_wireBlock_52 ?_
              refine go_iload (pc := 53) rfl dX6_wireBlock_53 ?_
              refine go_invV (pc := 55) (sl := 0) (s_X6_wireTry_lv4_f l (d + 0) hvx l6 (by rw [show (l6 : Int32).toInt = l6.toInt from (ti_rfl l6)]; omega) (by rw [show (l6 : Int32).toInt = l6.toInt from (ti_rfl l6)]; omega) l5 (by rw [show (l5 : Int32).toInt = l5.toInt from (ti_rfl l5)]; omega) (by rw [show (l5 : Int32).toInt = l5.toInt from (ti_rfl l5)]; omega) l3 (by rw [show (l3 : Int32).toInt = l3.toInt from (ti_rfl l3)]; omega) (by rw [show (l3 : Int32).toInt = l3.toInt from (ti_rfl l3)]; omega) l4 (by rw [show (l4 : Int32).toInt = l4.toInt from (ti_rfl l4)]; omega) (by rw [show (l4 : Int32).toInt = l4.toInt from (ti_rfl l4)]; omega)) mL_X6_41 iM_X6_wireTry sM_X6_wireTry (hvx.sh rfl) rfl rfl rfl (Nat.le_of_ble_eq_true rfl) (show d + 0 + 6 + 1 ≤ d + 7 by omega) (show 8 + (6 + 11) + 40 * (d + 0 + 6) ≤ 40 * (d + 7) by omega) (g_c0 hvx.ln) (Nat.le_of_ble_eq_true rfl) dX6_wireBlock_55 ?_
              intro r h22 hq _
              obtain ⟨v25, rfl, v25l, v25u, hv22, f23, f24⟩ := hq
              have fx22 : FX KC0 h h22 := FX.tr fxx f24
              have k26 := bd2_e k21 f23
              refine go_istore (pc := 58) (Nat.le_of_ble_eq_true rfl) dX6_wireBlock_58 (go_lv (lv2 := [(0, .ref 48), (3, .int l3), (4, .int l4), (5, .int v25), (6, .int l6), (7, .int l7)]) rfl ?_)
              refine go_goto (pc := 60) (tgt := 76) (by decide) dX6_wireBlock_60 ?_
              refine go_aload_n (pc := 76) rfl dX6_wireBlock_76 ?_
              refine gi_getF (pc := 77) (q := 36) hv22 fL_X6_9 rfl (Nat.le_of_ble_eq_true rfl) rfl (hv22.rf (by decide)) dX6_wireBlock_77 ?_
              refine gi_getF (pc := 80) (q := 38) hv22 fL_X6_47 rfl (Nat.le_of_ble_eq_true rfl) rfl (hv22.rf (by decide)) dX6_wireBlock_80 ?_
              refine go_iload (pc := 83) rfl dX6_wireBlock_83 ?_
              refine gi_iald (pc := 85) (lo := -1) (hi := 127) (len := 128) hv22 (ti_rfl l6) rfl (by omega) (by omega) (fun _ => rfl) dX6_wireBlock_85 (fun v27 v27l v27u v27w => ?_)
              have k28 := bd_e k26 (congrArg Int32.toInt v27w.symm)
              refine go_istore (pc := 86) (Nat.le_of_ble_eq_true rfl) dX6_wireBlock_86 (go_lv (lv2 := [(0, .ref 48), (3, .int l3), (4, .int l4), (5, .int v25), (6, .int v27), (7, .int l7)]) rfl ?_)
              refine gf_iinc (pc := 88) (Nat.le_of_ble_eq_true rfl) rfl (ti_rfl l7) (ti_c (by decide)) (by omega) (by omega) dX6_wireBlock_88 (fun v29 e30 => ?_)
              refine go_lv (lv2 := [(0, .ref 48), (3, .int l3), (4, .int l4), (5, .int v25), (6, .int v27), (7, .int v29)]) rfl ?_
              refine go_goto (pc := 91) (tgt := 20) (by decide) dX6_wireBlock_91 ?_
              have z31 : (v29 : Int32).toInt = (l7.toInt + 1) := e30
              exact go_lv rfl (ih l3 l4 v25 v27 v29 h22 hv22 (by omega) (by omega) (by omega) (by omega) (by omega) (by omega) (by omega) (by omega) (by omega) (by omega) fx22 (by rw [show (v29 : Int32).toInt = (l7.toInt + 1) from e30]; exact k28) (by omega))
  refine go_iload_n (pc := 0) rfl dX6_wireBlock_0 ?_
  refine go_istore (pc := 1) (Nat.le_of_ble_eq_true rfl) dX6_wireBlock_1 (go_lv (lv2 := [(0, .ref 48), (1, .int a2), (2, .int a3), (3, .int a4), (4, .int a5), (5, .int a3)]) rfl ?_)
  refine go_iload (pc := 3) rfl dX6_wireBlock_3 ?_
  refine go_bipush (pc := 5) (v := 6) (by decide) dX6_wireBlock_5 ?_
  refine gf_icmp_le (pc := 7) (tgt := 14) (ti_rfl a5) (ti_c (v := 6) (a := 6) (by decide)) (by decide) dX6_wireBlock_7 (fun q32 => ?_) (fun q32 => False.elim (by omega))
  refine go_iload_n (pc := 14) rfl dX6_wireBlock_14 ?_
  refine go_istore (pc := 15) (Nat.le_of_ble_eq_true rfl) dX6_wireBlock_15 (go_lv (lv2 := [(0, .ref 48), (1, .int a2), (2, .int a3), (3, .int a4), (4, .int a5), (5, .int a3), (6, .int a2)]) rfl ?_)
  refine go_iconst (pc := 17) (v := 0) (by decide) dX6_wireBlock_17 ?_
  refine go_istore (pc := 18) (Nat.le_of_ble_eq_true rfl) dX6_wireBlock_18 (go_lv (lv2 := [(0, .ref 48), (1, .int a2), (2, .int a3), (3, .int a4), (4, .int a5), (5, .int a3), (6, .int a2), (7, .int 0)]) rfl ?_)
  have z33 : (0 : Int32).toInt = 0 := (ti_c (v := 0) (a := 0) (by decide))
  exact go_lv rfl ((key 403) a4 a5 a3 a2 0 h hv (by omega) (by omega) (by omega) (by omega) (by omega) (by omega) (by omega) (by omega) (by omega) (by omega) fx (by rw [show (0 : Int32).toInt = 0 from (ti_c (v := 0) (a := 0) (by decide))]; exact k0) (by omega))
def f_X6_wireTry_lv3 (s : ST) (a2 : Int) (a3 : Int) (a4 : Int) (a5 : Int) : ST × Int :=
  bd (s.1 40 (a2).toNat) fun v1 => bd2 (f_X6_wireBlock_lv4 s v1 a3 a4 ((a5 + 1))) fun s5 v8 => bd (sI s5 42 (a2).toNat v8) fun s10 => if ¬ v8 = a3 then (bd (sI s10 43 (a2).toNat v8) fun s14 => bd (s14.1 39 (a2).toNat) fun v16 => bd2 (f_X6_wireBlock_lv4 s14 v16 a3 a2 ((a5 + 1))) fun s20 v23 => (s20, v23)) else (bd (sI s10 43 (a2).toNat (-2)) fun s26 => bd (s26.1 39 (a2).toNat) fun v28 => bd2 (f_X6_wireBlock_lv4 s26 v28 a3 a2 ((a5 + 1))) fun s32 v35 => (s32, v35))
set_option maxHeartbeats 4000000 in
set_option maxRecDepth 100000 in
theorem s_X6_wireTry_lv3_f (l : Launch) (d : Nat) {P : PP} {h : HP} (hv : Iv P h) (a2 : Int32) (a2l : 0 ≤ a2.toInt) (a2u : a2.toInt ≤ 127) (a3 : Int32) (a3l : 0 ≤ a3.toInt) (a3u : a3.toInt ≤ 44) (a4 : Int32) (a4l : -1 ≤ a4.toInt) (a4u : a4.toInt ≤ 127) (a5 : Int32) (a5l : 3 ≤ a5.toInt) (a5u : a5.toInt ≤ 3) : Mt l yX6_wireTry cX6_wireTry 6 (some .int) (d + 8) [.ref 48, .int a2, .int a3, .int a4, .int a5] h 0 0 (fun r h' => ∃ v : Int32, r = some (.int v) ∧ 0 ≤ v.toInt ∧ v.toInt ≤ 44 ∧ Iv P h' ∧ ((st h', v.toInt) = f_X6_wireTry_lv3 (st h) a2.toInt a3.toInt a4.toInt a5.toInt) ∧ (FX KC0 h h')) := by
  refine Mt_iv hv (by decide) (Nat.le_of_ble_eq_true rfl) ?_
  show Go l RX6 cX6_wireTry 6 (g_rm (d + 8) 0 0) "wireTry" (some .int) 117 0 0 (fun _ _ => True) (fun r h' => ∃ v : Int32, r = some (.int v) ∧ 0 ≤ v.toInt ∧ v.toInt ≤ 44 ∧ Iv P h' ∧ ((st h', v.toInt) = f_X6_wireTry_lv3 (st h) a2.toInt a3.toInt a4.toInt a5.toInt) ∧ (FX KC0 h h')) 0 0 [(0, .ref 48), (1, .int a2), (2, .int a3), (3, .int a4), (4, .int a5)] [] h
  have fx : FX KC0 h h := FX.rfl
  obtain ⟨fin, kf⟩ : ∃ z, z = f_X6_wireTry_lv3 (st h) a2.toInt a3.toInt a4.toInt a5.toInt := ⟨_, _root_.rfl⟩
  have k0 := kf
  unfold f_X6_wireTry_lv3 at k0
  refine go_aload_n (pc := 0) rfl dX6_wireTry_0 ?_
  refine go_aload_n (pc := 1) rfl dX6_wireTry_1 ?_
  refine gi_getF (pc := 2) (q := 36) hv fL_X6_9 rfl (Nat.le_of_ble_eq_true rfl) rfl (hv.rf (by decide)) dX6_wireTry_2 ?_
  refine gi_getF (pc := 5) (q := 40) hv fL_X6_50 rfl (Nat.le_of_ble_eq_true rfl) rfl (hv.rf (by decide)) dX6_wireTry_5 ?_
  refine go_iload_n (pc := 8) rfl dX6_wireTry_8 ?_
  refine gi_iald (pc := 9) (lo := -1) (hi := 127) (len := 128) hv (ti_rfl a2) rfl (by omega) (by omega) (fun _ => rfl) dX6_wireTry_9 (fun v1 v1l v1u v1w => ?_)
  have k2 := bd_e k0 (congrArg Int32.toInt v1w.symm)
  refine go_iload_n (pc := 10) rfl dX6_wireTry_10 ?_
  refine go_iload_n (pc := 11) rfl dX6_wireTry_11 ?_
  refine go_iload (pc := 12) rfl dX6_wireTry_12 ?_
  refine go_iconst (pc := 14) (v := 1) (by decide) dX6_wireTry_14 ?_
  refine gf_iadd (pc := 15) (ti_rfl a5) (ti_c (v := 1) (a := 1) (by decide)) (by omega) (by omega) dX6_wireTry_15 (fun v3 e4 => ?_)
  refine go_invV (pc := 16) (sl := 0) (s_X6_wireBlock_lv4_f l (d + 0) hv v1 (by rw [show (v1 : Int32).toInt = v1.toInt from (ti_rfl v1)]; omega) (by rw [show (v1 : Int32).toInt = v1.toInt from (ti_rfl v1)]; omega) a3 (by rw [show (a3 : Int32).toInt = a3.toInt from (ti_rfl a3)]; omega) (by rw [show (a3 : Int32).toInt = a3.toInt from (ti_rfl a3)]; omega) a4 (by rw [show (a4 : Int32).toInt = a4.toInt from (ti_rfl a4)]; omega) (by rw [show (a4 : Int32).toInt = a4.toInt from (ti_rfl a4)]; omega) v3 (by rw [show (v3 : Int32).toInt = (a5.toInt + 1) from e4]; omega) (by rw [show (v3 : Int32).toInt = (a5.toInt + 1) from e4]; omega)) mL_X6_34 iM_X6_wireBlock sM_X6_wireBlock (hv.sh rfl) rfl rfl rfl (Nat.le_of_ble_eq_true rfl) (show d + 0 + 7 + 1 ≤ d + 8 by omega) (show 8 + (8 + 11) + 40 * (d + 0 + 7) ≤ 40 * (d + 8) by omega) (g_c0 hv.ln) (Nat.le_of_ble_eq_true rfl) dX6_wireTry_16 ?_
  intro r h5 hq _
  obtain ⟨v8, rfl, v8l, v8u, hv5, f6, f7⟩ := hq
  try rw [show (v3 : Int32).toInt = (a5.toInt + 1) from e4] at f6
  try rw [show (v3 : Int32).toInt = (a5.toInt + 1) from e4] at f7
  have fx5 : FX KC0 h h5 := FX.tr fx f7
  have k9 := bd2_e k2 f6
  refine go_istore (pc := 19) (Nat.le_of_ble_eq_true rfl) dX6_wireTry_19 (go_lv (lv2 := [(0, .ref 48), (1, .int a2), (2, .int a3), (3, .int a4), (4, .int a5), (5, .int v8)]) rfl ?_)
  refine go_aload_n (pc := 21) rfl dX6_wireTry_21 ?_
  refine gi_getF (pc := 22) (q := 36) hv5 fL_X6_9 rfl (Nat.le_of_ble_eq_true rfl) rfl (hv5.rf (by decide)) dX6_wireTry_22 ?_
  refine gi_getF (pc := 25) (q := 42) hv5 fL_X6_53 rfl (Nat.le_of_ble_eq_true rfl) rfl (hv5.rf (by decide)) dX6_wireTry_25 ?_
  refine go_iload_n (pc := 28) rfl dX6_wireTry_28 ?_
  refine go_iload (pc := 29) rfl dX6_wireTry_29 ?_
  refine gi_iast (pc := 31) (lo := 0) (hi := 44) (len := 128) hv5 (ti_rfl a2) (ti_rfl v8) rfl (by omega) (by omega) (fun _ => rfl) (by omega) (by omega) (by decide) dX6_wireTry_31 (fun h10 hv10 hv10e => ?_)
  have fx10 : FX KC0 h h10 := FX.pI fx5 hv10e (by unfold KC0; omega)
  have k11 := bd_e k9 (st_I hv10e (ti_rfl v8))
  refine go_aload_n (pc := 32) rfl dX6_wireTry_32 ?_
  refine gi_getF (pc := 33) (q := 36) hv10 fL_X6_9 rfl (Nat.le_of_ble_eq_true rfl) rfl (hv10.rf (by decide)) dX6_wireTry_33 ?_
  refine gi_getF (pc := 36) (q := 43) hv10 fL_X6_56 rfl (Nat.le_of_ble_eq_true rfl) rfl (hv10.rf (by decide)) dX6_wireTry_36 ?_
  refine go_iload_n (pc := 39) rfl dX6_wireTry_39 ?_
  refine go_iload (pc := 40) rfl dX6_wireTry_40 ?_
  refine go_iload_n (pc := 42) rfl dX6_wireTry_42 ?_
  refine gf_icmp_ne (pc := 43) (tgt := 51) (ti_rfl v8) (ti_rfl a3) (by decide) dX6_wireTry_43 (fun q12 => ?_) (fun q12 => ?_)
  ·
    have k13 := if_t k11 q12
    refine go_iload (pc := 51) rfl dX6_wireTry_51 ?_
    refine gi_iast (pc := 53) (lo := -2) (hi := 44) (len := 128) hv10 (ti_rfl a2) (ti_rfl v8) rfl (by omega) (by omega) (fun _ => rfl) (by omega) (by omega) (by decide) dX6_wireTry_53 (fun h14 hv14 hv14e => ?_)
    have fx14 : FX KC0 h h14 := FX.pI fx10 hv14e (by unfold KC0; omega)
    have k15 := bd_e k13 (st_I hv14e (ti_rfl v8))
    refine go_aload_n (pc := 54) rfl dX6_wireTry_54 ?_
    refine go_aload_n (pc := 55) rfl dX6_wireTry_55 ?_
    refine gi_getF (pc := 56) (q := 36) hv14 fL_X6_9 rfl (Nat.le_of_ble_eq_true rfl) rfl (hv14.rf (by decide)) dX6_wireTry_56 ?_
    refine gi_getF (pc := 59) (q := 39) hv14 fL_X6_59 rfl (Nat.le_of_ble_eq_true rfl) rfl (hv14.rf (by decide)) dX6_wireTry_59 ?_
    refine go_iload_n (pc := 62) rfl dX6_wireTry_62 ?_
    refine gi_iald (pc := 63) (lo := -1) (hi := 127) (len := 128) hv14 (ti_rfl a2) rfl (by omega) (by omega) (fun _ => rfl) dX6_wireTry_63 (fun v16 v16l v16u v16w => ?_)
    have k17 := bd_e k15 (congrArg Int32.toInt v16w.symm)
    refine go_iload_n (pc := 64) rfl dX6_wireTry_64 ?_
    refine go_iload_n (pc := 65) rfl dX6_wireTry_65 ?_
    refine go_iload (pc := 66) rfl dX6_wireTry_66 ?_
    refine go_iconst (pc := 68) (v := 1) (by decide) dX6_wireTry_68 ?_
    refine gf_iadd (pc := 69) (ti_rfl a5) (ti_c (v := 1) (a := 1) (by decide)) (by omega) (by omega) dX6_wireTry_69 (fun v18 e19 => ?_)
    refine go_invV (pc := 70) (sl := 0) (s_X6_wireBlock_lv4_f l (d + 0) hv14 v16 (by rw [show (v16 : Int32).toInt = v16.toInt from (ti_rfl v16)]; omega) (by rw [show (v16 : Int32).toInt = v16.toInt from (ti_rfl v16)]; omega) a3 (by rw [show (a3 : Int32).toInt = a3.toInt from (ti_rfl a3)]; omega) (by rw [show (a3 : Int32).toInt = a3.toInt from (ti_rfl a3)]; omega) a2 (by rw [show (a2 : Int32).toInt = a2.toInt from (ti_rfl a2)]; omega) (by rw [show (a2 : Int32).toInt = a2.toInt from (ti_rfl a2)]; omega) v18 (by rw [show (v18 : Int32).toInt = (a5.toInt + 1) from e19]; omega) (by rw [show (v18 : Int32).toInt = (a5.toInt + 1) from e19]; omega)) mL_X6_34 iM_X6_wireBlock sM_X6_wireBlock (hv14.sh rfl) rfl rfl rfl (Nat.le_of_ble_eq_true rfl) (show d + 0 + 7 + 1 ≤ d + 8 by omega) (show 8 + (8 + 11) + 40 * (d + 0 + 7) ≤ 40 * (d + 8) by omega) (g_c0 hv14.ln) (Nat.le_of_ble_eq_true rfl) dX6_wireTry_70 ?_
    intro r h20 hq _
    obtain ⟨v23, rfl, v23l, v23u, hv20, f21, f22⟩ := hq
    try rw [show (v18 : Int32).toInt = (a5.toInt + 1) from e19] at f21
    try rw [show (v18 : Int32).toInt = (a5.toInt + 1) from e19] at f22
    have fx20 : FX KC0 h h20 := FX.tr fx14 f22
    have k24 := bd2_e k17 f21
    exact gi_iret (pc := 73) (ti_rfl v23) ⟨_, rfl, (by rw [show (v23 : Int32).toInt = v23.toInt from (ti_rfl v23)]; omega), (by rw [show (v23 : Int32).toInt = v23.toInt from (ti_rfl v23)]; omega), hv20, (k24.symm.trans kf), fx20⟩ hv20 dX6_wireTry_73
  ·
    have k25 := if_f k11 (fun z => z q12)
    refine go_bipush (pc := 46) (v := (-2)) (by decide) dX6_wireTry_46 ?_
    refine go_goto (pc := 48) (tgt := 53) (by decide) dX6_wireTry_48 ?_
    refine gi_iast (pc := 53) (lo := -2) (hi := 44) (len := 128) hv10 (ti_rfl a2) (ti_c (v := (-2)) (a := (-2)) (by decide)) rfl (by omega) (by omega) (fun _ => rfl) (by omega) (by omega) (by decide) dX6_wireTry_53 (fun h26 hv26 hv26e => ?_)
    have fx26 : FX KC0 h h26 := FX.pI fx10 hv26e (by unfold KC0; omega)
    have k27 := bd_e k25 (st_I hv26e (ti_c (v := (-2)) (a := (-2)) (by decide)))
    refine go_aload_n (pc := 54) rfl dX6_wireTry_54 ?_
    refine go_aload_n (pc := 55) rfl dX6_wireTry_55 ?_
    refine gi_getF (pc := 56) (q := 36) hv26 fL_X6_9 rfl (Nat.le_of_ble_eq_true rfl) rfl (hv26.rf (by decide)) dX6_wireTry_56 ?_
    refine gi_getF (pc := 59) (q := 39) hv26 fL_X6_59 rfl (Nat.le_of_ble_eq_true rfl) rfl (hv26.rf (by decide)) dX6_wireTry_59 ?_
    refine go_iload_n (pc := 62) rfl dX6_wireTry_62 ?_
    refine gi_iald (pc := 63) (lo := -1) (hi := 127) (len := 128) hv26 (ti_rfl a2) rfl (by omega) (by omega) (fun _ => rfl) dX6_wireTry_63 (fun v28 v28l v28u v28w => ?_)
    have k29 := bd_e k27 (congrArg Int32.toInt v28w.symm)
    refine go_iload_n (pc := 64) rfl dX6_wireTry_64 ?_
    refine go_iload_n (pc := 65) rfl dX6_wireTry_65 ?_
    refine go_iload (pc := 66) rfl dX6_wireTry_66 ?_
    refine go_iconst (pc := 68) (v := 1) (by decide) dX6_wireTry_68 ?_
    refine gf_iadd (pc := 69) (ti_rfl a5) (ti_c (v := 1) (a := 1) (by decide)) (by omega) (by omega) dX6_wireTry_69 (fun v30 e31 => ?_)
    refine go_invV (pc := 70) (sl := 0) (s_X6_wireBlock_lv4_f l (d + 0) hv26 v28 (by rw [show (v28 : Int32).toInt = v28.toInt from (ti_rfl v28)]; omega) (by rw [show (v28 : Int32).toInt = v28.toInt from (ti_rfl v28)]; omega) a3 (by rw [show (a3 : Int32).toInt = a3.toInt from (ti_rfl a3)]; omega) (by rw [show (a3 : Int32).toInt = a3.toInt from (ti_rfl a3)]; omega) a2 (by rw [show (a2 : Int32).toInt = a2.toInt from (ti_rfl a2)]; omega) (by rw [show (a2 : Int32).toInt = a2.toInt from (ti_rfl a2)]; omega) v30 (by rw [show (v30 : Int32).toInt = (a5.toInt + 1) from e31]; omega) (by rw [show (v30 : Int32).toInt = (a5.toInt + 1) from e31]; omega)) mL_X6_34 iM_X6_wireBlock sM_X6_wireBlock (hv26.sh rfl) rfl rfl rfl (Nat.le_of_ble_eq_true rfl) (show d + 0 + 7 + 1 ≤ d + 8 by omega) (show 8 + (8 + 11) + 40 * (d + 0 + 7) ≤ 40 * (d + 8) by omega) (g_c0 hv26.ln) (Nat.le_of_ble_eq_true rfl) dX6_wireTry_70 ?_
    intro r h32 hq _
    obtain ⟨v35, rfl, v35l, v35u, hv32, f33, f34⟩ := hq
    try rw [show (v30 : Int32).toInt = (a5.toInt + 1) from e31] at f33
    try rw [show (v30 : Int32).toInt = (a5.toInt + 1) from e31] at f34
    have fx32 : FX KC0 h h32 := FX.tr fx26 f34
    have k36 := bd2_e k29 f33
    exact gi_iret (pc := 73) (ti_rfl v35) ⟨_, rfl, (by rw [show (v35 : Int32).toInt = v35.toInt from (ti_rfl v35)]; omega), (by rw [show (v35 : Int32).toInt = v35.toInt from (ti_rfl v35)]; omega), hv32, (k36.symm.trans kf), fx32⟩ hv32 dX6_wireTry_73
def f_X6_wireStatement_lv3 (s : ST) (a2 : Int) (a3 : Int) (a4 : Int) (a5 : Int) : ST × Int :=
  bd (s.1 37 (a2).toNat) fun v1 => bd (s.2.2 48 1) fun c3 => bd (s.1 (c3 + 3) (v1).toNat) fun v5 => bd (s.2.2 48 1) fun c9 => bd (sI s (c9 + 11) (v1).toNat a3) fun s11 => bd (s11.2.2 48 1) fun c13 => bd (sI s11 (c13 + 12) (v1).toNat a3) fun s15 => bd (s15.2.2 48 1) fun c17 => if 0 ≤ a4 then (bd (s15.1 42 (a4).toNat) fun v21 => bd (sI s15 (c17 + 13) (v1).toNat v21) fun s23 => bd (s23.2.2 48 1) fun c25 => bd (s23.1 41 (a4).toNat) fun v28 => bd (sI s23 (c25 + 14) (v1).toNat v28) fun s30 => bd (s30.2.2 48 1) fun c32 => bd (s30.1 43 (a4).toNat) fun v35 => bd (sI s30 (c32 + 15) (v1).toNat v35) fun s37 => bd (s37.2.2 48 1) fun c39 => bd (s37.1 (c39 + 2) (v1).toNat) fun v41 => if ¬ v41 = 5 then (bd (s37.2.2 48 1) fun c45 => bd (s37.1 (c45 + 2) (v1).toNat) fun v47 => if ¬ v47 = 3 then (bd (s37.2.2 48 1) fun c51 => bd (s37.1 (c51 + 2) (v1).toNat) fun v53 => if ¬ v53 = 2 then ((s37, v1)) else (bd (s37.2.2 48 1) fun c58 => bd (s37.1 39 (a2).toNat) fun v60 => bd2 (f_X6_wireBlock_lv4 s37 v60 a3 a4 ((a5 + 1))) fun s64 v67 => bd (sI s64 (c58 + 13) (v1).toNat v67) fun s69 => bd (s69.2.2 48 1) fun c71 => bd (s69.1 40 (a2).toNat) fun v73 => bd2 (f_X6_wireBlock_lv4 s69 v73 a3 a4 ((a5 + 1))) fun s77 v80 => bd (sI s77 (c71 + 12) (v1).toNat v80) fun s82 => (s82, v1))) else (bd (s37.2.2 48 1) fun c85 => bd (s37.1 39 (a2).toNat) fun v87 => bd2 (f_X6_wireBlock_lv4 s37 v87 v1 a4 ((a5 + 1))) fun s91 v94 => bd (sI s91 (c85 + 13) (v1).toNat v94) fun s96 => (s96, v1))) else (bd (s37.2.2 48 1) fun c99 => bd (sI s37 (c99 + 13) (v1).toNat ((40 + v5))) fun s101 => (s101, v1))) else (bd (sI s15 (c17 + 13) (v1).toNat ((40 + v5))) fun s104 => bd (s104.2.2 48 1) fun c106 => bd (sI s104 (c106 + 14) (v1).toNat (-1)) fun s109 => bd (s109.2.2 48 1) fun c111 => bd (sI s109 (c111 + 15) (v1).toNat (-2)) fun s114 => bd (s114.2.2 48 1) fun c116 => bd (s114.1 (c116 + 2) (v1).toNat) fun v118 => if ¬ v118 = 5 then (bd (s114.2.2 48 1) fun c122 => bd (s114.1 (c122 + 2) (v1).toNat) fun v124 => if ¬ v124 = 3 then (bd (s114.2.2 48 1) fun c128 => bd (s114.1 (c128 + 2) (v1).toNat) fun v130 => if ¬ v130 = 2 then ((s114, v1)) else (bd (s114.2.2 48 1) fun c135 => bd (s114.1 39 (a2).toNat) fun v137 => bd2 (f_X6_wireBlock_lv4 s114 v137 a3 a4 ((a5 + 1))) fun s141 v144 => bd (sI s141 (c135 + 13) (v1).toNat v144) fun s146 => bd (s146.2.2 48 1) fun c148 => bd (s146.1 40 (a2).toNat) fun v150 => bd2 (f_X6_wireBlock_lv4 s146 v150 a3 a4 ((a5 + 1))) fun s154 v157 => bd (sI s154 (c148 + 12) (v1).toNat v157) fun s159 => (s159, v1))) else (bd (s114.2.2 48 1) fun c162 => bd (s114.1 39 (a2).toNat) fun v164 => bd2 (f_X6_wireBlock_lv4 s114 v164 v1 a4 ((a5 + 1))) fun s168 v171 => bd (sI s168 (c162 + 13) (v1).toNat v171) fun s173 => (s173, v1))) else (bd (s114.2.2 48 1) fun c176 => bd (sI s114 (c176 + 13) (v1).toNat ((40 + v5))) fun s178 => (s178, v1)))
set_option maxHeartbeats 4000000 in
set_option maxRecDepth 100000 in
theorem s_X6_wireStatement_lv3_f (l : Launch) (d : Nat) {P : PP} {h : HP} (hv : Iv P h) (a2 : Int32) (a2l : 0 ≤ a2.toInt) (a2u : a2.toInt ≤ 127) (a3 : Int32) (a3l : 0 ≤ a3.toInt) (a3u : a3.toInt ≤ 44) (a4 : Int32) (a4l : -1 ≤ a4.toInt) (a4u : a4.toInt ≤ 127) (a5 : Int32) (a5l : 3 ≤ a5.toInt) (a5u : a5.toInt ≤ 3) (hp : 0 ≤ (h.2.1 37 a2.toInt.toNat).toInt) : Mt l yX6_wireStatement cX6_wireStatement 7 (some .int) (d + 8) [.ref 48, .int a2, .int a3, .int a4, .int a5] h 0 0 (fun r h' => ∃ v : Int32, r = some (.int v) ∧ 0 ≤ v.toInt ∧ v.toInt ≤ 44 ∧ Iv P h' ∧ ((st h', v.toInt) = f_X6_wireStatement_lv3 (st h) a2.toInt a3.toInt a4.toInt a5.toInt) ∧ (FX KC0 h h')) := by
  refine Mt_iv hv (by decide) (Nat.le_of_ble_eq_true rfl) ?_
  show Go l RX6 cX6_wireStatement 7 (g_rm (d + 8) 0 0) "wireStatement" (some .int) 117 0 0 (fun _ _ => True) (fun r h' => ∃ v : Int32, r = some (.int v) ∧ 0 ≤ v.toInt ∧ v.toInt ≤ 44 ∧ Iv P h' ∧ ((st h', v.toInt) = f_X6_wireStatement_lv3 (st h) a2.toInt a3.toInt a4.toInt a5.toInt) ∧ (FX KC0 h h')) 0 0 [(0, .ref 48), (1, .int a2), (2, .int a3), (3, .int a4), (4, .int a5)] [] h
  have fx : FX KC0 h h := FX.rfl
  obtain ⟨fin, kf⟩ : ∃ z, z = f_X6_wireStatement_lv3 (st h) a2.toInt a3.toInt a4.toInt a5.toInt := ⟨_, _root_.rfl⟩
  have k0 := kf
  unfold f_X6_wireStatement_lv3 at k0
  refine go_aload_n (pc := 0) rfl dX6_wireStatement_0 ?_
  refine gi_getF (pc := 1) (q := 36) hv fL_X6_9 rfl (Nat.le_of_ble_eq_true rfl) rfl (hv.rf (by decide)) dX6_wireStatement_1 ?_
  refine gi_getF (pc := 4) (q := 37) hv fL_X6_38 rfl (Nat.le_of_ble_eq_true rfl) rfl (hv.rf (by decide)) dX6_wireStatement_4 ?_
  refine go_iload_n (pc := 7) rfl dX6_wireStatement_7 ?_
  refine gi_iald (pc := 8) (lo := -1) (hi := 39) (len := 128) hv (ti_rfl a2) rfl (by omega) (by omega) (fun _ => rfl) dX6_wireStatement_8 (fun v1 v1l v1u v1w => ?_)
  have k2 := bd_e k0 (congrArg Int32.toInt v1w.symm)
  have kk : 0 ≤ v1.toInt := by rw [v1w]; exact hp
  refine go_istore (pc := 9) (Nat.le_of_ble_eq_true rfl) dX6_wireStatement_9 (go_lv (lv2 := [(0, .ref 48), (1, .int a2), (2, .int a3), (3, .int a4), (4, .int a5), (5, .int v1)]) rfl ?_)
  refine go_bipush (pc := 11) (v := 40) (by decide) dX6_wireStatement_11 ?_
  refine go_aload_n (pc := 13) rfl dX6_wireStatement_13 ?_
  refine gi_getC (pc := 14) hv fL_X6_15 rfl (Nat.le_of_ble_eq_true rfl) rfl (by decide) dX6_wireStatement_14 (fun c3 hc3 fc3 => ?_)
  have k4 := bd_e k2 (st_c fc3)
  refine gi_getF (pc := 17) (q := c3 + 3) hv fL_X6_62 (by rcases hc3 with rfl | rfl <;> rfl) (Nat.le_of_ble_eq_true rfl) rfl (by rcases hc3 with rfl | rfl <;> exact hv.rf (by decide)) dX6_wireStatement_17 ?_
  refine go_iload (pc := 20) rfl dX6_wireStatement_20 ?_
  refine gi_iald (pc := 22) (lo := -1) (hi := 4) (len := 40) hv (ti_rfl v1) (by rcases hc3 with rfl | rfl <;> rfl) (by omega) (by omega) (fun _ => by rcases hc3 with rfl | rfl <;> rfl) dX6_wireStatement_22 (fun v5 v5l v5u v5w => ?_)
  have k6 := bd_e k4 (congrArg Int32.toInt v5w.symm)
  refine gf_iadd (pc := 23) (ti_c (v := 40) (a := 40) (by decide)) (ti_rfl v5) (by omega) (by omega) dX6_wireStatement_23 (fun v7 e8 => ?_)
  refine go_istore (pc := 24) (Nat.le_of_ble_eq_true rfl) dX6_wireStatement_24 (go_lv (lv2 := [(0, .ref 48), (1, .int a2), (2, .int a3), (3, .int a4), (4, .int a5), (5, .int v1), (6, .int v7)]) rfl ?_)
  refine go_aload_n (pc := 26) rfl dX6_wireStatement_26 ?_
  refine gi_getC (pc := 27) hv fL_X6_15 rfl (Nat.le_of_ble_eq_true rfl) rfl (by decide) dX6_wireStatement_27 (fun c9 hc9 fc9 => ?_)
  have k10 := bd_e k6 (st_c fc9)
  refine gi_getF (pc := 30) (q := c9 + 11) hv fL_X6_65 (by rcases hc9 with rfl | rfl <;> rfl) (Nat.le_of_ble_eq_true rfl) rfl (by rcases hc9 with rfl | rfl <;> exact hv.rf (by decide)) dX6_wireStatement_30 ?_
  refine go_iload (pc := 33) rfl dX6_wireStatement_33 ?_
  refine go_iload_n (pc := 35) rfl dX6_wireStatement_35 ?_
  refine gi_iast (pc := 36) (lo := 0) (hi := 44) (len := 40) hv (ti_rfl v1) (ti_rfl a3) (by rcases hc9 with rfl | rfl <;> rfl) (by omega) (by omega) (fun _ => by rcases hc9 with rfl | rfl <;> rfl) (by omega) (by omega) (by rcases hc9 with rfl | rfl <;> decide) dX6_wireStatement_36 (fun h11 hv11 hv11e => ?_)
  have fx11 : FX KC0 h h11 := FX.pI fx hv11e (by unfold KC0; omega)
  have k12 := bd_e k10 (st_I hv11e (ti_rfl a3))
  refine go_aload_n (pc := 37) rfl dX6_wireStatement_37 ?_
  refine gi_getC (pc := 38) hv11 fL_X6_15 rfl (Nat.le_of_ble_eq_true rfl) rfl (by decide) dX6_wireStatement_38 (fun c13 hc13 fc13 => ?_)
  have k14 := bd_e k12 (st_c fc13)
  refine gi_getF (pc := 41) (q := c13 + 12) hv11 fL_X6_68 (by rcases hc13 with rfl | rfl <;> rfl) (Nat.le_of_ble_eq_true rfl) rfl (by rcases hc13 with rfl | rfl <;> exact hv11.rf (by decide)) dX6_wireStatement_41 ?_
  refine go_iload (pc := 44) rfl dX6_wireStatement_44 ?_
  refine go_iload_n (pc := 46) rfl dX6_wireStatement_46 ?_
  refine gi_iast (pc := 47) (lo := 0) (hi := 44) (len := 40) hv11 (ti_rfl v1) (ti_rfl a3) (by rcases hc13 with rfl | rfl <;> rfl) (by omega) (by omega) (fun _ => by rcases hc13 with rfl | rfl <;> rfl) (by omega) (by omega) (by rcases hc13 with rfl | rfl <;> decide) dX6_wireStatement_47 (fun h15 hv15 hv15e => ?_)
  have fx15 : FX KC0 h h15 := FX.pI fx11 hv15e (by unfold KC0; omega)
  have k16 := bd_e k14 (st_I hv15e (ti_rfl a3))
  refine go_aload_n (pc := 48) rfl dX6_wireStatement_48 ?_
  refine gi_getC (pc := 49) hv15 fL_X6_15 rfl (Nat.le_of_ble_eq_true rfl) rfl (by decide) dX6_wireStatement_49 (fun c17 hc17 fc17 => ?_)
  have k18 := bd_e k16 (st_c fc17)
  refine gi_getF (pc := 52) (q := c17 + 13) hv15 fL_X6_71 (by rcases hc17 with rfl | rfl <;> rfl) (Nat.le_of_ble_eq_true rfl) rfl (by rcases hc17 with rfl | rfl <;> exact hv15.rf (by decide)) dX6_wireStatement_52 ?_
  refine go_iload (pc := 55) rfl dX6_wireStatement_55 ?_
  refine go_iload_n (pc := 57) rfl dX6_wireStatement_57 ?_
  refine gf_if_ge (pc := 58) (tgt := 66) (ti_rfl a4) (by decide) dX6_wireStatement_58 (fun q19 => ?_) (fun q19 => ?_)
  ·
    have k20 := if_t k18 q19
    refine go_aload_n (pc := 66) rfl dX6_wireStatement_66 ?_
    refine gi_getF (pc := 67) (q := 36) hv15 fL_X6_9 rfl (Nat.le_of_ble_eq_true rfl) rfl (hv15.rf (by decide)) dX6_wireStatement_67 ?_
    refine gi_getF (pc := 70) (q := 42) hv15 fL_X6_53 rfl (Nat.le_of_ble_eq_true rfl) rfl (hv15.rf (by decide)) dX6_wireStatement_70 ?_
    refine go_iload_n (pc := 73) rfl dX6_wireStatement_73 ?_
    refine gi_iald (pc := 74) (lo := 0) (hi := 44) (len := 128) hv15 (ti_rfl a4) rfl (by omega) (by omega) (fun _ => rfl) dX6_wireStatement_74 (fun v21 v21l v21u v21w => ?_)
    have k22 := bd_e k20 (congrArg Int32.toInt v21w.symm)
    refine gi_iast (pc := 75) (lo := 0) (hi := 44) (len := 40) hv15 (ti_rfl v1) (ti_rfl v21) (by rcases hc17 with rfl | rfl <;> rfl) (by omega) (by omega) (fun _ => by rcases hc17 with rfl | rfl <;> rfl) (by omega) (by omega) (by rcases hc17 with rfl | rfl <;> decide) dX6_wireStatement_75 (fun h23 hv23 hv23e => ?_)
    have fx23 : FX KC0 h h23 := FX.pI fx15 hv23e (by unfold KC0; omega)
    have k24 := bd_e k22 (st_I hv23e (ti_rfl v21))
    refine go_aload_n (pc := 76) rfl dX6_wireStatement_76 ?_
    refine gi_getC (pc := 77) hv23 fL_X6_15 rfl (Nat.le_of_ble_eq_true rfl) rfl (by decide) dX6_wireStatement_77 (fun c25 hc25 fc25 => ?_)
    have k26 := bd_e k24 (st_c fc25)
    refine gi_getF (pc := 80) (q := c25 + 14) hv23 fL_X6_74 (by rcases hc25 with rfl | rfl <;> rfl) (Nat.le_of_ble_eq_true rfl) rfl (by rcases hc25 with rfl | rfl <;> exact hv23.rf (by decide)) dX6_wireStatement_80 ?_
    refine go_iload (pc := 83) rfl dX6_wireStatement_83 ?_
    refine go_iload_n (pc := 85) rfl dX6_wireStatement_85 ?_
    refine gf_if_ge (pc := 86) (tgt := 93) (ti_rfl a4) (by decide) dX6_wireStatement_86 (fun q27 => ?_) (fun q27 => False.elim (by omega))
    refine go_aload_n (pc := 93) rfl dX6_wireStatement_93 ?_
    refine gi_getF (pc := 94) (q := 36) hv23 fL_X6_9 rfl (Nat.le_of_ble_eq_true rfl) rfl (hv23.rf (by decide)) dX6_wireStatement_94 ?_
    refine gi_getF (pc := 97) (q := 41) hv23 fL_X6_77 rfl (Nat.le_of_ble_eq_true rfl) rfl (hv23.rf (by decide)) dX6_wireStatement_97 ?_
    refine go_iload_n (pc := 100) rfl dX6_wireStatement_100 ?_
    refine gi_iald (pc := 101) (lo := -1) (hi := 5) (len := 128) hv23 (ti_rfl a4) rfl (by omega) (by omega) (fun _ => rfl) dX6_wireStatement_101 (fun v28 v28l v28u v28w => ?_)
    have k29 := bd_e k26 (congrArg Int32.toInt v28w.symm)
    refine gi_iast (pc := 102) (lo := -1) (hi := 5) (len := 40) hv23 (ti_rfl v1) (ti_rfl v28) (by rcases hc25 with rfl | rfl <;> rfl) (by omega) (by omega) (fun _ => by rcases hc25 with rfl | rfl <;> rfl) (by omega) (by omega) (by rcases hc25 with rfl | rfl <;> decide) dX6_wireStatement_102 (fun h30 hv30 hv30e => ?_)
    have fx30 : FX KC0 h h30 := FX.pI fx23 hv30e (by unfold KC0; omega)
    have k31 := bd_e k29 (st_I hv30e (ti_rfl v28))
    refine go_aload_n (pc := 103) rfl dX6_wireStatement_103 ?_
    refine gi_getC (pc := 104) hv30 fL_X6_15 rfl (Nat.le_of_ble_eq_true rfl) rfl (by decide) dX6_wireStatement_104 (fun c32 hc32 fc32 => ?_)
    have k33 := bd_e k31 (st_c fc32)
    refine gi_getF (pc := 107) (q := c32 + 15) hv30 fL_X6_80 (by rcases hc32 with rfl | rfl <;> rfl) (Nat.le_of_ble_eq_true rfl) rfl (by rcases hc32 with rfl | rfl <;> exact hv30.rf (by decide)) dX6_wireStatement_107 ?_
    refine go_iload (pc := 110) rfl dX6_wireStatement_110 ?_
    refine go_iload_n (pc := 112) rfl dX6_wireStatement_112 ?_
    refine gf_if_ge (pc := 113) (tgt := 121) (ti_rfl a4) (by decide) dX6_wireStatement_113 (fun q34 => ?_) (fun q34 => False.elim (by omega))
    refine go_aload_n (pc := 121) rfl dX6_wireStatement_121 ?_
    refine gi_getF (pc := 122) (q := 36) hv30 fL_X6_9 rfl (Nat.le_of_ble_eq_true rfl) rfl (hv30.rf (by decide)) dX6_wireStatement_122 ?_
    refine gi_getF (pc := 125) (q := 43) hv30 fL_X6_56 rfl (Nat.le_of_ble_eq_true rfl) rfl (hv30.rf (by decide)) dX6_wireStatement_125 ?_
    refine go_iload_n (pc := 128) rfl dX6_wireStatement_128 ?_
    refine gi_iald (pc := 129) (lo := -2) (hi := 44) (len := 128) hv30 (ti_rfl a4) rfl (by omega) (by omega) (fun _ => rfl) dX6_wireStatement_129 (fun v35 v35l v35u v35w => ?_)
    have k36 := bd_e k33 (congrArg Int32.toInt v35w.symm)
    refine gi_iast (pc := 130) (lo := -2) (hi := 44) (len := 40) hv30 (ti_rfl v1) (ti_rfl v35) (by rcases hc32 with rfl | rfl <;> rfl) (by omega) (by omega) (fun _ => by rcases hc32 with rfl | rfl <;> rfl) (by omega) (by omega) (by rcases hc32 with rfl | rfl <;> decide) dX6_wireStatement_130 (fun h37 hv37 hv37e => ?_)
    have fx37 : FX KC0 h h37 := FX.pI fx30 hv37e (by unfold KC0; omega)
    have k38 := bd_e k36 (st_I hv37e (ti_rfl v35))
    refine go_aload_n (pc := 131) rfl dX6_wireStatement_131 ?_
    refine gi_getC (pc := 132) hv37 fL_X6_15 rfl (Nat.le_of_ble_eq_true rfl) rfl (by decide) dX6_wireStatement_132 (fun c39 hc39 fc39 => ?_)
    have k40 := bd_e k38 (st_c fc39)
    refine gi_getF (pc := 135) (q := c39 + 2) hv37 fL_X6_81 (by rcases hc39 with rfl | rfl <;> rfl) (Nat.le_of_ble_eq_true rfl) rfl (by rcases hc39 with rfl | rfl <;> exact hv37.rf (by decide)) dX6_wireStatement_135 ?_
    refine go_iload (pc := 138) rfl dX6_wireStatement_138 ?_
    refine gi_iald (pc := 140) (lo := 0) (hi := 5) (len := 40) hv37 (ti_rfl v1) (by rcases hc39 with rfl | rfl <;> rfl) (by omega) (by omega) (fun _ => by rcases hc39 with rfl | rfl <;> rfl) dX6_wireStatement_140 (fun v41 v41l v41u v41w => ?_)
    have k42 := bd_e k40 (congrArg Int32.toInt v41w.symm)
    refine go_iconst (pc := 141) (v := 5) (by decide) dX6_wireStatement_141 ?_
    refine gf_icmp_ne (pc := 142) (tgt := 160) (ti_rfl v41) (ti_c (v := 5) (a := 5) (by decide)) (by decide) dX6_wireStatement_142 (fun q43 => ?_) (fun q43 => ?_)
    ·
      have k44 := if_t k42 q43
      refine go_aload_n (pc := 160) rfl dX6_wireStatement_160 ?_
      refine gi_getC (pc := 161) hv37 fL_X6_15 rfl (Nat.le_of_ble_eq_true rfl) rfl (by decide) dX6_wireStatement_161 (fun c45 hc45 fc45 => ?_)
      have k46 := bd_e k44 (st_c fc45)
      refine gi_getF (pc := 164) (q := c45 + 2) hv37 fL_X6_81 (by rcases hc45 with rfl | rfl <;> rfl) (Nat.le_of_ble_eq_true rfl) rfl (by rcases hc45 with rfl | rfl <;> exact hv37.rf (by decide)) dX6_wireStatement_164 ?_
      refine go_iload (pc := 167) rfl dX6_wireStatement_167 ?_
      refine gi_iald (pc := 169) (lo := 0) (hi := 5) (len := 40) hv37 (ti_rfl v1) (by rcases hc45 with rfl | rfl <;> rfl) (by omega) (by omega) (fun _ => by rcases hc45 with rfl | rfl <;> rfl) dX6_wireStatement_169 (fun v47 v47l v47u v47w => ?_)
      have k48 := bd_e k46 (congrArg Int32.toInt v47w.symm)
      refine go_iconst (pc := 170) (v := 3) (by decide) dX6_wireStatement_170 ?_
      refine gf_icmp_ne (pc := 171) (tgt := 207) (ti_rfl v47) (ti_c (v := 3) (a := 3) (by decide)) (by decide) dX6_wireStatement_171 (fun q49 => ?_) (fun q49 => ?_)
      ·
        have k50 := if_t k48 q49
        refine go_aload_n (pc := 207) rfl dX6_wireStatement_207 ?_
        refine gi_getC (pc := 208) hv37 fL_X6_15 rfl (Nat.le_of_ble_eq_true rfl) rfl (by decide) dX6_wireStatement_208 (fun c51 hc51 fc51 => ?_)
        have k52 := bd_e k50 (st_c fc51)
        refine gi_getF (pc := 211) (q := c51 + 2) hv37 fL_X6_81 (by rcases hc51 with rfl | rfl <;> rfl) (Nat.le_of_ble_eq_true rfl) rfl (by rcases hc51 with rfl | rfl <;> exact hv37.rf (by decide)) dX6_wireStatement_211 ?_
        refine go_iload (pc := 214) rfl dX6_wireStatement_214 ?_
        refine gi_iald (pc := 216) (lo := 0) (hi := 5) (len := 40) hv37 (ti_rfl v1) (by rcases hc51 with rfl | rfl <;> rfl) (by omega) (by omega) (fun _ => by rcases hc51 with rfl | rfl <;> rfl) dX6_wireStatement_216 (fun v53 v53l v53u v53w => ?_)
        have k54 := bd_e k52 (congrArg Int32.toInt v53w.symm)
        refine go_iconst (pc := 217) (v := 2) (by decide) dX6_wireStatement_217 ?_
        refine gf_icmp_ne (pc := 218) (tgt := 279) (ti_rfl v53) (ti_c (v := 2) (a := 2) (by decide)) (by decide) dX6_wireStatement_218 (fun q55 => ?_) (fun q55 => ?_)
        ·
          have k56 := if_t k54 q55
          refine go_iload (pc := 279) rfl dX6_wireStatement_279 ?_
          exact gi_iret (pc := 281) (ti_rfl v1) ⟨_, rfl, (by rw [show (v1 : Int32).toInt = v1.toInt from (ti_rfl v1)]; omega), (by rw [show (v1 : Int32).toInt = v1.toInt from (ti_rfl v1)]; omega), hv37, (k56.symm.trans kf), fx37⟩ hv37 dX6_wireStatement_281
        ·
          have k57 := if_f k54 (fun z => z q55)
          refine go_aload_n (pc := 221) rfl dX6_wireStatement_221 ?_
          refine gi_getC (pc := 222) hv37 fL_X6_15 rfl (Nat.le_of_ble_eq_true rfl) rfl (by decide) dX6_wireStatement_222 (fun c58 hc58 fc58 => ?_)
          have k59 := bd_e k57 (st_c fc58)
          refine gi_getF (pc := 225) (q := c58 + 13) hv37 fL_X6_71 (by rcases hc58 with rfl | rfl <;> rfl) (Nat.le_of_ble_eq_true rfl) rfl (by rcases hc58 with rfl | rfl <;> exact hv37.rf (by decide)) dX6_wireStatement_225 ?_
          refine go_iload (pc := 228) rfl dX6_wireStatement_228 ?_
          refine go_aload_n (pc := 230) rfl dX6_wireStatement_230 ?_
          refine go_aload_n (pc := 231) rfl dX6_wireStatement_231 ?_
          refine gi_getF (pc := 232) (q := 36) hv37 fL_X6_9 rfl (Nat.le_of_ble_eq_true rfl) rfl (hv37.rf (by decide)) dX6_wireStatement_232 ?_
          refine gi_getF (pc := 235) (q := 39) hv37 fL_X6_59 rfl (Nat.le_of_ble_eq_true rfl) rfl (hv37.rf (by decide)) dX6_wireStatement_235 ?_
          refine go_iload_n (pc := 238) rfl dX6_wireStatement_238 ?_
          refine gi_iald (pc := 239) (lo := -1) (hi := 127) (len := 128) hv37 (ti_rfl a2) rfl (by omega) (by omega) (fun _ => rfl) dX6_wireStatement_239 (fun v60 v60l v60u v60w => ?_)
          have k61 := bd_e k59 (congrArg Int32.toInt v60w.symm)
          refine go_iload_n (pc := 240) rfl dX6_wireStatement_240 ?_
          refine go_iload_n (pc := 241) rfl dX6_wireStatement_241 ?_
          refine go_iload (pc := 242) rfl dX6_wireStatement_242 ?_
          refine go_iconst (pc := 244) (v := 1) (by decide) dX6_wireStatement_244 ?_
          refine gf_iadd (pc := 245) (ti_rfl a5) (ti_c (v := 1) (a := 1) (by decide)) (by omega) (by omega) dX6_wireStatement_245 (fun v62 e63 => ?_)
          refine go_invV (pc := 246) (sl := 0) (s_X6_wireBlock_lv4_f l (d + 0) hv37 v60 (by rw [show (v60 : Int32).toInt = v60.toInt from (ti_rfl v60)]; omega) (by rw [show (v60 : Int32).toInt = v60.toInt from (ti_rfl v60)]; omega) a3 (by rw [show (a3 : Int32).toInt = a3.toInt from (ti_rfl a3)]; omega) (by rw [show (a3 : Int32).toInt = a3.toInt from (ti_rfl a3)]; omega) a4 (by rw [show (a4 : Int32).toInt = a4.toInt from (ti_rfl a4)]; omega) (by rw [show (a4 : Int32).toInt = a4.toInt from (ti_rfl a4)]; omega) v62 (by rw [show (v62 : Int32).toInt = (a5.toInt + 1) from e63]; omega) (by rw [show (v62 : Int32).toInt = (a5.toInt + 1) from e63]; omega)) mL_X6_34 iM_X6_wireBlock sM_X6_wireBlock (hv37.sh rfl) rfl rfl rfl (Nat.le_of_ble_eq_true rfl) (show d + 0 + 7 + 1 ≤ d + 8 by omega) (show 8 + (8 + 11) + 40 * (d + 0 + 7) ≤ 40 * (d + 8) by omega) (g_c0 hv37.ln) (Nat.le_of_ble_eq_true rfl) dX6_wireStatement_246 ?_
          intro r h64 hq _
          obtain ⟨v67, rfl, v67l, v67u, hv64, f65, f66⟩ := hq
          try rw [show (v62 : Int32).toInt = (a5.toInt + 1) from e63] at f65
          try rw [show (v62 : Int32).toInt = (a5.toInt + 1) from e63] at f66
          have fx64 : FX KC0 h h64 := FX.tr fx37 f66
          have k68 := bd2_e k61 f65
          refine gi_iast (pc := 249) (lo := 0) (hi := 44) (len := 40) hv64 (ti_rfl v1) (ti_rfl v67) (by rcases hc58 with rfl | rfl <;> rfl) (by omega) (by omega) (fun _ => by rcases hc58 with rfl | rfl <;> rfl) (by omega) (by omega) (by rcases hc58 with rfl | rfl <;> decide) dX6_wireStatement_249 (fun h69 hv69 hv69e => ?_)
          have fx69 : FX KC0 h h69 := FX.pI fx64 hv69e (by unfold KC0; omega)
          have k70 := bd_e k68 (st_I hv69e (ti_rfl v67))
          refine go_aload_n (pc := 250) rfl dX6_wireStatement_250 ?_
          refine gi_getC (pc := 251) hv69 fL_X6_15 rfl (Nat.le_of_ble_eq_true rfl) rfl (by decide) dX6_wireStatement_251 (fun c71 hc71 fc71 => ?_)
          have k72 := bd_e k70 (st_c fc71)
          refine gi_getF (pc := 254) (q := c71 + 12) hv69 fL_X6_68 (by rcases hc71 with rfl | rfl <;> rfl) (Nat.le_of_ble_eq_true rfl) rfl (by rcases hc71 with rfl | rfl <;> exact hv69.rf (by decide)) dX6_wireStatement_254 ?_
          refine go_iload (pc := 257) rfl dX6_wireStatement_257 ?_
          refine go_aload_n (pc := 259) rfl dX6_wireStatement_259 ?_
          refine go_aload_n (pc := 260) rfl dX6_wireStatement_260 ?_
          refine gi_getF (pc := 261) (q := 36) hv69 fL_X6_9 rfl (Nat.le_of_ble_eq_true rfl) rfl (hv69.rf (by decide)) dX6_wireStatement_261 ?_
          refine gi_getF (pc := 264) (q := 40) hv69 fL_X6_50 rfl (Nat.le_of_ble_eq_true rfl) rfl (hv69.rf (by decide)) dX6_wireStatement_264 ?_
          refine go_iload_n (pc := 267) rfl dX6_wireStatement_267 ?_
          refine gi_iald (pc := 268) (lo := -1) (hi := 127) (len := 128) hv69 (ti_rfl a2) rfl (by omega) (by omega) (fun _ => rfl) dX6_wireStatement_268 (fun v73 v73l v73u v73w => ?_)
          have k74 := bd_e k72 (congrArg Int32.toInt v73w.symm)
          refine go_iload_n (pc := 269) rfl dX6_wireStatement_269 ?_
          refine go_iload_n (pc := 270) rfl dX6_wireStatement_270 ?_
          refine go_iload (pc := 271) rfl dX6_wireStatement_271 ?_
          refine go_iconst (pc := 273) (v := 1) (by decide) dX6_wireStatement_273 ?_
          refine gf_iadd (pc := 274) (ti_rfl a5) (ti_c (v := 1) (a := 1) (by decide)) (by omega) (by omega) dX6_wireStatement_274 (fun v75 e76 => ?_)
          refine go_invV (pc := 275) (sl := 0) (s_X6_wireBlock_lv4_f l (d + 0) hv69 v73 (by rw [show (v73 : Int32).toInt = v73.toInt from (ti_rfl v73)]; omega) (by rw [show (v73 : Int32).toInt = v73.toInt from (ti_rfl v73)]; omega) a3 (by rw [show (a3 : Int32).toInt = a3.toInt from (ti_rfl a3)]; omega) (by rw [show (a3 : Int32).toInt = a3.toInt from (ti_rfl a3)]; omega) a4 (by rw [show (a4 : Int32).toInt = a4.toInt from (ti_rfl a4)]; omega) (by rw [show (a4 : Int32).toInt = a4.toInt from (ti_rfl a4)]; omega) v75 (by rw [show (v75 : Int32).toInt = (a5.toInt + 1) from e76]; omega) (by rw [show (v75 : Int32).toInt = (a5.toInt + 1) from e76]; omega)) mL_X6_34 iM_X6_wireBlock sM_X6_wireBlock (hv69.sh rfl) rfl rfl rfl (Nat.le_of_ble_eq_true rfl) (show d + 0 + 7 + 1 ≤ d + 8 by omega) (show 8 + (8 + 11) + 40 * (d + 0 + 7) ≤ 40 * (d + 8) by omega) (g_c0 hv69.ln) (Nat.le_of_ble_eq_true rfl) dX6_wireStatement_275 ?_
          intro r h77 hq _
          obtain ⟨v80, rfl, v80l, v80u, hv77, f78, f79⟩ := hq
          try rw [show (v75 : Int32).toInt = (a5.toInt + 1) from e76] at f78
          try rw [show (v75 : Int32).toInt = (a5.toInt + 1) from e76] at f79
          have fx77 : FX KC0 h h77 := FX.tr fx69 f79
          have k81 := bd2_e k74 f78
          refine gi_iast (pc := 278) (lo := 0) (hi := 44) (len := 40) hv77 (ti_rfl v1) (ti_rfl v80) (by rcases hc71 with rfl | rfl <;> rfl) (by omega) (by omega) (fun _ => by rcases hc71 with rfl | rfl <;> rfl) (by omega) (by omega) (by rcases hc71 with rfl | rfl <;> decide) dX6_wireStatement_278 (fun h82 hv82 hv82e => ?_)
          have fx82 : FX KC0 h h82 := FX.pI fx77 hv82e (by unfold KC0; omega)
          have k83 := bd_e k81 (st_I hv82e (ti_rfl v80))
          refine go_iload (pc := 279) rfl dX6_wireStatement_279 ?_
          exact gi_iret (pc := 281) (ti_rfl v1) ⟨_, rfl, (by rw [show (v1 : Int32).toInt = v1.toInt from (ti_rfl v1)]; omega), (by rw [show (v1 : Int32).toInt = v1.toInt from (ti_rfl v1)]; omega), hv82, (k83.symm.trans kf), fx82⟩ hv82 dX6_wireStatement_281
      ·
        have k84 := if_f k48 (fun z => z q49)
        refine go_aload_n (pc := 174) rfl dX6_wireStatement_174 ?_
        refine gi_getC (pc := 175) hv37 fL_X6_15 rfl (Nat.le_of_ble_eq_true rfl) rfl (by decide) dX6_wireStatement_175 (fun c85 hc85 fc85 => ?_)
        have k86 := bd_e k84 (st_c fc85)
        refine gi_getF (pc := 178) (q := c85 + 13) hv37 fL_X6_71 (by rcases hc85 with rfl | rfl <;> rfl) (Nat.le_of_ble_eq_true rfl) rfl (by rcases hc85 with rfl | rfl <;> exact hv37.rf (by decide)) dX6_wireStatement_178 ?_
        refine go_iload (pc := 181) rfl dX6_wireStatement_181 ?_
        refine go_aload_n (pc := 183) rfl dX6_wireStatement_183 ?_
        refine go_aload_n (pc := 184) rfl dX6_wireStatement_184 ?_
        refine gi_getF (pc := 185) (q := 36) hv37 fL_X6_9 rfl (Nat.le_of_ble_eq_true rfl) rfl (hv37.rf (by decide)) dX6_wireStatement_185 ?_
        refine gi_getF (pc := 188) (q := 39) hv37 fL_X6_59 rfl (Nat.le_of_ble_eq_true rfl) rfl (hv37.rf (by decide)) dX6_wireStatement_188 ?_
        refine go_iload_n (pc := 191) rfl dX6_wireStatement_191 ?_
        refine gi_iald (pc := 192) (lo := -1) (hi := 127) (len := 128) hv37 (ti_rfl a2) rfl (by omega) (by omega) (fun _ => rfl) dX6_wireStatement_192 (fun v87 v87l v87u v87w => ?_)
        have k88 := bd_e k86 (congrArg Int32.toInt v87w.symm)
        refine go_iload (pc := 193) rfl dX6_wireStatement_193 ?_
        refine go_iload_n (pc := 195) rfl dX6_wireStatement_195 ?_
        refine go_iload (pc := 196) rfl dX6_wireStatement_196 ?_
        refine go_iconst (pc := 198) (v := 1) (by decide) dX6_wireStatement_198 ?_
        refine gf_iadd (pc := 199) (ti_rfl a5) (ti_c (v := 1) (a := 1) (by decide)) (by omega) (by omega) dX6_wireStatement_199 (fun v89 e90 => ?_)
        refine go_invV (pc := 200) (sl := 0) (s_X6_wireBlock_lv4_f l (d + 0) hv37 v87 (by rw [show (v87 : Int32).toInt = v87.toInt from (ti_rfl v87)]; omega) (by rw [show (v87 : Int32).toInt = v87.toInt from (ti_rfl v87)]; omega) v1 (by rw [show (v1 : Int32).toInt = v1.toInt from (ti_rfl v1)]; omega) (by rw [show (v1 : Int32).toInt = v1.toInt from (ti_rfl v1)]; omega) a4 (by rw [show (a4 : Int32).toInt = a4.toInt from (ti_rfl a4)]; omega) (by rw [show (a4 : Int32).toInt = a4.toInt from (ti_rfl a4)]; omega) v89 (by rw [show (v89 : Int32).toInt = (a5.toInt + 1) from e90]; omega) (by rw [show (v89 : Int32).toInt = (a5.toInt + 1) from e90]; omega)) mL_X6_34 iM_X6_wireBlock sM_X6_wireBlock (hv37.sh rfl) rfl rfl rfl (Nat.le_of_ble_eq_true rfl) (show d + 0 + 7 + 1 ≤ d + 8 by omega) (show 8 + (8 + 11) + 40 * (d + 0 + 7) ≤ 40 * (d + 8) by omega) (g_c0 hv37.ln) (Nat.le_of_ble_eq_true rfl) dX6_wireStatement_200 ?_
        intro r h91 hq _
        obtain ⟨v94, rfl, v94l, v94u, hv91, f92, f93⟩ := hq
        try rw [show (v89 : Int32).toInt = (a5.toInt + 1) from e90] at f92
        try rw [show (v89 : Int32).toInt = (a5.toInt + 1) from e90] at f93
        have fx91 : FX KC0 h h91 := FX.tr fx37 f93
        have k95 := bd2_e k88 f92
        refine gi_iast (pc := 203) (lo := 0) (hi := 44) (len := 40) hv91 (ti_rfl v1) (ti_rfl v94) (by rcases hc85 with rfl | rfl <;> rfl) (by omega) (by omega) (fun _ => by rcases hc85 with rfl | rfl <;> rfl) (by omega) (by omega) (by rcases hc85 with rfl | rfl <;> decide) dX6_wireStatement_203 (fun h96 hv96 hv96e => ?_)
        have fx96 : FX KC0 h h96 := FX.pI fx91 hv96e (by unfold KC0; omega)
        have k97 := bd_e k95 (st_I hv96e (ti_rfl v94))
        refine go_goto (pc := 204) (tgt := 279) (by decide) dX6_wireStatement_204 ?_
        refine go_iload (pc := 279) rfl dX6_wireStatement_279 ?_
        exact gi_iret (pc := 281) (ti_rfl v1) ⟨_, rfl, (by rw [show (v1 : Int32).toInt = v1.toInt from (ti_rfl v1)]; omega), (by rw [show (v1 : Int32).toInt = v1.toInt from (ti_rfl v1)]; omega), hv96, (k97.symm.trans kf), fx96⟩ hv96 dX6_wireStatement_281
    ·
      have k98 := if_f k42 (fun z => z q43)
      refine go_aload_n (pc := 145) rfl dX6_wireStatement_145 ?_
      refine gi_getC (pc := 146) hv37 fL_X6_15 rfl (Nat.le_of_ble_eq_true rfl) rfl (by decide) dX6_wireStatement_146 (fun c99 hc99 fc99 => ?_)
      have k100 := bd_e k98 (st_c fc99)
      refine gi_getF (pc := 149) (q := c99 + 13) hv37 fL_X6_71 (by rcases hc99 with rfl | rfl <;> rfl) (Nat.le_of_ble_eq_true rfl) rfl (by rcases hc99 with rfl | rfl <;> exact hv37.rf (by decide)) dX6_wireStatement_149 ?_
      refine go_iload (pc := 152) rfl dX6_wireStatement_152 ?_
      refine go_iload (pc := 154) rfl dX6_wireStatement_154 ?_
      refine gi_iast (pc := 156) (lo := 0) (hi := 44) (len := 40) hv37 (ti_rfl v1) e8 (by rcases hc99 with rfl | rfl <;> rfl) (by omega) (by omega) (fun _ => by rcases hc99 with rfl | rfl <;> rfl) (by omega) (by omega) (by rcases hc99 with rfl | rfl <;> decide) dX6_wireStatement_156 (fun h101 hv101 hv101e => ?_)
      have fx101 : FX KC0 h h101 := FX.pI fx37 hv101e (by unfold KC0; omega)
      have k102 := bd_e k100 (st_I hv101e e8)
      refine go_goto (pc := 157) (tgt := 279) (by decide) dX6_wireStatement_157 ?_
      refine go_iload (pc := 279) rfl dX6_wireStatement_279 ?_
      exact gi_iret (pc := 281) (ti_rfl v1) ⟨_, rfl, (by rw [show (v1 : Int32).toInt = v1.toInt from (ti_rfl v1)]; omega), (by rw [show (v1 : Int32).toInt = v1.toInt from (ti_rfl v1)]; omega), hv101, (k102.symm.trans kf), fx101⟩ hv101 dX6_wireStatement_281
  ·
    have k103 := if_f k18 (Int.not_le.mpr q19)
    refine go_iload (pc := 61) rfl dX6_wireStatement_61 ?_
    refine go_goto (pc := 63) (tgt := 75) (by decide) dX6_wireStatement_63 ?_
    refine gi_iast (pc := 75) (lo := 0) (hi := 44) (len := 40) hv15 (ti_rfl v1) e8 (by rcases hc17 with rfl | rfl <;> rfl) (by omega) (by omega) (fun _ => by rcases hc17 with rfl | rfl <;> rfl) (by omega) (by omega) (by rcases hc17 with rfl | rfl <;> decide) dX6_wireStatement_75 (fun h104 hv104 hv104e => ?_)
    have fx104 : FX KC0 h h104 := FX.pI fx15 hv104e (by unfold KC0; omega)
    have k105 := bd_e k103 (st_I hv104e e8)
    refine go_aload_n (pc := 76) rfl dX6_wireStatement_76 ?_
    refine gi_getC (pc := 77) hv104 fL_X6_15 rfl (Nat.le_of_ble_eq_true rfl) rfl (by decide) dX6_wireStatement_77 (fun c106 hc106 fc106 => ?_)
    have k107 := bd_e k105 (st_c fc106)
    refine gi_getF (pc := 80) (q := c106 + 14) hv104 fL_X6_74 (by rcases hc106 with rfl | rfl <;> rfl) (Nat.le_of_ble_eq_true rfl) rfl (by rcases hc106 with rfl | rfl <;> exact hv104.rf (by decide)) dX6_wireStatement_80 ?_
    refine go_iload (pc := 83) rfl dX6_wireStatement_83 ?_
    refine go_iload_n (pc := 85) rfl dX6_wireStatement_85 ?_
    refine gf_if_ge (pc := 86) (tgt := 93) (ti_rfl a4) (by decide) dX6_wireStatement_86 (fun q108 => False.elim (by omega)) (fun q108 => ?_)
    refine go_iconst (pc := 89) (v := (-1)) (by decide) dX6_wireStatement_89 ?_
    refine go_goto (pc := 90) (tgt := 102) (by decide) dX6_wireStatement_90 ?_
    refine gi_iast (pc := 102) (lo := -1) (hi := 5) (len := 40) hv104 (ti_rfl v1) (ti_c (v := (-1)) (a := (-1)) (by decide)) (by rcases hc106 with rfl | rfl <;> rfl) (by omega) (by omega) (fun _ => by rcases hc106 with rfl | rfl <;> rfl) (by omega) (by omega) (by rcases hc106 with rfl | rfl <;> decide) dX6_wireStatement_102 (fun h109 hv109 hv109e => ?_)
    have fx109 : FX KC0 h h109 := FX.pI fx104 hv109e (by unfold KC0; omega)
    have k110 := bd_e k107 (st_I hv109e (ti_c (v := (-1)) (a := (-1)) (by decide)))
    refine go_aload_n (pc := 103) rfl dX6_wireStatement_103 ?_
    refine gi_getC (pc := 104) hv109 fL_X6_15 rfl (Nat.le_of_ble_eq_true rfl) rfl (by decide) dX6_wireStatement_104 (fun c111 hc111 fc111 => ?_)
    have k112 := bd_e k110 (st_c fc111)
    refine gi_getF (pc := 107) (q := c111 + 15) hv109 fL_X6_80 (by rcases hc111 with rfl | rfl <;> rfl) (Nat.le_of_ble_eq_true rfl) rfl (by rcases hc111 with rfl | rfl <;> exact hv109.rf (by decide)) dX6_wireStatement_107 ?_
    refine go_iload (pc := 110) rfl dX6_wireStatement_110 ?_
    refine go_iload_n (pc := 112) rfl dX6_wireStatement_112 ?_
    refine gf_if_ge (pc := 113) (tgt := 121) (ti_rfl a4) (by decide) dX6_wireStatement_113 (fun q113 => False.elim (by omega)) (fun q113 => ?_)
    refine go_bipush (pc := 116) (v := (-2)) (by decide) dX6_wireStatement_116 ?_
    refine go_goto (pc := 118) (tgt := 130) (by decide) dX6_wireStatement_118 ?_
    refine gi_iast (pc := 130) (lo := -2) (hi := 44) (len := 40) hv109 (ti_rfl v1) (ti_c (v := (-2)) (a := (-2)) (by decide)) (by rcases hc111 with rfl | rfl <;> rfl) (by omega) (by omega) (fun _ => by rcases hc111 with rfl | rfl <;> rfl) (by omega) (by omega) (by rcases hc111 with rfl | rfl <;> decide) dX6_wireStatement_130 (fun h114 hv114 hv114e => ?_)
    have fx114 : FX KC0 h h114 := FX.pI fx109 hv114e (by unfold KC0; omega)
    have k115 := bd_e k112 (st_I hv114e (ti_c (v := (-2)) (a := (-2)) (by decide)))
    refine go_aload_n (pc := 131) rfl dX6_wireStatement_131 ?_
    refine gi_getC (pc := 132) hv114 fL_X6_15 rfl (Nat.le_of_ble_eq_true rfl) rfl (by decide) dX6_wireStatement_132 (fun c116 hc116 fc116 => ?_)
    have k117 := bd_e k115 (st_c fc116)
    refine gi_getF (pc := 135) (q := c116 + 2) hv114 fL_X6_81 (by rcases hc116 with rfl | rfl <;> rfl) (Nat.le_of_ble_eq_true rfl) rfl (by rcases hc116 with rfl | rfl <;> exact hv114.rf (by decide)) dX6_wireStatement_135 ?_
    refine go_iload (pc := 138) rfl dX6_wireStatement_138 ?_
    refine gi_iald (pc := 140) (lo := 0) (hi := 5) (len := 40) hv114 (ti_rfl v1) (by rcases hc116 with rfl | rfl <;> rfl) (by omega) (by omega) (fun _ => by rcases hc116 with rfl | rfl <;> rfl) dX6_wireStatement_140 (fun v118 v118l v118u v118w => ?_)
    have k119 := bd_e k117 (congrArg Int32.toInt v118w.symm)
    refine go_iconst (pc := 141) (v := 5) (by decide) dX6_wireStatement_141 ?_
    refine gf_icmp_ne (pc := 142) (tgt := 160) (ti_rfl v118) (ti_c (v := 5) (a := 5) (by decide)) (by decide) dX6_wireStatement_142 (fun q120 => ?_) (fun q120 => ?_)
    ·
      have k121 := if_t k119 q120
      refine go_aload_n (pc := 160) rfl dX6_wireStatement_160 ?_
      refine gi_getC (pc := 161) hv114 fL_X6_15 rfl (Nat.le_of_ble_eq_true rfl) rfl (by decide) dX6_wireStatement_161 (fun c122 hc122 fc122 => ?_)
      have k123 := bd_e k121 (st_c fc122)
      refine gi_getF (pc := 164) (q := c122 + 2) hv114 fL_X6_81 (by rcases hc122 with rfl | rfl <;> rfl) (Nat.le_of_ble_eq_true rfl) rfl (by rcases hc122 with rfl | rfl <;> exact hv114.rf (by decide)) dX6_wireStatement_164 ?_
      refine go_iload (pc := 167) rfl dX6_wireStatement_167 ?_
      refine gi_iald (pc := 169) (lo := 0) (hi := 5) (len := 40) hv114 (ti_rfl v1) (by rcases hc122 with rfl | rfl <;> rfl) (by omega) (by omega) (fun _ => by rcases hc122 with rfl | rfl <;> rfl) dX6_wireStatement_169 (fun v124 v124l v124u v124w => ?_)
      have k125 := bd_e k123 (congrArg Int32.toInt v124w.symm)
      refine go_iconst (pc := 170) (v := 3) (by decide) dX6_wireStatement_170 ?_
      refine gf_icmp_ne (pc := 171) (tgt := 207) (ti_rfl v124) (ti_c (v := 3) (a := 3) (by decide)) (by decide) dX6_wireStatement_171 (fun q126 => ?_) (fun q126 => ?_)
      ·
        have k127 := if_t k125 q126
        refine go_aload_n (pc := 207) rfl dX6_wireStatement_207 ?_
        refine gi_getC (pc := 208) hv114 fL_X6_15 rfl (Nat.le_of_ble_eq_true rfl) rfl (by decide) dX6_wireStatement_208 (fun c128 hc128 fc128 => ?_)
        have k129 := bd_e k127 (st_c fc128)
        refine gi_getF (pc := 211) (q := c128 + 2) hv114 fL_X6_81 (by rcases hc128 with rfl | rfl <;> rfl) (Nat.le_of_ble_eq_true rfl) rfl (by rcases hc128 with rfl | rfl <;> exact hv114.rf (by decide)) dX6_wireStatement_211 ?_
        refine go_iload (pc := 214) rfl dX6_wireStatement_214 ?_
        refine gi_iald (pc := 216) (lo := 0) (hi := 5) (len := 40) hv114 (ti_rfl v1) (by rcases hc128 with rfl | rfl <;> rfl) (by omega) (by omega) (fun _ => by rcases hc128 with rfl | rfl <;> rfl) dX6_wireStatement_216 (fun v130 v130l v130u v130w => ?_)
        have k131 := bd_e k129 (congrArg Int32.toInt v130w.symm)
        refine go_iconst (pc := 217) (v := 2) (by decide) dX6_wireStatement_217 ?_
        refine gf_icmp_ne (pc := 218) (tgt := 279) (ti_rfl v130) (ti_c (v := 2) (a := 2) (by decide)) (by decide) dX6_wireStatement_218 (fun q132 => ?_) (fun q132 => ?_)
        ·
          have k133 := if_t k131 q132
          refine go_iload (pc := 279) rfl dX6_wireStatement_279 ?_
          exact gi_iret (pc := 281) (ti_rfl v1) ⟨_, rfl, (by rw [show (v1 : Int32).toInt = v1.toInt from (ti_rfl v1)]; omega), (by rw [show (v1 : Int32).toInt = v1.toInt from (ti_rfl v1)]; omega), hv114, (k133.symm.trans kf), fx114⟩ hv114 dX6_wireStatement_281
        ·
          have k134 := if_f k131 (fun z => z q132)
          refine go_aload_n (pc := 221) rfl dX6_wireStatement_221 ?_
          refine gi_getC (pc := 222) hv114 fL_X6_15 rfl (Nat.le_of_ble_eq_true rfl) rfl (by decide) dX6_wireStatement_222 (fun c135 hc135 fc135 => ?_)
          have k136 := bd_e k134 (st_c fc135)
          refine gi_getF (pc := 225) (q := c135 + 13) hv114 fL_X6_71 (by rcases hc135 with rfl | rfl <;> rfl) (Nat.le_of_ble_eq_true rfl) rfl (by rcases hc135 with rfl | rfl <;> exact hv114.rf (by decide)) dX6_wireStatement_225 ?_
          refine go_iload (pc := 228) rfl dX6_wireStatement_228 ?_
          refine go_aload_n (pc := 230) rfl dX6_wireStatement_230 ?_
          refine go_aload_n (pc := 231) rfl dX6_wireStatement_231 ?_
          refine gi_getF (pc := 232) (q := 36) hv114 fL_X6_9 rfl (Nat.le_of_ble_eq_true rfl) rfl (hv114.rf (by decide)) dX6_wireStatement_232 ?_
          refine gi_getF (pc := 235) (q := 39) hv114 fL_X6_59 rfl (Nat.le_of_ble_eq_true rfl) rfl (hv114.rf (by decide)) dX6_wireStatement_235 ?_
          refine go_iload_n (pc := 238) rfl dX6_wireStatement_238 ?_
          refine gi_iald (pc := 239) (lo := -1) (hi := 127) (len := 128) hv114 (ti_rfl a2) rfl (by omega) (by omega) (fun _ => rfl) dX6_wireStatement_239 (fun v137 v137l v137u v137w => ?_)
          have k138 := bd_e k136 (congrArg Int32.toInt v137w.symm)
          refine go_iload_n (pc := 240) rfl dX6_wireStatement_240 ?_
          refine go_iload_n (pc := 241) rfl dX6_wireStatement_241 ?_
          refine go_iload (pc := 242) rfl dX6_wireStatement_242 ?_
          refine go_iconst (pc := 244) (v := 1) (by decide) dX6_wireStatement_244 ?_
          refine gf_iadd (pc := 245) (ti_rfl a5) (ti_c (v := 1) (a := 1) (by decide)) (by omega) (by omega) dX6_wireStatement_245 (fun v139 e140 => ?_)
          refine go_invV (pc := 246) (sl := 0) (s_X6_wireBlock_lv4_f l (d + 0) hv114 v137 (by rw [show (v137 : Int32).toInt = v137.toInt from (ti_rfl v137)]; omega) (by rw [show (v137 : Int32).toInt = v137.toInt from (ti_rfl v137)]; omega) a3 (by rw [show (a3 : Int32).toInt = a3.toInt from (ti_rfl a3)]; omega) (by rw [show (a3 : Int32).toInt = a3.toInt from (ti_rfl a3)]; omega) a4 (by rw [show (a4 : Int32).toInt = a4.toInt from (ti_rfl a4)]; omega) (by rw [show (a4 : Int32).toInt = a4.toInt from (ti_rfl a4)]; omega) v139 (by rw [show (v139 : Int32).toInt = (a5.toInt + 1) from e140]; omega) (by rw [show (v139 : Int32).toInt = (a5.toInt + 1) from e140]; omega)) mL_X6_34 iM_X6_wireBlock sM_X6_wireBlock (hv114.sh rfl) rfl rfl rfl (Nat.le_of_ble_eq_true rfl) (show d + 0 + 7 + 1 ≤ d + 8 by omega) (show 8 + (8 + 11) + 40 * (d + 0 + 7) ≤ 40 * (d + 8) by omega) (g_c0 hv114.ln) (Nat.le_of_ble_eq_true rfl) dX6_wireStatement_246 ?_
          intro r h141 hq _
          obtain ⟨v144, rfl, v144l, v144u, hv141, f142, f143⟩ := hq
          try rw [show (v139 : Int32).toInt = (a5.toInt + 1) from e140] at f142
          try rw [show (v139 : Int32).toInt = (a5.toInt + 1) from e140] at f143
          have fx141 : FX KC0 h h141 := FX.tr fx114 f143
          have k145 := bd2_e k138 f142
          refine gi_iast (pc := 249) (lo := 0) (hi := 44) (len := 40) hv141 (ti_rfl v1) (ti_rfl v144) (by rcases hc135 with rfl | rfl <;> rfl) (by omega) (by omega) (fun _ => by rcases hc135 with rfl | rfl <;> rfl) (by omega) (by omega) (by rcases hc135 with rfl | rfl <;> decide) dX6_wireStatement_249 (fun h146 hv146 hv146e => ?_)
          have fx146 : FX KC0 h h146 := FX.pI fx141 hv146e (by unfold KC0; omega)
          have k147 := bd_e k145 (st_I hv146e (ti_rfl v144))
          refine go_aload_n (pc := 250) rfl dX6_wireStatement_250 ?_
          refine gi_getC (pc := 251) hv146 fL_X6_15 rfl (Nat.le_of_ble_eq_true rfl) rfl (by decide) dX6_wireStatement_251 (fun c148 hc148 fc148 => ?_)
          have k149 := bd_e k147 (st_c fc148)
          refine gi_getF (pc := 254) (q := c148 + 12) hv146 fL_X6_68 (by rcases hc148 with rfl | rfl <;> rfl) (Nat.le_of_ble_eq_true rfl) rfl (by rcases hc148 with rfl | rfl <;> exact hv146.rf (by decide)) dX6_wireStatement_254 ?_
          refine go_iload (pc := 257) rfl dX6_wireStatement_257 ?_
          refine go_aload_n (pc := 259) rfl dX6_wireStatement_259 ?_
          refine go_aload_n (pc := 260) rfl dX6_wireStatement_260 ?_
          refine gi_getF (pc := 261) (q := 36) hv146 fL_X6_9 rfl (Nat.le_of_ble_eq_true rfl) rfl (hv146.rf (by decide)) dX6_wireStatement_261 ?_
          refine gi_getF (pc := 264) (q := 40) hv146 fL_X6_50 rfl (Nat.le_of_ble_eq_true rfl) rfl (hv146.rf (by decide)) dX6_wireStatement_264 ?_
          refine go_iload_n (pc := 267) rfl dX6_wireStatement_267 ?_
          refine gi_iald (pc := 268) (lo := -1) (hi := 127) (len := 128) hv146 (ti_rfl a2) rfl (by omega) (by omega) (fun _ => rfl) dX6_wireStatement_268 (fun v150 v150l v150u v150w => ?_)
          have k151 := bd_e k149 (congrArg Int32.toInt v150w.symm)
          refine go_iload_n (pc := 269) rfl dX6_wireStatement_269 ?_
          refine go_iload_n (pc := 270) rfl dX6_wireStatement_270 ?_
          refine go_iload (pc := 271) rfl dX6_wireStatement_271 ?_
          refine go_iconst (pc := 273) (v := 1) (by decide) dX6_wireStatement_273 ?_
          refine gf_iadd (pc := 274) (ti_rfl a5) (ti_c (v := 1) (a := 1) (by decide)) (by omega) (by omega) dX6_wireStatement_274 (fun v152 e153 => ?_)
          refine go_invV (pc := 275) (sl := 0) (s_X6_wireBlock_lv4_f l (d + 0) hv146 v150 (by rw [show (v150 : Int32).toInt = v150.toInt from (ti_rfl v150)]; omega) (by rw [show (v150 : Int32).toInt = v150.toInt from (ti_rfl v150)]; omega) a3 (by rw [show (a3 : Int32).toInt = a3.toInt from (ti_rfl a3)]; omega) (by rw [show (a3 : Int32).toInt = a3.toInt from (ti_rfl a3)]; omega) a4 (by rw [show (a4 : Int32).toInt = a4.toInt from (ti_rfl a4)]; omega) (by rw [show (a4 : Int32).toInt = a4.toInt from (ti_rfl a4)]; omega) v152 (by rw [show (v152 : Int32).toInt = (a5.toInt + 1) from e153]; omega) (by rw [show (v152 : Int32).toInt = (a5.toInt + 1) from e153]; omega)) mL_X6_34 iM_X6_wireBlock sM_X6_wireBlock (hv146.sh rfl) rfl rfl rfl (Nat.le_of_ble_eq_true rfl) (show d + 0 + 7 + 1 ≤ d + 8 by omega) (show 8 + (8 + 11) + 40 * (d + 0 + 7) ≤ 40 * (d + 8) by omega) (g_c0 hv146.ln) (Nat.le_of_ble_eq_true rfl) dX6_wireStatement_275 ?_
          intro r h154 hq _
          obtain ⟨v157, rfl, v157l, v157u, hv154, f155, f156⟩ := hq
          try rw [show (v152 : Int32).toInt = (a5.toInt + 1) from e153] at f155
          try rw [show (v152 : Int32).toInt = (a5.toInt + 1) from e153] at f156
          have fx154 : FX KC0 h h154 := FX.tr fx146 f156
          have k158 := bd2_e k151 f155
          refine gi_iast (pc := 278) (lo := 0) (hi := 44) (len := 40) hv154 (ti_rfl v1) (ti_rfl v157) (by rcases hc148 with rfl | rfl <;> rfl) (by omega) (by omega) (fun _ => by rcases hc148 with rfl | rfl <;> rfl) (by omega) (by omega) (by rcases hc148 with rfl | rfl <;> decide) dX6_wireStatement_278 (fun h159 hv159 hv159e => ?_)
          have fx159 : FX KC0 h h159 := FX.pI fx154 hv159e (by unfold KC0; omega)
          have k160 := bd_e k158 (st_I hv159e (ti_rfl v157))
          refine go_iload (pc := 279) rfl dX6_wireStatement_279 ?_
          exact gi_iret (pc := 281) (ti_rfl v1) ⟨_, rfl, (by rw [show (v1 : Int32).toInt = v1.toInt from (ti_rfl v1)]; omega), (by rw [show (v1 : Int32).toInt = v1.toInt from (ti_rfl v1)]; omega), hv159, (k160.symm.trans kf), fx159⟩ hv159 dX6_wireStatement_281
      ·
        have k161 := if_f k125 (fun z => z q126)
        refine go_aload_n (pc := 174) rfl dX6_wireStatement_174 ?_
        refine gi_getC (pc := 175) hv114 fL_X6_15 rfl (Nat.le_of_ble_eq_true rfl) rfl (by decide) dX6_wireStatement_175 (fun c162 hc162 fc162 => ?_)
        have k163 := bd_e k161 (st_c fc162)
        refine gi_getF (pc := 178) (q := c162 + 13) hv114 fL_X6_71 (by rcases hc162 with rfl | rfl <;> rfl) (Nat.le_of_ble_eq_true rfl) rfl (by rcases hc162 with rfl | rfl <;> exact hv114.rf (by decide)) dX6_wireStatement_178 ?_
        refine go_iload (pc := 181) rfl dX6_wireStatement_181 ?_
        refine go_aload_n (pc := 183) rfl dX6_wireStatement_183 ?_
        refine go_aload_n (pc := 184) rfl dX6_wireStatement_184 ?_
        refine gi_getF (pc := 185) (q := 36) hv114 fL_X6_9 rfl (Nat.le_of_ble_eq_true rfl) rfl (hv114.rf (by decide)) dX6_wireStatement_185 ?_
        refine gi_getF (pc := 188) (q := 39) hv114 fL_X6_59 rfl (Nat.le_of_ble_eq_true rfl) rfl (hv114.rf (by decide)) dX6_wireStatement_188 ?_
        refine go_iload_n (pc := 191) rfl dX6_wireStatement_191 ?_
        refine gi_iald (pc := 192) (lo := -1) (hi := 127) (len := 128) hv114 (ti_rfl a2) rfl (by omega) (by omega) (fun _ => rfl) dX6_wireStatement_192 (fun v164 v164l v164u v164w => ?_)
        have k165 := bd_e k163 (congrArg Int32.toInt v164w.symm)
        refine go_iload (pc := 193) rfl dX6_wireStatement_193 ?_
        refine go_iload_n (pc := 195) rfl dX6_wireStatement_195 ?_
        refine go_iload (pc := 196) rfl dX6_wireStatement_196 ?_
        refine go_iconst (pc := 198) (v := 1) (by decide) dX6_wireStatement_198 ?_
        refine gf_iadd (pc := 199) (ti_rfl a5) (ti_c (v := 1) (a := 1) (by decide)) (by omega) (by omega) dX6_wireStatement_199 (fun v166 e167 => ?_)
        refine go_invV (pc := 200) (sl := 0) (s_X6_wireBlock_lv4_f l (d + 0) hv114 v164 (by rw [show (v164 : Int32).toInt = v164.toInt from (ti_rfl v164)]; omega) (by rw [show (v164 : Int32).toInt = v164.toInt from (ti_rfl v164)]; omega) v1 (by rw [show (v1 : Int32).toInt = v1.toInt from (ti_rfl v1)]; omega) (by rw [show (v1 : Int32).toInt = v1.toInt from (ti_rfl v1)]; omega) a4 (by rw [show (a4 : Int32).toInt = a4.toInt from (ti_rfl a4)]; omega) (by rw [show (a4 : Int32).toInt = a4.toInt from (ti_rfl a4)]; omega) v166 (by rw [show (v166 : Int32).toInt = (a5.toInt + 1) from e167]; omega) (by rw [show (v166 : Int32).toInt = (a5.toInt + 1) from e167]; omega)) mL_X6_34 iM_X6_wireBlock sM_X6_wireBlock (hv114.sh rfl) rfl rfl rfl (Nat.le_of_ble_eq_true rfl) (show d + 0 + 7 + 1 ≤ d + 8 by omega) (show 8 + (8 + 11) + 40 * (d + 0 + 7) ≤ 40 * (d + 8) by omega) (g_c0 hv114.ln) (Nat.le_of_ble_eq_true rfl) dX6_wireStatement_200 ?_
        intro r h168 hq _
        obtain ⟨v171, rfl, v171l, v171u, hv168, f169, f170⟩ := hq
        try rw [show (v166 : Int32).toInt = (a5.toInt + 1) from e167] at f169
        try rw [show (v166 : Int32).toInt = (a5.toInt + 1) from e167] at f170
        have fx168 : FX KC0 h h168 := FX.tr fx114 f170
        have k172 := bd2_e k165 f169
        refine gi_iast (pc := 203) (lo := 0) (hi := 44) (len := 40) hv168 (ti_rfl v1) (ti_rfl v171) (by rcases hc162 with rfl | rfl <;> rfl) (by omega) (by omega) (fun _ => by rcases hc162 with rfl | rfl <;> rfl) (by omega) (by omega) (by rcases hc162 with rfl | rfl <;> decide) dX6_wireStatement_203 (fun h173 hv173 hv173e => ?_)
        have fx173 : FX KC0 h h173 := FX.pI fx168 hv173e (by unfold KC0; omega)
        have k174 := bd_e k172 (st_I hv173e (ti_rfl v171))
        refine go_goto (pc := 204) (tgt := 279) (by decide) dX6_wireStatement_204 ?_
        refine go_iload (pc := 279) rfl dX6_wireStatement_279 ?_
        exact gi_iret (pc := 281) (ti_rfl v1) ⟨_, rfl, (by rw [show (v1 : Int32).toInt = v1.toInt from (ti_rfl v1)]; omega), (by rw [show (v1 : Int32).toInt = v1.toInt from (ti_rfl v1)]; omega), hv173, (k174.symm.trans kf), fx173⟩ hv173 dX6_wireStatement_281
    ·
      have k175 := if_f k119 (fun z => z q120)
      refine go_aload_n (pc := 145) rfl dX6_wireStatement_145 ?_
      refine gi_getC (pc := 146) hv114 fL_X6_15 rfl (Nat.le_of_ble_eq_true rfl) rfl (by decide) dX6_wireStatement_146 (fun c176 hc176 fc176 => ?_)
      have k177 := bd_e k175 (st_c fc176)
      refine gi_getF (pc := 149) (q := c176 + 13) hv114 fL_X6_71 (by rcases hc176 with rfl | rfl <;> rfl) (Nat.le_of_ble_eq_true rfl) rfl (by rcases hc176 with rfl | rfl <;> exact hv114.rf (by decide)) dX6_wireStatement_149 ?_
      refine go_iload (pc := 152) rfl dX6_wireStatement_152 ?_
      refine go_iload (pc := 154) rfl dX6_wireStatement_154 ?_
      refine gi_iast (pc := 156) (lo := 0) (hi := 44) (len := 40) hv114 (ti_rfl v1) e8 (by rcases hc176 with rfl | rfl <;> rfl) (by omega) (by omega) (fun _ => by rcases hc176 with rfl | rfl <;> rfl) (by omega) (by omega) (by rcases hc176 with rfl | rfl <;> decide) dX6_wireStatement_156 (fun h178 hv178 hv178e => ?_)
      have fx178 : FX KC0 h h178 := FX.pI fx114 hv178e (by unfold KC0; omega)
      have k179 := bd_e k177 (st_I hv178e e8)
      refine go_goto (pc := 157) (tgt := 279) (by decide) dX6_wireStatement_157 ?_
      refine go_iload (pc := 279) rfl dX6_wireStatement_279 ?_
      exact gi_iret (pc := 281) (ti_rfl v1) ⟨_, rfl, (by rw [show (v1 : Int32).toInt = v1.toInt from (ti_rfl v1)]; omega), (by rw [show (v1 : Int32).toInt = v1.toInt from (ti_rfl v1)]; omega), hv178, (k179.symm.trans kf), fx178⟩ hv178 dX6_wireStatement_281
def f_X6_wireBlock_lv3_ : Nat → Nat → Int → Int → Int → Int → Int → ST → ST × Int
  | 0, _, _, _, _, _, _, sx => (sx, 0)
  | n + 1, _, l3, l4, l5, l6, l7, sx => if 128 ≤ l7 then ((sx, l5)) else (if l6 < 0 then ((sx, l5)) else (bd (sx.1 37 (l6).toNat) fun v7 => if ¬ v7 = (-1) then (bd2 (f_X6_wireStatement_lv3 sx l6 l5 l3 l4) fun s11 v14 => bd (s11.1 38 (l6).toNat) fun v16 => f_X6_wireBlock_lv3_ n 20 l3 l4 v14 v16 ((l7 + 1)) s11) else (bd2 (f_X6_wireTry_lv3 sx l6 l5 l3 l4) fun s22 v25 => bd (s22.1 38 (l6).toNat) fun v27 => f_X6_wireBlock_lv3_ n 20 l3 l4 v25 v27 ((l7 + 1)) s22)))
def f_X6_wireBlock_lv3 (s : ST) (a2 : Int) (a3 : Int) (a4 : Int) (a5 : Int) : ST × Int :=
  f_X6_wireBlock_lv3_ 403 20 a4 a5 a3 a2 0 s
set_option maxHeartbeats 4000000 in
set_option maxRecDepth 100000 in
theorem s_X6_wireBlock_lv3_f (l : Launch) (d : Nat) {P : PP} {h : HP} (hv : Iv P h) (a2 : Int32) (a2l : -1 ≤ a2.toInt) (a2u : a2.toInt ≤ 127) (a3 : Int32) (a3l : 0 ≤ a3.toInt) (a3u : a3.toInt ≤ 44) (a4 : Int32) (a4l : -1 ≤ a4.toInt) (a4u : a4.toInt ≤ 127) (a5 : Int32) (a5l : 3 ≤ a5.toInt) (a5u : a5.toInt ≤ 3) : Mt l yX6_wireBlock cX6_wireBlock 8 (some .int) (d + 9) [.ref 48, .int a2, .int a3, .int a4, .int a5] h 0 0 (fun r h' => ∃ v : Int32, r = some (.int v) ∧ 0 ≤ v.toInt ∧ v.toInt ≤ 44 ∧ Iv P h' ∧ ((st h', v.toInt) = f_X6_wireBlock_lv3 (st h) a2.toInt a3.toInt a4.toInt a5.toInt) ∧ (FX KC0 h h')) := by
  refine Mt_iv hv (by decide) (Nat.le_of_ble_eq_true rfl) ?_
  show Go l RX6 cX6_wireBlock 8 (g_rm (d + 9) 0 0) "wireBlock" (some .int) 117 0 0 (fun _ _ => True) (fun r h' => ∃ v : Int32, r = some (.int v) ∧ 0 ≤ v.toInt ∧ v.toInt ≤ 44 ∧ Iv P h' ∧ ((st h', v.toInt) = f_X6_wireBlock_lv3 (st h) a2.toInt a3.toInt a4.toInt a5.toInt) ∧ (FX KC0 h h')) 0 0 [(0, .ref 48), (1, .int a2), (2, .int a3), (3, .int a4), (4, .int a5)] [] h
  have fx : FX KC0 h h := FX.rfl
  obtain ⟨fin, kf⟩ : ∃ z, z = f_X6_wireBlock_lv3 (st h) a2.toInt a3.toInt a4.toInt a5.toInt := ⟨_, _root_.rfl⟩
  have k0 := kf
  unfold f_X6_wireBlock_lv3 at k0
  have key : ∀ n : Nat, (∀ (l3 : Int32) (l4 : Int32) (l5 : Int32) (l6 : Int32) (l7 : Int32) (hx : HP), Iv P hx → -1 ≤ l3.toInt → l3.toInt ≤ 127 → 3 ≤ l4.toInt → l4.toInt ≤ 3 → 0 ≤ l5.toInt → l5.toInt ≤ 44 → -1 ≤ l6.toInt → l6.toInt ≤ 127 → 0 ≤ l7.toInt → l7.toInt ≤ 128 → FX KC0 h hx → fin = f_X6_wireBlock_lv3_ n 20 l3.toInt l4.toInt l5.toInt l6.toInt l7.toInt (st hx) → (3 * (128 - l7.toInt) + 2 : Int) < n → Go l RX6 cX6_wireBlock 8 (g_rm (d + 9) 0 0) "wireBlock" (some .int) 117 0 0 (fun _ _ => True) (fun r h' => ∃ v : Int32, r = some (.int v) ∧ 0 ≤ v.toInt ∧ v.toInt ≤ 44 ∧ Iv P h' ∧ ((st h', v.toInt) = f_X6_wireBlock_lv3 (st h) a2.toInt a3.toInt a4.toInt a5.toInt) ∧ (FX KC0 h h')) 0 20 [(0, .ref 48), (3, .int l3), (4, .int l4), (5, .int l5), (6, .int l6), (7, .int l7)] [] hx) := by
    intro n
    induction n with
    | zero => exact (by intros; omega)
    | succ n ih =>
      refine ?_
      ·
        intro l3 l4 l5 l6 l7 hx hvx l3l l3u l4l l4u l5l l5u l6l l6u l7l l7u fxx kL hm
        rw [f_X6_wireBlock_lv3_] at kL
        refine go_iload (pc := 20) rfl dX6_wireBlock_20 ?_
        refine go_sipush (pc := 22) (v := 128) (by decide) dX6_wireBlock_22 ?_
        refine gf_icmp_ge (pc := 25) (tgt := 94) (ti_rfl l7) (ti_c (v := 128) (a := 128) (by decide)) (by decide) dX6_wireBlock_25 (fun q1 => ?_) (fun q1 => ?_)
        ·
          have k2 := if_t kL q1
          refine go_iload (pc := 94) rfl dX6_wireBlock_94 ?_
          exact gi_iret (pc := 96) (ti_rfl l5) ⟨_, rfl, (by rw [show (l5 : Int32).toInt = l5.toInt from (ti_rfl l5)]; omega), (by rw [show (l5 : Int32).toInt = l5.toInt from (ti_rfl l5)]; omega), hvx, (k2.symm.trans kf), fxx⟩ hvx dX6_wireBlock_96
        ·
          have k3 := if_f kL (Int.not_le.mpr q1)
          refine go_iload (pc := 28) rfl dX6_wireBlock_28 ?_
          refine gf_if_lt (pc := 30) (tgt := 94) (ti_rfl l6) (by decide) dX6_wireBlock_30 (fun q4 => ?_) (fun q4 => ?_)
          ·
            have k5 := if_t k3 q4
            refine go_iload (pc := 94) rfl dX6_wireBlock_94 ?_
            exact gi_iret (pc := 96) (ti_rfl l5) ⟨_, rfl, (by rw [show (l5 : Int32).toInt = l5.toInt from (ti_rfl l5)]; omega), (by rw [show (l5 : Int32).toInt = l5.toInt from (ti_rfl l5)]; omega), hvx, (k5.symm.trans kf), fxx⟩ hvx dX6_wireBlock_96
          ·
            have k6 := if_f k3 (Int.not_lt.mpr q4)
            refine go_aload_n (pc := 33) rfl dX6_wireBlock_33 ?_
            refine gi_getF (pc := 34) (q := 36) hvx fL_X6_9 rfl (Nat.le_of_ble_eq_true rfl) rfl (hvx.rf (by decide)) dX6_wireBlock_34 ?_
            refine gi_getF (pc := 37) (q := 37) hvx fL_X6_38 rfl (Nat.le_of_ble_eq_true rfl) rfl (hvx.rf (by decide)) dX6_wireBlock_37 ?_
            refine go_iload (pc := 40) rfl dX6_wireBlock_40 ?_
            refine gi_iald (pc := 42) (lo := -1) (hi := 39) (len := 128) hvx (ti_rfl l6) rfl (by omega) (by omega) (fun _ => rfl) dX6_wireBlock_42 (fun v7 v7l v7u v7w => ?_)
            have k8 := bd_e k6 (congrArg Int32.toInt v7w.symm)
            refine go_iconst (pc := 43) (v := (-1)) (by decide) dX6_wireBlock_43 ?_
            refine gf_icmp_ne (pc := 44) (tgt := 63) (ti_rfl v7) (ti_c (v := (-1)) (a := (-1)) (by decide)) (by decide) dX6_wireBlock_44 (fun q9 => ?_) (fun q9 => ?_)
            ·
              have k10 := if_t k8 q9
              refine go_aload_n (pc := 63) rfl dX6_wireBlock_63 ?_
              refine go_iload (pc := 64) rfl dX6_wireBlock_64 ?_
              refine go_iload (pc := 66) rfl dX6_wireBlock_66 ?_
              refine go_iload_n (pc := 68) rfl dX6_wireBlock_68 ?_
              refine go_iload (pc := 69) rfl dX6_wireBlock_69 ?_
              refine go_invV (pc := 71) (sl := 0) (s_X6_wireStatement_lv3_f l (d + 0) hvx l6 (by rw [show (l6 : Int32).toInt = l6.toInt from (ti_rfl l6)]; omega) (by rw [show (l6 : Int32).toInt = l6.toInt from (ti_rfl l6)]; omega) l5 (by rw [show (l5 : Int32).toInt = l5.toInt from (ti_rfl l5)]; omega) (by rw [show (l5 : Int32).toInt = l5.toInt from (ti_rfl l5)]; omega) l3 (by rw [show (l3 : Int32).toInt = l3.toInt from (ti_rfl l3)]; omega) (by rw [show (l3 : Int32).toInt = l3.toInt from (ti_rfl l3)]; omega) l4 (by rw [show (l4 : Int32).toInt = l4.toInt from (ti_rfl l4)]; omega) (by rw [show (l4 : Int32).toInt = l4.toInt from (ti_rfl l4)]; omega) (by rw [← v7w]; omega)) mL_X6_44 iM_X6_wireStatement sM_X6_wireStatement (hvx.sh rfl) rfl rfl rfl (Nat.le_of_ble_eq_true rfl) (show d + 0 + 8 + 1 ≤ d + 9 by omega) (show 8 + (7 + 11) + 40 * (d + 0 + 8) ≤ 40 * (d + 9) by omega) (g_c0 hvx.ln) (Nat.le_of_ble_eq_true rfl) dX6_wireBlock_71 ?_
              intro r h11 hq _
              obtain ⟨v14, rfl, v14l, v14u, hv11, f12, f13⟩ := hq
              have fx11 : FX KC0 h h11 := FX.tr fxx f13
              have k15 := bd2_e k10 f12
              refine go_istore (pc := 74) (Nat.le_of_ble_eq_true rfl) dX6_wireBlock_74 (go_lv (lv2 := [(0, .ref 48), (3, .int l3), (4, .int l4), (5, .int v14), (6, .int l6), (7, .int l7)]) rfl ?_)
              refine go_aload_n (pc := 76) rfl dX6_wireBlock_76 ?_
              refine gi_getF (pc := 77) (q := 36) hv11 fL_X6_9 rfl (Nat.le_of_ble_eq_true rfl) rfl (hv11.rf (by decide)) dX6_wireBlock_77 ?_
              refine gi_getF (pc := 80) (q := 38) hv11 fL_X6_47 rfl (Nat.le_of_ble_eq_true rfl) rfl (hv11.rf (by decide)) dX6_wireBlock_80 ?_
              refine go_iload (pc := 83) rfl dX6_wireBlock_83 ?_
              refine gi_iald (pc := 85) (lo := -1) (hi := 127) (len := 128) hv11 (ti_rfl l6) rfl (by omega) (by omega) (fun _ => rfl) dX6_wireBlock_85 (fun v16 v16l v16u v16w => ?_)
              have k17 := bd_e k15 (congrArg Int32.toInt v16w.symm)
              refine go_istore (pc := 86) (Nat.le_of_ble_eq_true rfl) dX6_wireBlock_86 (go_lv (lv2 := [(0, .ref 48), (3, .int l3), (4, .int l4), (5, .int v14), (6, .int v16), (7, .int l7)]) rfl ?_)
              refine gf_iinc (pc := 88) (Nat.le_of_ble_eq_true rfl) rfl (ti_rfl l7) (ti_c (by decide)) (by omega) (by omega) dX6_wireBlock_88 (fun v18 e19 => ?_)
              refine go_lv (lv2 := [(0, .ref 48), (3, .int l3), (4, .int l4), (5, .int v14), (6, .int v16), (7, .int v18)]) rfl ?_
              refine go_goto (pc := 91) (tgt := 20) (by decide) dX6_wireBlock_91 ?_
              have z20 : (v18 : Int32).toInt = (l7.toInt + 1) := e19
              exact go_lv rfl (ih l3 l4 v14 v16 v18 h11 hv11 (by omega) (by omega) (by omega) (by omega) (by omega) (by omega) (by omega) (by omega) (by omega) (by omega) fx11 (by rw [show (v18 : Int32).toInt = (l7.toInt + 1) from e19]; exact k17) (by omega))
            ·
              have k21 := if_f k8 (fun z => z q9)
              refine go_aload_n (pc := 47) rfl dX6_wireBlock_47 ?_
              refine go_iload (pc := 48) rfl dX6_wireBlock_48 ?_
              refine go_iload (pc := 50) rfl dX6_wireBlock_50 ?_
              refine go_iload_n (pc := 52) rfl dX6_wireBlock_52 ?_
              refine go_iload (pc := 53) rfl dX6_wireBlock_53 ?_
              refine go_invV (pc := 55) (sl := 0) (s_X6_wireTry_lv3_f l (d + 0) hvx l6 (by rw [show (l6 : Int32).toInt = l6.toInt from (ti_rfl l6)]; omega) (by rw [show (l6 : Int32).toInt = l6.toInt from (ti_rfl l6)]; omega) l5 (by rw [show (l5 : Int32).toInt = l5.toInt from (ti_rfl l5)]; omega) (by rw [show (l5 : Int32).toInt = l5.toInt from (ti_rfl l5)]; omega) l3 (by rw [show (l3 : Int32).toInt = l3.toInt from (ti_rfl l3)]; omega) (by rw [show (l3 : Int32).toInt = l3.toInt from (ti_rfl l3)]; omega) l4 (by rw [show (l4 : Int32).toInt = l4.toInt from (ti_rfl l4)]; omega) (by rw [show (l4 : Int32).toInt = l4.toInt from (ti_rfl l4)]; omega)) mL_X6_41 iM_X6_wireTry sM_X6_wireTry (hvx.sh rfl) rfl rfl rfl (Nat.le_of_ble_eq_true rfl) (show d + 0 + 8 + 1 ≤ d + 9 by omega) (show 8 + (6 + 11) + 40 * (d + 0 + 8) ≤ 40 * (d + 9) by omega) (g_c0 hvx.ln) (Nat.le_of_ble_eq_true rfl) dX6_wireBlock_55 ?_
              intro r h22 hq _
              obtain ⟨v25, rfl, v25l, v25u, hv22, f23, f24⟩ := hq
              have fx22 : FX KC0 h h22 := FX.tr fxx f24
              have k26 := bd2_e k21 f23
              refine go_istore (pc := 58) (Nat.le_of_ble_eq_true rfl) dX6_wireBlock_58 (go_lv (lv2 := [(0, .ref 48), (3, .int l3), (4, .int l4), (5, .int v25), (6, .int l6), (7, .int l7)]) rfl ?_)
              refine go_goto (pc := 60) (tgt := 76) (by decide) dX6_wireBlock_60 ?_
              refine go_aload_n (pc := 76) rfl dX6_wireBlock_76 ?_
              refine gi_getF (pc := 77) (q := 36) hv22 fL_X6_9 rfl (Nat.le_of_ble_eq_true rfl) rfl (hv22.rf (by decide)) dX6_wireBlock_77 ?_
              refine gi_getF (pc := 80) (q := 38) hv22 fL_X6_47 rfl (Nat.le_of_ble_eq_true rfl) rfl (hv22.rf (by decide)) dX6_wireBlock_80 ?_
              refine go_iload (pc := 83) rfl dX6_wireBlock_83 ?_
              refine gi_iald (pc := 85) (lo := -1) (hi := 127) (len := 128) hv22 (ti_rfl l6) rfl (by omega) (by omega) (fun _ => rfl) dX6_wireBlock_85 (fun v27 v27l v27u v27w => ?_)
              have k28 := bd_e k26 (congrArg Int32.toInt v27w.symm)
              refine go_istore (pc := 86) (Nat.le_of_ble_eq_true rfl) dX6_wireBlock_86 (go_lv (lv2 := [(0, .ref 48), (3, .int l3), (4, .int l4), (5, .int v25), (6, .int v27), (7, .int l7)]) rfl ?_)
              refine gf_iinc (pc := 88) (Nat.le_of_ble_eq_true rfl) rfl (ti_rfl l7) (ti_c (by decide)) (by omega) (by omega) dX6_wireBlock_88 (fun v29 e30 => ?_)
              refine go_lv (lv2 := [(0, .ref 48), (3, .int l3), (4, .int l4), (5, .int v25), (6, .int v27), (7, .int v29)]) rfl ?_
              refine go_goto (pc := 91) (tgt := 20) (by decide) dX6_wireBlock_91 ?_
              have z31 : (v29 : Int32).toInt = (l7.toInt + 1) := e30
              exact go_lv rfl (ih l3 l4 v25 v27 v29 h22 hv22 (by omega) (by omega) (by omega) (by omega) (by omega) (by omega) (by omega) (by omega) (by omega) (by omega) fx22 (by rw [show (v29 : Int32).toInt = (l7.toInt + 1) from e30]; exact k28) (by omega))
  refine go_iload_n (pc := 0) rfl dX6_wireBlock_0 ?_
  refine go_istore (pc := 1) (Nat.le_of_ble_eq_true rfl) dX6_wireBlock_1 (go_lv (lv2 := [(0, .ref 48), (1, .int a2), (2, .int a3), (3, .int a4), (4, .int a5), (5, .int a3)]) rfl ?_)
  refine go_iload (pc := 3) rfl dX6_wireBlock_3 ?_
  refine go_bipush (pc := 5) (v := 6) (by decide) dX6_wireBlock_5 ?_
  refine gf_icmp_le (pc := 7) (tgt := 14) (ti_rfl a5) (ti_c (v := 6) (a := 6) (by decide)) (by decide) dX6_wireBlock_7 (fun q32 => ?_) (fun q32 => False.elim (by omega))
  refine go_iload_n (pc := 14) rfl dX6_wireBlock_14 ?_
  refine go_istore (pc := 15) (Nat.le_of_ble_eq_true rfl) dX6_wireBlock_15 (go_lv (lv2 := [(0, .ref 48), (1, .int a2), (2, .int a3), (3, .int a4), (4, .int a5), (5, .int a3), (6, .int a2)]) rfl ?_)
  refine go_iconst (pc := 17) (v := 0) (by decide) dX6_wireBlock_17 ?_
  refine go_istore (pc := 18) (Nat.le_of_ble_eq_true rfl) dX6_wireBlock_18 (go_lv (lv2 := [(0, .ref 48), (1, .int a2), (2, .int a3), (3, .int a4), (4, .int a5), (5, .int a3), (6, .int a2), (7, .int 0)]) rfl ?_)
  have z33 : (0 : Int32).toInt = 0 := (ti_c (v := 0) (a := 0) (by decide))
  exact go_lv rfl ((key 403) a4 a5 a3 a2 0 h hv (by omega) (by omega) (by omega) (by omega) (by omega) (by omega) (by omega) (by omega) (by omega) (by omega) fx (by rw [show (0 : Int32).toInt = 0 from (ti_c (v := 0) (a := 0) (by decide))]; exact k0) (by omega))
def f_X6_wireTry_lv2 (s : ST) (a2 : Int) (a3 : Int) (a4 : Int) (a5 : Int) : ST × Int :=
  bd (s.1 40 (a2).toNat) fun v1 => bd2 (f_X6_wireBlock_lv3 s v1 a3 a4 ((a5 + 1))) fun s5 v8 => bd (sI s5 42 (a2).toNat v8) fun s10 => if ¬ v8 = a3 then (bd (sI s10 43 (a2).toNat v8) fun s14 => bd (s14.1 39 (a2).toNat) fun v16 => bd2 (f_X6_wireBlock_lv3 s14 v16 a3 a2 ((a5 + 1))) fun s20 v23 => (s20, v23)) else (bd (sI s10 43 (a2).toNat (-2)) fun s26 => bd (s26.1 39 (a2).toNat) fun v28 => bd2 (f_X6_wireBlock_lv3 s26 v28 a3 a2 ((a5 + 1))) fun s32 v35 => (s32, v35))
set_option maxHeartbeats 4000000 in
set_option maxRecDepth 100000 in
theorem s_X6_wireTry_lv2_f (l : Launch) (d : Nat) {P : PP} {h : HP} (hv : Iv P h) (a2 : Int32) (a2l : 0 ≤ a2.toInt) (a2u : a2.toInt ≤ 127) (a3 : Int32) (a3l : 0 ≤ a3.toInt) (a3u : a3.toInt ≤ 44) (a4 : Int32) (a4l : -1 ≤ a4.toInt) (a4u : a4.toInt ≤ 127) (a5 : Int32) (a5l : 2 ≤ a5.toInt) (a5u : a5.toInt ≤ 2) : Mt l yX6_wireTry cX6_wireTry 6 (some .int) (d + 10) [.ref 48, .int a2, .int a3, .int a4, .int a5] h 0 0 (fun r h' => ∃ v : Int32, r = some (.int v) ∧ 0 ≤ v.toInt ∧ v.toInt ≤ 44 ∧ Iv P h' ∧ ((st h', v.toInt) = f_X6_wireTry_lv2 (st h) a2.toInt a3.toInt a4.toInt a5.toInt) ∧ (FX KC0 h h')) := by
  refine Mt_iv hv (by decide) (Nat.le_of_ble_eq_true rfl) ?_
  show Go l RX6 cX6_wireTry 6 (g_rm (d + 10) 0 0) "wireTry" (some .int) 117 0 0 (fun _ _ => True) (fun r h' => ∃ v : Int32, r = some (.int v) ∧ 0 ≤ v.toInt ∧ v.toInt ≤ 44 ∧ Iv P h' ∧ ((st h', v.toInt) = f_X6_wireTry_lv2 (st h) a2.toInt a3.toInt a4.toInt a5.toInt) ∧ (FX KC0 h h')) 0 0 [(0, .ref 48), (1, .int a2), (2, .int a3), (3, .int a4), (4, .int a5)] [] h
  have fx : FX KC0 h h := FX.rfl
  obtain ⟨fin, kf⟩ : ∃ z, z = f_X6_wireTry_lv2 (st h) a2.toInt a3.toInt a4.toInt a5.toInt := ⟨_, _root_.rfl⟩
  have k0 := kf
  unfold f_X6_wireTry_lv2 at k0
  refine go_aload_n (pc := 0) rfl dX6_wireTry_0 ?_
  refine go_aload_n (pc := 1) rfl dX6_wireTry_1 ?_
  refine gi_getF (pc := 2) (q := 36) hv fL_X6_9 rfl (Nat.le_of_ble_eq_true rfl) rfl (hv.rf (by decide)) dX6_wireTry_2 ?_
  refine gi_getF (pc := 5) (q := 40) hv fL_X6_50 rfl (Nat.le_of_ble_eq_true rfl) rfl (hv.rf (by decide)) dX6_wireTry_5 ?_
  refine go_iload_n (pc := 8) rfl dX6_wireTry_8 ?_
  refine gi_iald (pc := 9) (lo := -1) (hi := 127) (len := 128) hv (ti_rfl a2) rfl (by omega) (by omega) (fun _ => rfl) dX6_wireTry_9 (fun v1 v1l v1u v1w => ?_)
  have k2 := bd_e k0 (congrArg Int32.toInt v1w.symm)
  refine go_iload_n (pc := 10) rfl dX6_wireTry_10 ?_
  refine go_iload_n (pc := 11) rfl dX6_wireTry_11 ?_
  refine go_iload (pc := 12) rfl dX6_wireTry_12 ?_
  refine go_iconst (pc := 14) (v := 1) (by decide) dX6_wireTry_14 ?_
  refine gf_iadd (pc := 15) (ti_rfl a5) (ti_c (v := 1) (a := 1) (by decide)) (by omega) (by omega) dX6_wireTry_15 (fun v3 e4 => ?_)
  refine go_invV (pc := 16) (sl := 0) (s_X6_wireBlock_lv3_f l (d + 0) hv v1 (by rw [show (v1 : Int32).toInt = v1.toInt from (ti_rfl v1)]; omega) (by rw [show (v1 : Int32).toInt = v1.toInt from (ti_rfl v1)]; omega) a3 (by rw [show (a3 : Int32).toInt = a3.toInt from (ti_rfl a3)]; omega) (by rw [show (a3 : Int32).toInt = a3.toInt from (ti_rfl a3)]; omega) a4 (by rw [show (a4 : Int32).toInt = a4.toInt from (ti_rfl a4)]; omega) (by rw [show (a4 : Int32).toInt = a4.toInt from (ti_rfl a4)]; omega) v3 (by rw [show (v3 : Int32).toInt = (a5.toInt + 1) from e4]; omega) (by rw [show (v3 : Int32).toInt = (a5.toInt + 1) from e4]; omega)) mL_X6_34 iM_X6_wireBlock sM_X6_wireBlock (hv.sh rfl) rfl rfl rfl (Nat.le_of_ble_eq_true rfl) (show d + 0 + 9 + 1 ≤ d + 10 by omega) (show 8 + (8 + 11) + 40 * (d + 0 + 9) ≤ 40 * (d + 10) by omega) (g_c0 hv.ln) (Nat.le_of_ble_eq_true rfl) dX6_wireTry_16 ?_
  intro r h5 hq _
  obtain ⟨v8, rfl, v8l, v8u, hv5, f6, f7⟩ := hq
  try rw [show (v3 : Int32).toInt = (a5.toInt + 1) from e4] at f6
  try rw [show (v3 : Int32).toInt = (a5.toInt + 1) from e4] at f7
  have fx5 : FX KC0 h h5 := FX.tr fx f7
  have k9 := bd2_e k2 f6
  refine go_istore (pc := 19) (Nat.le_of_ble_eq_true rfl) dX6_wireTry_19 (go_lv (lv2 := [(0, .ref 48), (1, .int a2), (2, .int a3), (3, .int a4), (4, .int a5), (5, .int v8)]) rfl ?_)
  refine go_aload_n (pc := 21) rfl dX6_wireTry_21 ?_
  refine gi_getF (pc := 22) (q := 36) hv5 fL_X6_9 rfl (Nat.le_of_ble_eq_true rfl) rfl (hv5.rf (by decide)) dX6_wireTry_22 ?_
  refine gi_getF (pc := 25) (q := 42) hv5 fL_X6_53 rfl (Nat.le_of_ble_eq_true rfl) rfl (hv5.rf (by decide)) dX6_wireTry_25 ?_
  refine go_iload_n (pc := 28) rfl dX6_wireTry_28 ?_
  refine go_iload (pc := 29) rfl dX6_wireTry_29 ?_
  refine gi_iast (pc := 31) (lo := 0) (hi := 44) (len := 128) hv5 (ti_rfl a2) (ti_rfl v8) rfl (by omega) (by omega) (fun _ => rfl) (by omega) (by omega) (by decide) dX6_wireTry_31 (fun h10 hv10 hv10e => ?_)
  have fx10 : FX KC0 h h10 := FX.pI fx5 hv10e (by unfold KC0; omega)
  have k11 := bd_e k9 (st_I hv10e (ti_rfl v8))
  refine go_aload_n (pc := 32) rfl dX6_wireTry_32 ?_
  refine gi_getF (pc := 33) (q := 36) hv10 fL_X6_9 rfl (Nat.le_of_ble_eq_true rfl) rfl (hv10.rf (by decide)) dX6_wireTry_33 ?_
  refine gi_getF (pc := 36) (q := 43) hv10 fL_X6_56 rfl (Nat.le_of_ble_eq_true rfl) rfl (hv10.rf (by decide)) dX6_wireTry_36 ?_
  refine go_iload_n (pc := 39) rfl dX6_wireTry_39 ?_
  refine go_iload (pc := 40) rfl dX6_wireTry_40 ?_
  refine go_iload_n (pc := 42) rfl dX6_wireTry_42 ?_
  refine gf_icmp_ne (pc := 43) (tgt := 51) (ti_rfl v8) (ti_rfl a3) (by decide) dX6_wireTry_43 (fun q12 => ?_) (fun q12 => ?_)
  ·
    have k13 := if_t k11 q12
    refine go_iload (pc := 51) rfl dX6_wireTry_51 ?_
    refine gi_iast (pc := 53) (lo := -2) (hi := 44) (len := 128) hv10 (ti_rfl a2) (ti_rfl v8) rfl (by omega) (by omega) (fun _ => rfl) (by omega) (by omega) (by decide) dX6_wireTry_53 (fun h14 hv14 hv14e => ?_)
    have fx14 : FX KC0 h h14 := FX.pI fx10 hv14e (by unfold KC0; omega)
    have k15 := bd_e k13 (st_I hv14e (ti_rfl v8))
    refine go_aload_n (pc := 54) rfl dX6_wireTry_54 ?_
    refine go_aload_n (pc := 55) rfl dX6_wireTry_55 ?_
    refine gi_getF (pc := 56) (q := 36) hv14 fL_X6_9 rfl (Nat.le_of_ble_eq_true rfl) rfl (hv14.rf (by decide)) dX6_wireTry_56 ?_
    refine gi_getF (pc := 59) (q := 39) hv14 fL_X6_59 rfl (Nat.le_of_ble_eq_true rfl) rfl (hv14.rf (by decide)) dX6_wireTry_59 ?_
    refine go_iload_n (pc := 62) rfl dX6_wireTry_62 ?_
    refine gi_iald (pc := 63) (lo := -1) (hi := 127) (len := 128) hv14 (ti_rfl a2) rfl (by omega) (by omega) (fun _ => rfl) dX6_wireTry_63 (fun v16 v16l v16u v16w => ?_)
    have k17 := bd_e k15 (congrArg Int32.toInt v16w.symm)
    refine go_iload_n (pc := 64) rfl dX6_wireTry_64 ?_
    refine go_iload_n (pc := 65) rfl dX6_wireTry_65 ?_
    refine go_iload (pc := 66) rfl dX6_wireTry_66 ?_
    refine go_iconst (pc := 68) (v := 1) (by decide) dX6_wireTry_68 ?_
    refine gf_iadd (pc := 69) (ti_rfl a5) (ti_c (v := 1) (a := 1) (by decide)) (by omega) (by omega) dX6_wireTry_69 (fun v18 e19 => ?_)
    refine go_invV (pc := 70) (sl := 0) (s_X6_wireBlock_lv3_f l (d + 0) hv14 v16 (by rw [show (v16 : Int32).toInt = v16.toInt from (ti_rfl v16)]; omega) (by rw [show (v16 : Int32).toInt = v16.toInt from (ti_rfl v16)]; omega) a3 (by rw [show (a3 : Int32).toInt = a3.toInt from (ti_rfl a3)]; omega) (by rw [show (a3 : Int32).toInt = a3.toInt from (ti_rfl a3)]; omega) a2 (by rw [show (a2 : Int32).toInt = a2.toInt from (ti_rfl a2)]; omega) (by rw [show (a2 : Int32).toInt = a2.toInt from (ti_rfl a2)]; omega) v18 (by rw [show (v18 : Int32).toInt = (a5.toInt + 1) from e19]; omega) (by rw [show (v18 : Int32).toInt = (a5.toInt + 1) from e19]; omega)) mL_X6_34 iM_X6_wireBlock sM_X6_wireBlock (hv14.sh rfl) rfl rfl rfl (Nat.le_of_ble_eq_true rfl) (show d + 0 + 9 + 1 ≤ d + 10 by omega) (show 8 + (8 + 11) + 40 * (d + 0 + 9) ≤ 40 * (d + 10) by omega) (g_c0 hv14.ln) (Nat.le_of_ble_eq_true rfl) dX6_wireTry_70 ?_
    intro r h20 hq _
    obtain ⟨v23, rfl, v23l, v23u, hv20, f21, f22⟩ := hq
    try rw [show (v18 : Int32).toInt = (a5.toInt + 1) from e19] at f21
    try rw [show (v18 : Int32).toInt = (a5.toInt + 1) from e19] at f22
    have fx20 : FX KC0 h h20 := FX.tr fx14 f22
    have k24 := bd2_e k17 f21
    exact gi_iret (pc := 73) (ti_rfl v23) ⟨_, rfl, (by rw [show (v23 : Int32).toInt = v23.toInt from (ti_rfl v23)]; omega), (by rw [show (v23 : Int32).toInt = v23.toInt from (ti_rfl v23)]; omega), hv20, (k24.symm.trans kf), fx20⟩ hv20 dX6_wireTry_73
  ·
    have k25 := if_f k11 (fun z => z q12)
    refine go_bipush (pc := 46) (v := (-2)) (by decide) dX6_wireTry_46 ?_
    refine go_goto (pc := 48) (tgt := 53) (by decide) dX6_wireTry_48 ?_
    refine gi_iast (pc := 53) (lo := -2) (hi := 44) (len := 128) hv10 (ti_rfl a2) (ti_c (v := (-2)) (a := (-2)) (by decide)) rfl (by omega) (by omega) (fun _ => rfl) (by omega) (by omega) (by decide) dX6_wireTry_53 (fun h26 hv26 hv26e => ?_)
    have fx26 : FX KC0 h h26 := FX.pI fx10 hv26e (by unfold KC0; omega)
    have k27 := bd_e k25 (st_I hv26e (ti_c (v := (-2)) (a := (-2)) (by decide)))
    refine go_aload_n (pc := 54) rfl dX6_wireTry_54 ?_
    refine go_aload_n (pc := 55) rfl dX6_wireTry_55 ?_
    refine gi_getF (pc := 56) (q := 36) hv26 fL_X6_9 rfl (Nat.le_of_ble_eq_true rfl) rfl (hv26.rf (by decide)) dX6_wireTry_56 ?_
    refine gi_getF (pc := 59) (q := 39) hv26 fL_X6_59 rfl (Nat.le_of_ble_eq_true rfl) rfl (hv26.rf (by decide)) dX6_wireTry_59 ?_
    refine go_iload_n (pc := 62) rfl dX6_wireTry_62 ?_
    refine gi_iald (pc := 63) (lo := -1) (hi := 127) (len := 128) hv26 (ti_rfl a2) rfl (by omega) (by omega) (fun _ => rfl) dX6_wireTry_63 (fun v28 v28l v28u v28w => ?_)
    have k29 := bd_e k27 (congrArg Int32.toInt v28w.symm)
    refine go_iload_n (pc := 64) rfl dX6_wireTry_64 ?_
    refine go_iload_n (pc := 65) rfl dX6_wireTry_65 ?_
    refine go_iload (pc := 66) rfl dX6_wireTry_66 ?_
    refine go_iconst (pc := 68) (v := 1) (by decide) dX6_wireTry_68 ?_
    refine gf_iadd (pc := 69) (ti_rfl a5) (ti_c (v := 1) (a := 1) (by decide)) (by omega) (by omega) dX6_wireTry_69 (fun v30 e31 => ?_)
    refine go_invV (pc := 70) (sl := 0) (s_X6_wireBlock_lv3_f l (d + 0) hv26 v28 (by rw [show (v28 : Int32).toInt = v28.toInt from (ti_rfl v28)]; omega) (by rw [show (v28 : Int32).toInt = v28.toInt from (ti_rfl v28)]; omega) a3 (by rw [show (a3 : Int32).toInt = a3.toInt from (ti_rfl a3)]; omega) (by rw [show (a3 : Int32).toInt = a3.toInt from (ti_rfl a3)]; omega) a2 (by rw [show (a2 : Int32).toInt = a2.toInt from (ti_rfl a2)]; omega) (by rw [show (a2 : Int32).toInt = a2.toInt from (ti_rfl a2)]; omega) v30 (by rw [show (v30 : Int32).toInt = (a5.toInt + 1) from e31]; omega) (by rw [show (v30 : Int32).toInt = (a5.toInt + 1) from e31]; omega)) mL_X6_34 iM_X6_wireBlock sM_X6_wireBlock (hv26.sh rfl) rfl rfl rfl (Nat.le_of_ble_eq_true rfl) (show d + 0 + 9 + 1 ≤ d + 10 by omega) (show 8 + (8 + 11) + 40 * (d + 0 + 9) ≤ 40 * (d + 10) by omega) (g_c0 hv26.ln) (Nat.le_of_ble_eq_true rfl) dX6_wireTry_70 ?_
    intro r h32 hq _
    obtain ⟨v35, rfl, v35l, v35u, hv32, f33, f34⟩ := hq
    try rw [show (v30 : Int32).toInt = (a5.toInt + 1) from e31] at f33
    try rw [show (v30 : Int32).toInt = (a5.toInt + 1) from e31] at f34
    have fx32 : FX KC0 h h32 := FX.tr fx26 f34
    have k36 := bd2_e k29 f33
    exact gi_iret (pc := 73) (ti_rfl v35) ⟨_, rfl, (by rw [show (v35 : Int32).toInt = v35.toInt from (ti_rfl v35)]; omega), (by rw [show (v35 : Int32).toInt = v35.toInt from (ti_rfl v35)]; omega), hv32, (k36.symm.trans kf), fx32⟩ hv32 dX6_wireTry_73
def f_X6_wireStatement_lv2 (s : ST) (a2 : Int) (a3 : Int) (a4 : Int) (a5 : Int) : ST × Int :=
  bd (s.1 37 (a2).toNat) fun v1 => bd (s.2.2 48 1) fun c3 => bd (s.1 (c3 + 3) (v1).toNat) fun v5 => bd (s.2.2 48 1) fun c9 => bd (sI s (c9 + 11) (v1).toNat a3) fun s11 => bd (s11.2.2 48 1) fun c13 => bd (sI s11 (c13 + 12) (v1).toNat a3) fun s15 => bd (s15.2.2 48 1) fun c17 => if 0 ≤ a4 then (bd (s15.1 42 (a4).toNat) fun v21 => bd (sI s15 (c17 + 13) (v1).toNat v21) fun s23 => bd (s23.2.2 48 1) fun c25 => bd (s23.1 41 (a4).toNat) fun v28 => bd (sI s23 (c25 + 14) (v1).toNat v28) fun s30 => bd (s30.2.2 48 1) fun c32 => bd (s30.1 43 (a4).toNat) fun v35 => bd (sI s30 (c32 + 15) (v1).toNat v35) fun s37 => bd (s37.2.2 48 1) fun c39 => bd (s37.1 (c39 + 2) (v1).toNat) fun v41 => if ¬ v41 = 5 then (bd (s37.2.2 48 1) fun c45 => bd (s37.1 (c45 + 2) (v1).toNat) fun v47 => if ¬ v47 = 3 then (bd (s37.2.2 48 1) fun c51 => bd (s37.1 (c51 + 2) (v1).toNat) fun v53 => if ¬ v53 = 2 then ((s37, v1)) else (bd (s37.2.2 48 1) fun c58 => bd (s37.1 39 (a2).toNat) fun v60 => bd2 (f_X6_wireBlock_lv3 s37 v60 a3 a4 ((a5 + 1))) fun s64 v67 => bd (sI s64 (c58 + 13) (v1).toNat v67) fun s69 => bd (s69.2.2 48 1) fun c71 => bd (s69.1 40 (a2).toNat) fun v73 => bd2 (f_X6_wireBlock_lv3 s69 v73 a3 a4 ((a5 + 1))) fun s77 v80 => bd (sI s77 (c71 + 12) (v1).toNat v80) fun s82 => (s82, v1))) else (bd (s37.2.2 48 1) fun c85 => bd (s37.1 39 (a2).toNat) fun v87 => bd2 (f_X6_wireBlock_lv3 s37 v87 v1 a4 ((a5 + 1))) fun s91 v94 => bd (sI s91 (c85 + 13) (v1).toNat v94) fun s96 => (s96, v1))) else (bd (s37.2.2 48 1) fun c99 => bd (sI s37 (c99 + 13) (v1).toNat ((40 + v5))) fun s101 => (s101, v1))) else (bd (sI s15 (c17 + 13) (v1).toNat ((40 + v5))) fun s104 => bd (s104.2.2 48 1) fun c106 => bd (sI s104 (c106 + 14) (v1).toNat (-1)) fun s109 => bd (s109.2.2 48 1) fun c111 => bd (sI s109 (c111 + 15) (v1).toNat (-2)) fun s114 => bd (s114.2.2 48 1) fun c116 => bd (s114.1 (c116 + 2) (v1).toNat) fun v118 => if ¬ v118 = 5 then (bd (s114.2.2 48 1) fun c122 => bd (s114.1 (c122 + 2) (v1).toNat) fun v124 => if ¬ v124 = 3 then (bd (s114.2.2 48 1) fun c128 => bd (s114.1 (c128 + 2) (v1).toNat) fun v130 => if ¬ v130 = 2 then ((s114, v1)) else (bd (s114.2.2 48 1) fun c135 => bd (s114.1 39 (a2).toNat) fun v137 => bd2 (f_X6_wireBlock_lv3 s114 v137 a3 a4 ((a5 + 1))) fun s141 v144 => bd (sI s141 (c135 + 13) (v1).toNat v144) fun s146 => bd (s146.2.2 48 1) fun c148 => bd (s146.1 40 (a2).toNat) fun v150 => bd2 (f_X6_wireBlock_lv3 s146 v150 a3 a4 ((a5 + 1))) fun s154 v157 => bd (sI s154 (c148 + 12) (v1).toNat v157) fun s159 => (s159, v1))) else (bd (s114.2.2 48 1) fun c162 => bd (s114.1 39 (a2).toNat) fun v164 => bd2 (f_X6_wireBlock_lv3 s114 v164 v1 a4 ((a5 + 1))) fun s168 v171 => bd (sI s168 (c162 + 13) (v1).toNat v171) fun s173 => (s173, v1))) else (bd (s114.2.2 48 1) fun c176 => bd (sI s114 (c176 + 13) (v1).toNat ((40 + v5))) fun s178 => (s178, v1)))
set_option maxHeartbeats 4000000 in
set_option maxRecDepth 100000 in
theorem s_X6_wireStatement_lv2_f (l : Launch) (d : Nat) {P : PP} {h : HP} (hv : Iv P h) (a2 : Int32) (a2l : 0 ≤ a2.toInt) (a2u : a2.toInt ≤ 127) (a3 : Int32) (a3l : 0 ≤ a3.toInt) (a3u : a3.toInt ≤ 44) (a4 : Int32) (a4l : -1 ≤ a4.toInt) (a4u : a4.toInt ≤ 127) (a5 : Int32) (a5l : 2 ≤ a5.toInt) (a5u : a5.toInt ≤ 2) (hp : 0 ≤ (h.2.1 37 a2.toInt.toNat).toInt) : Mt l yX6_wireStatement cX6_wireStatement 7 (some .int) (d + 10) [.ref 48, .int a2, .int a3, .int a4, .int a5] h 0 0 (fun r h' => ∃ v : Int32, r = some (.int v) ∧ 0 ≤ v.toInt ∧ v.toInt ≤ 44 ∧ Iv P h' ∧ ((st h', v.toInt) = f_X6_wireStatement_lv2 (st h) a2.toInt a3.toInt a4.toInt a5.toInt) ∧ (FX KC0 h h')) := by
  refine Mt_iv hv (by decide) (Nat.le_of_ble_eq_true rfl) ?_
  show Go l RX6 cX6_wireStatement 7 (g_rm (d + 10) 0 0) "wireStatement" (some .int) 117 0 0 (fun _ _ => True) (fun r h' => ∃ v : Int32, r = some (.int v) ∧ 0 ≤ v.toInt ∧ v.toInt ≤ 44 ∧ Iv P h' ∧ ((st h', v.toInt) = f_X6_wireStatement_lv2 (st h) a2.toInt a3.toInt a4.toInt a5.toInt) ∧ (FX KC0 h h')) 0 0 [(0, .ref 48), (1, .int a2), (2, .int a3), (3, .int a4), (4, .int a5)] [] h
  have fx : FX KC0 h h := FX.rfl
  obtain ⟨fin, kf⟩ : ∃ z, z = f_X6_wireStatement_lv2 (st h) a2.toInt a3.toInt a4.toInt a5.toInt := ⟨_, _root_.rfl⟩
  have k0 := kf
  unfold f_X6_wireStatement_lv2 at k0
  refine go_aload_n (pc := 0) rfl dX6_wireStatement_0 ?_
  refine gi_getF (pc := 1) (q := 36) hv fL_X6_9 rfl (Nat.le_of_ble_eq_true rfl) rfl (hv.rf (by decide)) dX6_wireStatement_1 ?_
  refine gi_getF (pc := 4) (q := 37) hv fL_X6_38 rfl (Nat.le_of_ble_eq_true rfl) rfl (hv.rf (by decide)) dX6_wireStatement_4 ?_
  refine go_iload_n (pc := 7) rfl dX6_wireStatement_7 ?_
  refine gi_iald (pc := 8) (lo := -1) (hi := 39) (len := 128) hv (ti_rfl a2) rfl (by omega) (by omega) (fun _ => rfl) dX6_wireStatement_8 (fun v1 v1l v1u v1w => ?_)
  have k2 := bd_e k0 (congrArg Int32.toInt v1w.symm)
  have kk : 0 ≤ v1.toInt := by rw [v1w]; exact hp
  refine go_istore (pc := 9) (Nat.le_of_ble_eq_true rfl) dX6_wireStatement_9 (go_lv (lv2 := [(0, .ref 48), (1, .int a2), (2, .int a3), (3, .int a4), (4, .int a5), (5, .int v1)]) rfl ?_)
  refine go_bipush (pc := 11) (v := 40) (by decide) dX6_wireStatement_11 ?_
  refine go_aload_n (pc := 13) rfl dX6_wireStatement_13 ?_
  refine gi_getC (pc := 14) hv fL_X6_15 rfl (Nat.le_of_ble_eq_true rfl) rfl (by decide) dX6_wireStatement_14 (fun c3 hc3 fc3 => ?_)
  have k4 := bd_e k2 (st_c fc3)
  refine gi_getF (pc := 17) (q := c3 + 3) hv fL_X6_62 (by rcases hc3 with rfl | rfl <;> rfl) (Nat.le_of_ble_eq_true rfl) rfl (by rcases hc3 with rfl | rfl <;> exact hv.rf (by decide)) dX6_wireStatement_17 ?_
  refine go_iload (pc := 20) rfl dX6_wireStatement_20 ?_
  refine gi_iald (pc := 22) (lo := -1) (hi := 4) (len := 40) hv (ti_rfl v1) (by rcases hc3 with rfl | rfl <;> rfl) (by omega) (by omega) (fun _ => by rcases hc3 with rfl | rfl <;> rfl) dX6_wireStatement_22 (fun v5 v5l v5u v5w => ?_)
  have k6 := bd_e k4 (congrArg Int32.toInt v5w.symm)
  refine gf_iadd (pc := 23) (ti_c (v := 40) (a := 40) (by decide)) (ti_rfl v5) (by omega) (by omega) dX6_wireStatement_23 (fun v7 e8 => ?_)
  refine go_istore (pc := 24) (Nat.le_of_ble_eq_true rfl) dX6_wireStatement_24 (go_lv (lv2 := [(0, .ref 48), (1, .int a2), (2, .int a3), (3, .int a4), (4, .int a5), (5, .int v1), (6, .int v7)]) rfl ?_)
  refine go_aload_n (pc := 26) rfl dX6_wireStatement_26 ?_
  refine gi_getC (pc := 27) hv fL_X6_15 rfl (Nat.le_of_ble_eq_true rfl) rfl (by decide) dX6_wireStatement_27 (fun c9 hc9 fc9 => ?_)
  have k10 := bd_e k6 (st_c fc9)
  refine gi_getF (pc := 30) (q := c9 + 11) hv fL_X6_65 (by rcases hc9 with rfl | rfl <;> rfl) (Nat.le_of_ble_eq_true rfl) rfl (by rcases hc9 with rfl | rfl <;> exact hv.rf (by decide)) dX6_wireStatement_30 ?_
  refine go_iload (pc := 33) rfl dX6_wireStatement_33 ?_
  refine go_iload_n (pc := 35) rfl dX6_wireStatement_35 ?_
  refine gi_iast (pc := 36) (lo := 0) (hi := 44) (len := 40) hv (ti_rfl v1) (ti_rfl a3) (by rcases hc9 with rfl | rfl <;> rfl) (by omega) (by omega) (fun _ => by rcases hc9 with rfl | rfl <;> rfl) (by omega) (by omega) (by rcases hc9 with rfl | rfl <;> decide) dX6_wireStatement_36 (fun h11 hv11 hv11e => ?_)
  have fx11 : FX KC0 h h11 := FX.pI fx hv11e (by unfold KC0; omega)
  have k12 := bd_e k10 (st_I hv11e (ti_rfl a3))
  refine go_aload_n (pc := 37) rfl dX6_wireStatement_37 ?_
  refine gi_getC (pc := 38) hv11 fL_X6_15 rfl (Nat.le_of_ble_eq_true rfl) rfl (by decide) dX6_wireStatement_38 (fun c13 hc13 fc13 => ?_)
  have k14 := bd_e k12 (st_c fc13)
  refine gi_getF (pc := 41) (q := c13 + 12) hv11 fL_X6_68 (by rcases hc13 with rfl | rfl <;> rfl) (Nat.le_of_ble_eq_true rfl) rfl (by rcases hc13 with rfl | rfl <;> exact hv11.rf (by decide)) dX6_wireStatement_41 ?_
  refine go_iload (pc := 44) rfl dX6_wireStatement_44 ?_
  refine go_iload_n (pc := 46) rfl dX6_wireStatement_46 ?_
  refine gi_iast (pc := 47) (lo := 0) (hi := 44) (len := 40) hv11 (ti_rfl v1) (ti_rfl a3) (by rcases hc13 with rfl | rfl <;> rfl) (by omega) (by omega) (fun _ => by rcases hc13 with rfl | rfl <;> rfl) (by omega) (by omega) (by rcases hc13 with rfl | rfl <;> decide) dX6_wireStatement_47 (fun h15 hv15 hv15e => ?_)
  have fx15 : FX KC0 h h15 := FX.pI fx11 hv15e (by unfold KC0; omega)
  have k16 := bd_e k14 (st_I hv15e (ti_rfl a3))
  refine go_aload_n (pc := 48) rfl dX6_wireStatement_48 ?_
  refine gi_getC (pc := 49) hv15 fL_X6_15 rfl (Nat.le_of_ble_eq_true rfl) rfl (by decide) dX6_wireStatement_49 (fun c17 hc17 fc17 => ?_)
  have k18 := bd_e k16 (st_c fc17)
  refine gi_getF (pc := 52) (q := c17 + 13) hv15 fL_X6_71 (by rcases hc17 with rfl | rfl <;> rfl) (Nat.le_of_ble_eq_true rfl) rfl (by rcases hc17 with rfl | rfl <;> exact hv15.rf (by decide)) dX6_wireStatement_52 ?_
  refine go_iload (pc := 55) rfl dX6_wireStatement_55 ?_
  refine go_iload_n (pc := 57) rfl dX6_wireStatement_57 ?_
  refine gf_if_ge (pc := 58) (tgt := 66) (ti_rfl a4) (by decide) dX6_wireStatement_58 (fun q19 => ?_) (fun q19 => ?_)
  ·
    have k20 := if_t k18 q19
    refine go_aload_n (pc := 66) rfl dX6_wireStatement_66 ?_
    refine gi_getF (pc := 67) (q := 36) hv15 fL_X6_9 rfl (Nat.le_of_ble_eq_true rfl) rfl (hv15.rf (by decide)) dX6_wireStatement_67 ?_
    refine gi_getF (pc := 70) (q := 42) hv15 fL_X6_53 rfl (Nat.le_of_ble_eq_true rfl) rfl (hv15.rf (by decide)) dX6_wireStatement_70 ?_
    refine go_iload_n (pc := 73) rfl dX6_wireStatement_73 ?_
    refine gi_iald (pc := 74) (lo := 0) (hi := 44) (len := 128) hv15 (ti_rfl a4) rfl (by omega) (by omega) (fun _ => rfl) dX6_wireStatement_74 (fun v21 v21l v21u v21w => ?_)
    have k22 := bd_e k20 (congrArg Int32.toInt v21w.symm)
    refine gi_iast (pc := 75) (lo := 0) (hi := 44) (len := 40) hv15 (ti_rfl v1) (ti_rfl v21) (by rcases hc17 with rfl | rfl <;> rfl) (by omega) (by omega) (fun _ => by rcases hc17 with rfl | rfl <;> rfl) (by omega) (by omega) (by rcases hc17 with rfl | rfl <;> decide) dX6_wireStatement_75 (fun h23 hv23 hv23e => ?_)
    have fx23 : FX KC0 h h23 := FX.pI fx15 hv23e (by unfold KC0; omega)
    have k24 := bd_e k22 (st_I hv23e (ti_rfl v21))
    refine go_aload_n (pc := 76) rfl dX6_wireStatement_76 ?_
    refine gi_getC (pc := 77) hv23 fL_X6_15 rfl (Nat.le_of_ble_eq_true rfl) rfl (by decide) dX6_wireStatement_77 (fun c25 hc25 fc25 => ?_)
    have k26 := bd_e k24 (st_c fc25)
    refine gi_getF (pc := 80) (q := c25 + 14) hv23 fL_X6_74 (by rcases hc25 with rfl | rfl <;> rfl) (Nat.le_of_ble_eq_true rfl) rfl (by rcases hc25 with rfl | rfl <;> exact hv23.rf (by decide)) dX6_wireStatement_80 ?_
    refine go_iload (pc := 83) rfl dX6_wireStatement_83 ?_
    refine go_iload_n (pc := 85) rfl dX6_wireStatement_85 ?_
    refine gf_if_ge (pc := 86) (tgt := 93) (ti_rfl a4) (by decide) dX6_wireStatement_86 (fun q27 => ?_) (fun q27 => False.elim (by omega))
    refine go_aload_n (pc := 93) rfl dX6_wireStatement_93 ?_
    refine gi_getF (pc := 94) (q := 36) hv23 fL_X6_9 rfl (Nat.le_of_ble_eq_true rfl) rfl (hv23.rf (by decide)) dX6_wireStatement_94 ?_
    refine gi_getF (pc := 97) (q := 41) hv23 fL_X6_77 rfl (Nat.le_of_ble_eq_true rfl) rfl (hv23.rf (by decide)) dX6_wireStatement_97 ?_
    refine go_iload_n (pc := 100) rfl dX6_wireStatement_100 ?_
    refine gi_iald (pc := 101) (lo := -1) (hi := 5) (len := 128) hv23 (ti_rfl a4) rfl (by omega) (by omega) (fun _ => rfl) dX6_wireStatement_101 (fun v28 v28l v28u v28w => ?_)
    have k29 := bd_e k26 (congrArg Int32.toInt v28w.symm)
    refine gi_iast (pc := 102) (lo := -1) (hi := 5) (len := 40) hv23 (ti_rfl v1) (ti_rfl v28) (by rcases hc25 with rfl | rfl <;> rfl) (by omega) (by omega) (fun _ => by rcases hc25 with rfl | rfl <;> rfl) (by omega) (by omega) (by rcases hc25 with rfl | rfl <;> decide) dX6_wireStatement_102 (fun h30 hv30 hv30e => ?_)
    have fx30 : FX KC0 h h30 := FX.pI fx23 hv30e (by unfold KC0; omega)
    have k31 := bd_e k29 (st_I hv30e (ti_rfl v28))
    refine go_aload_n (pc := 103) rfl dX6_wireStatement_103 ?_
    refine gi_getC (pc := 104) hv30 fL_X6_15 rfl (Nat.le_of_ble_eq_true rfl) rfl (by decide) dX6_wireStatement_104 (fun c32 hc32 fc32 => ?_)
    have k33 := bd_e k31 (st_c fc32)
    refine gi_getF (pc := 107) (q := c32 + 15) hv30 fL_X6_80 (by rcases hc32 with rfl | rfl <;> rfl) (Nat.le_of_ble_eq_true rfl) rfl (by rcases hc32 with rfl | rfl <;> exact hv30.rf (by decide)) dX6_wireStatement_107 ?_
    refine go_iload (pc := 110) rfl dX6_wireStatement_110 ?_
    refine go_iload_n (pc := 112) rfl dX6_wireStatement_112 ?_
    refine gf_if_ge (pc := 113) (tgt := 121) (ti_rfl a4) (by decide) dX6_wireStatement_113 (fun q34 => ?_) (fun q34 => False.elim (by omega))
    refine go_aload_n (pc := 121) rfl dX6_wireStatement_121 ?_
    refine gi_getF (pc := 122) (q := 36) hv30 fL_X6_9 rfl (Nat.le_of_ble_eq_true rfl) rfl (hv30.rf (by decide)) dX6_wireStatement_122 ?_
    refine gi_getF (pc := 125) (q := 43) hv30 fL_X6_56 rfl (Nat.le_of_ble_eq_true rfl) rfl (hv30.rf (by decide)) dX6_wireStatement_125 ?_
    refine go_iload_n (pc := 128) rfl dX6_wireStatement_128 ?_
    refine gi_iald (pc := 129) (lo := -2) (hi := 44) (len := 128) hv30 (ti_rfl a4) rfl (by omega) (by omega) (fun _ => rfl) dX6_wireStatement_129 (fun v35 v35l v35u v35w => ?_)
    have k36 := bd_e k33 (congrArg Int32.toInt v35w.symm)
    refine gi_iast (pc := 130) (lo := -2) (hi := 44) (len := 40) hv30 (ti_rfl v1) (ti_rfl v35) (by rcases hc32 with rfl | rfl <;> rfl) (by omega) (by omega) (fun _ => by rcases hc32 with rfl | rfl <;> rfl) (by omega) (by omega) (by rcases hc32 with rfl | rfl <;> decide) dX6_wireStatement_130 (fun h37 hv37 hv37e => ?_)
    have fx37 : FX KC0 h h37 := FX.pI fx30 hv37e (by unfold KC0; omega)
    have k38 := bd_e k36 (st_I hv37e (ti_rfl v35))
    refine go_aload_n (pc := 131) rfl dX6_wireStatement_131 ?_
    refine gi_getC (pc := 132) hv37 fL_X6_15 rfl (Nat.le_of_ble_eq_true rfl) rfl (by decide) dX6_wireStatement_132 (fun c39 hc39 fc39 => ?_)
    have k40 := bd_e k38 (st_c fc39)
    refine gi_getF (pc := 135) (q := c39 + 2) hv37 fL_X6_81 (by rcases hc39 with rfl | rfl <;> rfl) (Nat.le_of_ble_eq_true rfl) rfl (by rcases hc39 with rfl | rfl <;> exact hv37.rf (by decide)) dX6_wireStatement_135 ?_
    refine go_iload (pc := 138) rfl dX6_wireStatement_138 ?_
    refine gi_iald (pc := 140) (lo := 0) (hi := 5) (len := 40) hv37 (ti_rfl v1) (by rcases hc39 with rfl | rfl <;> rfl) (by omega) (by omega) (fun _ => by rcases hc39 with rfl | rfl <;> rfl) dX6_wireStatement_140 (fun v41 v41l v41u v41w => ?_)
    have k42 := bd_e k40 (congrArg Int32.toInt v41w.symm)
    refine go_iconst (pc := 141) (v := 5) (by decide) dX6_wireStatement_141 ?_
    refine gf_icmp_ne (pc := 142) (tgt := 160) (ti_rfl v41) (ti_c (v := 5) (a := 5) (by decide)) (by decide) dX6_wireStatement_142 (fun q43 => ?_) (fun q43 => ?_)
    ·
      have k44 := if_t k42 q43
      refine go_aload_n (pc := 160) rfl dX6_wireStatement_160 ?_
      refine gi_getC (pc := 161) hv37 fL_X6_15 rfl (Nat.le_of_ble_eq_true rfl) rfl (by decide) dX6_wireStatement_161 (fun c45 hc45 fc45 => ?_)
      have k46 := bd_e k44 (st_c fc45)
      refine gi_getF (pc := 164) (q := c45 + 2) hv37 fL_X6_81 (by rcases hc45 with rfl | rfl <;> rfl) (Nat.le_of_ble_eq_true rfl) rfl (by rcases hc45 with rfl | rfl <;> exact hv37.rf (by decide)) dX6_wireStatement_164 ?_
      refine go_iload (pc := 167) rfl dX6_wireStatement_167 ?_
      refine gi_iald (pc := 169) (lo := 0) (hi := 5) (len := 40) hv37 (ti_rfl v1) (by rcases hc45 with rfl | rfl <;> rfl) (by omega) (by omega) (fun _ => by rcases hc45 with rfl | rfl <;> rfl) dX6_wireStatement_169 (fun v47 v47l v47u v47w => ?_)
      have k48 := bd_e k46 (congrArg Int32.toInt v47w.symm)
      refine go_iconst (pc := 170) (v := 3) (by decide) dX6_wireStatement_170 ?_
      refine gf_icmp_ne (pc := 171) (tgt := 207) (ti_rfl v47) (ti_c (v := 3) (a := 3) (by decide)) (by decide) dX6_wireStatement_171 (fun q49 => ?_) (fun q49 => ?_)
      ·
        have k50 := if_t k48 q49
        refine go_aload_n (pc := 207) rfl dX6_wireStatement_207 ?_
        refine gi_getC (pc := 208) hv37 fL_X6_15 rfl (Nat.le_of_ble_eq_true rfl) rfl (by decide) dX6_wireStatement_208 (fun c51 hc51 fc51 => ?_)
        have k52 := bd_e k50 (st_c fc51)
        refine gi_getF (pc := 211) (q := c51 + 2) hv37 fL_X6_81 (by rcases hc51 with rfl | rfl <;> rfl) (Nat.le_of_ble_eq_true rfl) rfl (by rcases hc51 with rfl | rfl <;> exact hv37.rf (by decide)) dX6_wireStatement_211 ?_
        refine go_iload (pc := 214) rfl dX6_wireStatement_214 ?_
        refine gi_iald (pc := 216) (lo := 0) (hi := 5) (len := 40) hv37 (ti_rfl v1) (by rcases hc51 with rfl | rfl <;> rfl) (by omega) (by omega) (fun _ => by rcases hc51 with rfl | rfl <;> rfl) dX6_wireStatement_216 (fun v53 v53l v53u v53w => ?_)
        have k54 := bd_e k52 (congrArg Int32.toInt v53w.symm)
        refine go_iconst (pc := 217) (v := 2) (by decide) dX6_wireStatement_217 ?_
        refine gf_icmp_ne (pc := 218) (tgt := 279) (ti_rfl v53) (ti_c (v := 2) (a := 2) (by decide)) (by decide) dX6_wireStatement_218 (fun q55 => ?_) (fun q55 => ?_)
        ·
          have k56 := if_t k54 q55
          refine go_iload (pc := 279) rfl dX6_wireStatement_279 ?_
          exact gi_iret (pc := 281) (ti_rfl v1) ⟨_, rfl, (by rw [show (v1 : Int32).toInt = v1.toInt from (ti_rfl v1)]; omega), (by rw [show (v1 : Int32).toInt = v1.toInt from (ti_rfl v1)]; omega), hv37, (k56.symm.trans kf), fx37⟩ hv37 dX6_wireStatement_281
        ·
          have k57 := if_f k54 (fun z => z q55)
          refine go_aload_n (pc := 221) rfl dX6_wireStatement_221 ?_
          refine gi_getC (pc := 222) hv37 fL_X6_15 rfl (Nat.le_of_ble_eq_true rfl) rfl (by decide) dX6_wireStatement_222 (fun c58 hc58 fc58 => ?_)
          have k59 := bd_e k57 (st_c fc58)
          refine gi_getF (pc := 225) (q := c58 + 13) hv37 fL_X6_71 (by rcases hc58 with rfl | rfl <;> rfl) (Nat.le_of_ble_eq_true rfl) rfl (by rcases hc58 with rfl | rfl <;> exact hv37.rf (by decide)) dX6_wireStatement_225 ?_
          refine go_iload (pc := 228) rfl dX6_wireStatement_228 ?_
          refine go_aload_n (pc := 230) rfl dX6_wireStatement_230 ?_
          refine go_aload_n (pc := 231) rfl dX6_wireStatement_231 ?_
          refine gi_getF (pc := 232) (q := 36) hv37 fL_X6_9 rfl (Nat.le_of_ble_eq_true rfl) rfl (hv37.rf (by decide)) dX6_wireStatement_232 ?_
          refine gi_getF (pc := 235) (q := 39) hv37 fL_X6_59 rfl (Nat.le_of_ble_eq_true rfl) rfl (hv37.rf (by decide)) dX6_wireStatement_235 ?_
          refine go_iload_n (pc := 238) rfl dX6_wireStatement_238 ?_
          refine gi_iald (pc := 239) (lo := -1) (hi := 127) (len := 128) hv37 (ti_rfl a2) rfl (by omega) (by omega) (fun _ => rfl) dX6_wireStatement_239 (fun v60 v60l v60u v60w => ?_)
          have k61 := bd_e k59 (congrArg Int32.toInt v60w.symm)
          refine go_iload_n (pc := 240) rfl dX6_wireStatement_240 ?_
          refine go_iload_n (pc := 241) rfl dX6_wireStatement_241 ?_
          refine go_iload (pc := 242) rfl dX6_wireStatement_242 ?_
          refine go_iconst (pc := 244) (v := 1) (by decide) dX6_wireStatement_244 ?_
          refine gf_iadd (pc := 245) (ti_rfl a5) (ti_c (v := 1) (a := 1) (by decide)) (by omega) (by omega) dX6_wireStatement_245 (fun v62 e63 => ?_)
          refine go_invV (pc := 246) (sl := 0) (s_X6_wireBlock_lv3_f l (d + 0) hv37 v60 (by rw [show (v60 : Int32).toInt = v60.toInt from (ti_rfl v60)]; omega) (by rw [show (v60 : Int32).toInt = v60.toInt from (ti_rfl v60)]; omega) a3 (by rw [show (a3 : Int32).toInt = a3.toInt from (ti_rfl a3)]; omega) (by rw [show (a3 : Int32).toInt = a3.toInt from (ti_rfl a3)]; omega) a4 (by rw [show (a4 : Int32).toInt = a4.toInt from (ti_rfl a4)]; omega) (by rw [show (a4 : Int32).toInt = a4.toInt from (ti_rfl a4)]; omega) v62 (by rw [show (v62 : Int32).toInt = (a5.toInt + 1) from e63]; omega) (by rw [show (v62 : Int32).toInt = (a5.toInt + 1) from e63]; omega)) mL_X6_34 iM_X6_wireBlock sM_X6_wireBlock (hv37.sh rfl) rfl rfl rfl (Nat.le_of_ble_eq_true rfl) (show d + 0 + 9 + 1 ≤ d + 10 by omega) (show 8 + (8 + 11) + 40 * (d + 0 + 9) ≤ 40 * (d + 10) by omega) (g_c0 hv37.ln) (Nat.le_of_ble_eq_true rfl) dX6_wireStatement_246 ?_
          intro r h64 hq _
          obtain ⟨v67, rfl, v67l, v67u, hv64, f65, f66⟩ := hq
          try rw [show (v62 : Int32).toInt = (a5.toInt + 1) from e63] at f65
          try rw [show (v62 : Int32).toInt = (a5.toInt + 1) from e63] at f66
          have fx64 : FX KC0 h h64 := FX.tr fx37 f66
          have k68 := bd2_e k61 f65
          refine gi_iast (pc := 249) (lo := 0) (hi := 44) (len := 40) hv64 (ti_rfl v1) (ti_rfl v67) (by rcases hc58 with rfl | rfl <;> rfl) (by omega) (by omega) (fun _ => by rcases hc58 with rfl | rfl <;> rfl) (by omega) (by omega) (by rcases hc58 with rfl | rfl <;> decide) dX6_wireStatement_249 (fun h69 hv69 hv69e => ?_)
          have fx69 : FX KC0 h h69 := FX.pI fx64 hv69e (by unfold KC0; omega)
          have k70 := bd_e k68 (st_I hv69e (ti_rfl v67))
          refine go_aload_n (pc := 250) rfl dX6_wireStatement_250 ?_
          refine gi_getC (pc := 251) hv69 fL_X6_15 rfl (Nat.le_of_ble_eq_true rfl) rfl (by decide) dX6_wireStatement_251 (fun c71 hc71 fc71 => ?_)
          have k72 := bd_e k70 (st_c fc71)
          refine gi_getF (pc := 254) (q := c71 + 12) hv69 fL_X6_68 (by rcases hc71 with rfl | rfl <;> rfl) (Nat.le_of_ble_eq_true rfl) rfl (by rcases hc71 with rfl | rfl <;> exact hv69.rf (by decide)) dX6_wireStatement_254 ?_
          refine go_iload (pc := 257) rfl dX6_wireStatement_257 ?_
          refine go_aload_n (pc := 259) rfl dX6_wireStatement_259 ?_
          refine go_aload_n (pc := 260) rfl dX6_wireStatement_260 ?_
          refine gi_getF (pc := 261) (q := 36) hv69 fL_X6_9 rfl (Nat.le_of_ble_eq_true rfl) rfl (hv69.rf (by decide)) dX6_wireStatement_261 ?_
          refine gi_getF (pc := 264) (q := 40) hv69 fL_X6_50 rfl (Nat.le_of_ble_eq_true rfl) rfl (hv69.rf (by decide)) dX6_wireStatement_264 ?_
          refine go_iload_n (pc := 267) rfl dX6_wireStatement_267 ?_
          refine gi_iald (pc := 268) (lo := -1) (hi := 127) (len := 128) hv69 (ti_rfl a2) rfl (by omega) (by omega) (fun _ => rfl) dX6_wireStatement_268 (fun v73 v73l v73u v73w => ?_)
          have k74 := bd_e k72 (congrArg Int32.toInt v73w.symm)
          refine go_iload_n (pc := 269) rfl dX6_wireStatement_269 ?_
          refine go_iload_n (pc := 270) rfl dX6_wireStatement_270 ?_
          refine go_iload (pc := 271) rfl dX6_wireStatement_271 ?_
          refine go_iconst (pc := 273) (v := 1) (by decide) dX6_wireStatement_273 ?_
          refine gf_iadd (pc := 274) (ti_rfl a5) (ti_c (v := 1) (a := 1) (by decide)) (by omega) (by omega) dX6_wireStatement_274 (fun v75 e76 => ?_)
          refine go_invV (pc := 275) (sl := 0) (s_X6_wireBlock_lv3_f l (d + 0) hv69 v73 (by rw [show (v73 : Int32).toInt = v73.toInt from (ti_rfl v73)]; omega) (by rw [show (v73 : Int32).toInt = v73.toInt from (ti_rfl v73)]; omega) a3 (by rw [show (a3 : Int32).toInt = a3.toInt from (ti_rfl a3)]; omega) (by rw [show (a3 : Int32).toInt = a3.toInt from (ti_rfl a3)]; omega) a4 (by rw [show (a4 : Int32).toInt = a4.toInt from (ti_rfl a4)]; omega) (by rw [show (a4 : Int32).toInt = a4.toInt from (ti_rfl a4)]; omega) v75 (by rw [show (v75 : Int32).toInt = (a5.toInt + 1) from e76]; omega) (by rw [show (v75 : Int32).toInt = (a5.toInt + 1) from e76]; omega)) mL_X6_34 iM_X6_wireBlock sM_X6_wireBlock (hv69.sh rfl) rfl rfl rfl (Nat.le_of_ble_eq_true rfl) (show d + 0 + 9 + 1 ≤ d + 10 by omega) (show 8 + (8 + 11) + 40 * (d + 0 + 9) ≤ 40 * (d + 10) by omega) (g_c0 hv69.ln) (Nat.le_of_ble_eq_true rfl) dX6_wireStatement_275 ?_
          intro r h77 hq _
          obtain ⟨v80, rfl, v80l, v80u, hv77, f78, f79⟩ := hq
          try rw [show (v75 : Int32).toInt = (a5.toInt + 1) from e76] at f78
          try rw [show (v75 : Int32).toInt = (a5.toInt + 1) from e76] at f79
          have fx77 : FX KC0 h h77 := FX.tr fx69 f79
          have k81 := bd2_e k74 f78
          refine gi_iast (pc := 278) (lo := 0) (hi := 44) (len := 40) hv77 (ti_rfl v1) (ti_rfl v80) (by rcases hc71 with rfl | rfl <;> rfl) (by omega) (by omega) (fun _ => by rcases hc71 with rfl | rfl <;> rfl) (by omega) (by omega) (by rcases hc71 with rfl | rfl <;> decide) dX6_wireStatement_278 (fun h82 hv82 hv82e => ?_)
          have fx82 : FX KC0 h h82 := FX.pI fx77 hv82e (by unfold KC0; omega)
          have k83 := bd_e k81 (st_I hv82e (ti_rfl v80))
          refine go_iload (pc := 279) rfl dX6_wireStatement_279 ?_
          exact gi_iret (pc := 281) (ti_rfl v1) ⟨_, rfl, (by rw [show (v1 : Int32).toInt = v1.toInt from (ti_rfl v1)]; omega), (by rw [show (v1 : Int32).toInt = v1.toInt from (ti_rfl v1)]; omega), hv82, (k83.symm.trans kf), fx82⟩ hv82 dX6_wireStatement_281
      ·
        have k84 := if_f k48 (fun z => z q49)
        refine go_aload_n (pc := 174) rfl dX6_wireStatement_174 ?_
        refine gi_getC (pc := 175) hv37 fL_X6_15 rfl (Nat.le_of_ble_eq_true rfl) rfl (by decide) dX6_wireStatement_175 (fun c85 hc85 fc85 => ?_)
        have k86 := bd_e k84 (st_c fc85)
        refine gi_getF (pc := 178) (q := c85 + 13) hv37 fL_X6_71 (by rcases hc85 with rfl | rfl <;> rfl) (Nat.le_of_ble_eq_true rfl) rfl (by rcases hc85 with rfl | rfl <;> exact hv37.rf (by decide)) dX6_wireStatement_178 ?_
        refine go_iload (pc := 181) rfl dX6_wireStatement_181 ?_
        refine go_aload_n (pc := 183) rfl dX6_wireStatement_183 ?_
        refine go_aload_n (pc := 184) rfl dX6_wireStatement_184 ?_
        refine gi_getF (pc := 185) (q := 36) hv37 fL_X6_9 rfl (Nat.le_of_ble_eq_true rfl) rfl (hv37.rf (by decide)) dX6_wireStatement_185 ?_
        refine gi_getF (pc := 188) (q := 39) hv37 fL_X6_59 rfl (Nat.le_of_ble_eq_true rfl) rfl (hv37.rf (by decide)) dX6_wireStatement_188 ?_
        refine go_iload_n (pc := 191) rfl dX6_wireStatement_191 ?_
        refine gi_iald (pc := 192) (lo := -1) (hi := 127) (len := 128) hv37 (ti_rfl a2) rfl (by omega) (by omega) (fun _ => rfl) dX6_wireStatement_192 (fun v87 v87l v87u v87w => ?_)
        have k88 := bd_e k86 (congrArg Int32.toInt v87w.symm)
        refine go_iload (pc := 193) rfl dX6_wireStatement_193 ?_
        refine go_iload_n (pc := 195) rfl dX6_wireStatement_195 ?_
        refine go_iload (pc := 196) rfl dX6_wireStatement_196 ?_
        refine go_iconst (pc := 198) (v := 1) (by decide) dX6_wireStatement_198 ?_
        refine gf_iadd (pc := 199) (ti_rfl a5) (ti_c (v := 1) (a := 1) (by decide)) (by omega) (by omega) dX6_wireStatement_199 (fun v89 e90 => ?_)
        refine go_invV (pc := 200) (sl := 0) (s_X6_wireBlock_lv3_f l (d + 0) hv37 v87 (by rw [show (v87 : Int32).toInt = v87.toInt from (ti_rfl v87)]; omega) (by rw [show (v87 : Int32).toInt = v87.toInt from (ti_rfl v87)]; omega) v1 (by rw [show (v1 : Int32).toInt = v1.toInt from (ti_rfl v1)]; omega) (by rw [show (v1 : Int32).toInt = v1.toInt from (ti_rfl v1)]; omega) a4 (by rw [show (a4 : Int32).toInt = a4.toInt from (ti_rfl a4)]; omega) (by rw [show (a4 : Int32).toInt = a4.toInt from (ti_rfl a4)]; omega) v89 (by rw [show (v89 : Int32).toInt = (a5.toInt + 1) from e90]; omega) (by rw [show (v89 : Int32).toInt = (a5.toInt + 1) from e90]; omega)) mL_X6_34 iM_X6_wireBlock sM_X6_wireBlock (hv37.sh rfl) rfl rfl rfl (Nat.le_of_ble_eq_true rfl) (show d + 0 + 9 + 1 ≤ d + 10 by omega) (show 8 + (8 + 11) + 40 * (d + 0 + 9) ≤ 40 * (d + 10) by omega) (g_c0 hv37.ln) (Nat.le_of_ble_eq_true rfl) dX6_wireStatement_200 ?_
        intro r h91 hq _
        obtain ⟨v94, rfl, v94l, v94u, hv91, f92, f93⟩ := hq
        try rw [show (v89 : Int32).toInt = (a5.toInt + 1) from e90] at f92
        try rw [show (v89 : Int32).toInt = (a5.toInt + 1) from e90] at f93
        have fx91 : FX KC0 h h91 := FX.tr fx37 f93
        have k95 := bd2_e k88 f92
        refine gi_iast (pc := 203) (lo := 0) (hi := 44) (len := 40) hv91 (ti_rfl v1) (ti_rfl v94) (by rcases hc85 with rfl | rfl <;> rfl) (by omega) (by omega) (fun _ => by rcases hc85 with rfl | rfl <;> rfl) (by omega) (by omega) (by rcases hc85 with rfl | rfl <;> decide) dX6_wireStatement_203 (fun h96 hv96 hv96e => ?_)
        have fx96 : FX KC0 h h96 := FX.pI fx91 hv96e (by unfold KC0; omega)
        have k97 := bd_e k95 (st_I hv96e (ti_rfl v94))
        refine go_goto (pc := 204) (tgt := 279) (by decide) dX6_wireStatement_204 ?_
        refine go_iload (pc := 279) rfl dX6_wireStatement_279 ?_
        exact gi_iret (pc := 281) (ti_rfl v1) ⟨_, rfl, (by rw [show (v1 : Int32).toInt = v1.toInt from (ti_rfl v1)]; omega), (by rw [show (v1 : Int32).toInt = v1.toInt from (ti_rfl v1)]; omega), hv96, (k97.symm.trans kf), fx96⟩ hv96 dX6_wireStatement_281
    ·
      have k98 := if_f k42 (fun z => z q43)
      refine go_aload_n (pc := 145) rfl dX6_wireStatement_145 ?_
      refine gi_getC (pc := 146) hv37 fL_X6_15 rfl (Nat.le_of_ble_eq_true rfl) rfl (by decide) dX6_wireStatement_146 (fun c99 hc99 fc99 => ?_)
      have k100 := bd_e k98 (st_c fc99)
      refine gi_getF (pc := 149) (q := c99 + 13) hv37 fL_X6_71 (by rcases hc99 with rfl | rfl <;> rfl) (Nat.le_of_ble_eq_true rfl) rfl (by rcases hc99 with rfl | rfl <;> exact hv37.rf (by decide)) dX6_wireStatement_149 ?_
      refine go_iload (pc := 152) rfl dX6_wireStatement_152 ?_
      refine go_iload (pc := 154) rfl dX6_wireStatement_154 ?_
      refine gi_iast (pc := 156) (lo := 0) (hi := 44) (len := 40) hv37 (ti_rfl v1) e8 (by rcases hc99 with rfl | rfl <;> rfl) (by omega) (by omega) (fun _ => by rcases hc99 with rfl | rfl <;> rfl) (by omega) (by omega) (by rcases hc99 with rfl | rfl <;> decide) dX6_wireStatement_156 (fun h101 hv101 hv101e => ?_)
      have fx101 : FX KC0 h h101 := FX.pI fx37 hv101e (by unfold KC0; omega)
      have k102 := bd_e k100 (st_I hv101e e8)
      refine go_goto (pc := 157) (tgt := 279) (by decide) dX6_wireStatement_157 ?_
      refine go_iload (pc := 279) rfl dX6_wireStatement_279 ?_
      exact gi_iret (pc := 281) (ti_rfl v1) ⟨_, rfl, (by rw [show (v1 : Int32).toInt = v1.toInt from (ti_rfl v1)]; omega), (by rw [show (v1 : Int32).toInt = v1.toInt from (ti_rfl v1)]; omega), hv101, (k102.symm.trans kf), fx101⟩ hv101 dX6_wireStatement_281
  ·
    have k103 := if_f k18 (Int.not_le.mpr q19)
    refine go_iload (pc := 61) rfl dX6_wireStatement_61 ?_
    refine go_goto (pc := 63) (tgt := 75) (by decide) dX6_wireStatement_63 ?_
    refine gi_iast (pc := 75) (lo := 0) (hi := 44) (len := 40) hv15 (ti_rfl v1) e8 (by rcases hc17 with rfl | rfl <;> rfl) (by omega) (by omega) (fun _ => by rcases hc17 with rfl | rfl <;> rfl) (by omega) (by omega) (by rcases hc17 with rfl | rfl <;> decide) dX6_wireStatement_75 (fun h104 hv104 hv104e => ?_)
    have fx104 : FX KC0 h h104 := FX.pI fx15 hv104e (by unfold KC0; omega)
    have k105 := bd_e k103 (st_I hv104e e8)
    refine go_aload_n (pc := 76) rfl dX6_wireStatement_76 ?_
    refine gi_getC (pc := 77) hv104 fL_X6_15 rfl (Nat.le_of_ble_eq_true rfl) rfl (by decide) dX6_wireStatement_77 (fun c106 hc106 fc106 => ?_)
    have k107 := bd_e k105 (st_c fc106)
    refine gi_getF (pc := 80) (q := c106 + 14) hv104 fL_X6_74 (by rcases hc106 with rfl | rfl <;> rfl) (Nat.le_of_ble_eq_true rfl) rfl (by rcases hc106 with rfl | rfl <;> exact hv104.rf (by decide)) dX6_wireStatement_80 ?_
    refine go_iload (pc := 83) rfl dX6_wireStatement_83 ?_
    refine go_iload_n (pc := 85) rfl dX6_wireStatement_85 ?_
    refine gf_if_ge (pc := 86) (tgt := 93) (ti_rfl a4) (by decide) dX6_wireStatement_86 (fun q108 => False.elim (by omega)) (fun q108 => ?_)
    refine go_iconst (pc := 89) (v := (-1)) (by decide) dX6_wireStatement_89 ?_
    refine go_goto (pc := 90) (tgt := 102) (by decide) dX6_wireStatement_90 ?_
    refine gi_iast (pc := 102) (lo := -1) (hi := 5) (len := 40) hv104 (ti_rfl v1) (ti_c (v := (-1)) (a := (-1)) (by decide)) (by rcases hc106 with rfl | rfl <;> rfl) (by omega) (by omega) (fun _ => by rcases hc106 with rfl | rfl <;> rfl) (by omega) (by omega) (by rcases hc106 with rfl | rfl <;> decide) dX6_wireStatement_102 (fun h109 hv109 hv109e => ?_)
    have fx109 : FX KC0 h h109 := FX.pI fx104 hv109e (by unfold KC0; omega)
    have k110 := bd_e k107 (st_I hv109e (ti_c (v := (-1)) (a := (-1)) (by decide)))
    refine go_aload_n (pc := 103) rfl dX6_wireStatement_103 ?_
    refine gi_getC (pc := 104) hv109 fL_X6_15 rfl (Nat.le_of_ble_eq_true rfl) rfl (by decide) dX6_wireStatement_104 (fun c111 hc111 fc111 => ?_)
    have k112 := bd_e k110 (st_c fc111)
    refine gi_getF (pc := 107) (q := c111 + 15) hv109 fL_X6_80 (by rcases hc111 with rfl | rfl <;> rfl) (Nat.le_of_ble_eq_true rfl) rfl (by rcases hc111 with rfl | rfl <;> exact hv109.rf (by decide)) dX6_wireStatement_107 ?_
    refine go_iload (pc := 110) rfl dX6_wireStatement_110 ?_
    refine go_iload_n (pc := 112) rfl dX6_wireStatement_112 ?_
    refine gf_if_ge (pc := 113) (tgt := 121) (ti_rfl a4) (by decide) dX6_wireStatement_113 (fun q113 => False.elim (by omega)) (fun q113 => ?_)
    refine go_bipush (pc := 116) (v := (-2)) (by decide) dX6_wireStatement_116 ?_
    refine go_goto (pc := 118) (tgt := 130) (by decide) dX6_wireStatement_118 ?_
    refine gi_iast (pc := 130) (lo := -2) (hi := 44) (len := 40) hv109 (ti_rfl v1) (ti_c (v := (-2)) (a := (-2)) (by decide)) (by rcases hc111 with rfl | rfl <;> rfl) (by omega) (by omega) (fun _ => by rcases hc111 with rfl | rfl <;> rfl) (by omega) (by omega) (by rcases hc111 with rfl | rfl <;> decide) dX6_wireStatement_130 (fun h114 hv114 hv114e => ?_)
    have fx114 : FX KC0 h h114 := FX.pI fx109 hv114e (by unfold KC0; omega)
    have k115 := bd_e k112 (st_I hv114e (ti_c (v := (-2)) (a := (-2)) (by decide)))
    refine go_aload_n (pc := 131) rfl dX6_wireStatement_131 ?_
    refine gi_getC (pc := 132) hv114 fL_X6_15 rfl (Nat.le_of_ble_eq_true rfl) rfl (by decide) dX6_wireStatement_132 (fun c116 hc116 fc116 => ?_)
    have k117 := bd_e k115 (st_c fc116)
    refine gi_getF (pc := 135) (q := c116 + 2) hv114 fL_X6_81 (by rcases hc116 with rfl | rfl <;> rfl) (Nat.le_of_ble_eq_true rfl) rfl (by rcases hc116 with rfl | rfl <;> exact hv114.rf (by decide)) dX6_wireStatement_135 ?_
    refine go_iload (pc := 138) rfl dX6_wireStatement_138 ?_
    refine gi_iald (pc := 140) (lo := 0) (hi := 5) (len := 40) hv114 (ti_rfl v1) (by rcases hc116 with rfl | rfl <;> rfl) (by omega) (by omega) (fun _ => by rcases hc116 with rfl | rfl <;> rfl) dX6_wireStatement_140 (fun v118 v118l v118u v118w => ?_)
    have k119 := bd_e k117 (congrArg Int32.toInt v118w.symm)
    refine go_iconst (pc := 141) (v := 5) (by decide) dX6_wireStatement_141 ?_
    refine gf_icmp_ne (pc := 142) (tgt := 160) (ti_rfl v118) (ti_c (v := 5) (a := 5) (by decide)) (by decide) dX6_wireStatement_142 (fun q120 => ?_) (fun q120 => ?_)
    ·
      have k121 := if_t k119 q120
      refine go_aload_n (pc := 160) rfl dX6_wireStatement_160 ?_
      refine gi_getC (pc := 161) hv114 fL_X6_15 rfl (Nat.le_of_ble_eq_true rfl) rfl (by decide) dX6_wireStatement_161 (fun c122 hc122 fc122 => ?_)
      have k123 := bd_e k121 (st_c fc122)
      refine gi_getF (pc := 164) (q := c122 + 2) hv114 fL_X6_81 (by rcases hc122 with rfl | rfl <;> rfl) (Nat.le_of_ble_eq_true rfl) rfl (by rcases hc122 with rfl | rfl <;> exact hv114.rf (by decide)) dX6_wireStatement_164 ?_
      refine go_iload (pc := 167) rfl dX6_wireStatement_167 ?_
      refine gi_iald (pc := 169) (lo := 0) (hi := 5) (len := 40) hv114 (ti_rfl v1) (by rcases hc122 with rfl | rfl <;> rfl) (by omega) (by omega) (fun _ => by rcases hc122 with rfl | rfl <;> rfl) dX6_wireStatement_169 (fun v124 v124l v124u v124w => ?_)
      have k125 := bd_e k123 (congrArg Int32.toInt v124w.symm)
      refine go_iconst (pc := 170) (v := 3) (by decide) dX6_wireStatement_170 ?_
      refine gf_icmp_ne (pc := 171) (tgt := 207) (ti_rfl v124) (ti_c (v := 3) (a := 3) (by decide)) (by decide) dX6_wireStatement_171 (fun q126 => ?_) (fun q126 => ?_)
      ·
        have k127 := if_t k125 q126
        refine go_aload_n (pc := 207) rfl dX6_wireStatement_207 ?_
        refine gi_getC (pc := 208) hv114 fL_X6_15 rfl (Nat.le_of_ble_eq_true rfl) rfl (by decide) dX6_wireStatement_208 (fun c128 hc128 fc128 => ?_)
        have k129 := bd_e k127 (st_c fc128)
        refine gi_getF (pc := 211) (q := c128 + 2) hv114 fL_X6_81 (by rcases hc128 with rfl | rfl <;> rfl) (Nat.le_of_ble_eq_true rfl) rfl (by rcases hc128 with rfl | rfl <;> exact hv114.rf (by decide)) dX6_wireStatement_211 ?_
        refine go_iload (pc := 214) rfl dX6_wireStatement_214 ?_
        refine gi_iald (pc := 216) (lo := 0) (hi := 5) (len := 40) hv114 (ti_rfl v1) (by rcases hc128 with rfl | rfl <;> rfl) (by omega) (by omega) (fun _ => by rcases hc128 with rfl | rfl <;> rfl) dX6_wireStatement_216 (fun v130 v130l v130u v130w => ?_)
        have k131 := bd_e k129 (congrArg Int32.toInt v130w.symm)
        refine go_iconst (pc := 217) (v := 2) (by decide) dX6_wireStatement_217 ?_
        refine gf_icmp_ne (pc := 218) (tgt := 279) (ti_rfl v130) (ti_c (v := 2) (a := 2) (by decide)) (by decide) dX6_wireStatement_218 (fun q132 => ?_) (fun q132 => ?_)
        ·
          have k133 := if_t k131 q132
          refine go_iload (pc := 279) rfl dX6_wireStatement_279 ?_
          exact gi_iret (pc := 281) (ti_rfl v1) ⟨_, rfl, (by rw [show (v1 : Int32).toInt = v1.toInt from (ti_rfl v1)]; omega), (by rw [show (v1 : Int32).toInt = v1.toInt from (ti_rfl v1)]; omega), hv114, (k133.symm.trans kf), fx114⟩ hv114 dX6_wireStatement_281
        ·
          have k134 := if_f k131 (fun z => z q132)
          refine go_aload_n (pc := 221) rfl dX6_wireStatement_221 ?_
          refine gi_getC (pc := 222) hv114 fL_X6_15 rfl (Nat.le_of_ble_eq_true rfl) rfl (by decide) dX6_wireStatement_222 (fun c135 hc135 fc135 => ?_)
          have k136 := bd_e k134 (st_c fc135)
          refine gi_getF (pc := 225) (q := c135 + 13) hv114 fL_X6_71 (by rcases hc135 with rfl | rfl <;> rfl) (Nat.le_of_ble_eq_true rfl) rfl (by rcases hc135 with rfl | rfl <;> exact hv114.rf (by decide)) dX6_wireStatement_225 ?_
          refine go_iload (pc := 228) rfl dX6_wireStatement_228 ?_
          refine go_aload_n (pc := 230) rfl dX6_wireStatement_230 ?_
          refine go_aload_n (pc := 231) rfl dX6_wireStatement_231 ?_
          refine gi_getF (pc := 232) (q := 36) hv114 fL_X6_9 rfl (Nat.le_of_ble_eq_true rfl) rfl (hv114.rf (by decide)) dX6_wireStatement_232 ?_
          refine gi_getF (pc := 235) (q := 39) hv114 fL_X6_59 rfl (Nat.le_of_ble_eq_true rfl) rfl (hv114.rf (by decide)) dX6_wireStatement_235 ?_
          refine go_iload_n (pc := 238) rfl dX6_wireStatement_238 ?_
          refine gi_iald (pc := 239) (lo := -1) (hi := 127) (len := 128) hv114 (ti_rfl a2) rfl (by omega) (by omega) (fun _ => rfl) dX6_wireStatement_239 (fun v137 v137l v137u v137w => ?_)
          have k138 := bd_e k136 (congrArg Int32.toInt v137w.symm)
          refine go_iload_n (pc := 240) rfl dX6_wireStatement_240 ?_
          refine go_iload_n (pc := 241) rfl dX6_wireStatement_241 ?_
          refine go_iload (pc := 242) rfl dX6_wireStatement_242 ?_
          refine go_iconst (pc := 244) (v := 1) (by decide) dX6_wireStatement_244 ?_
          refine gf_iadd (pc := 245) (ti_rfl a5) (ti_c (v := 1) (a := 1) (by decide)) (by omega) (by omega) dX6_wireStatement_245 (fun v139 e140 => ?_)
          refine go_invV (pc := 246) (sl := 0) (s_X6_wireBlock_lv3_f l (d + 0) hv114 v137 (by rw [show (v137 : Int32).toInt = v137.toInt from (ti_rfl v137)]; omega) (by rw [show (v137 : Int32).toInt = v137.toInt from (ti_rfl v137)]; omega) a3 (by rw [show (a3 : Int32).toInt = a3.toInt from (ti_rfl a3)]; omega) (by rw [show (a3 : Int32).toInt = a3.toInt from (ti_rfl a3)]; omega) a4 (by rw [show (a4 : Int32).toInt = a4.toInt from (ti_rfl a4)]; omega) (by rw [show (a4 : Int32).toInt = a4.toInt from (ti_rfl a4)]; omega) v139 (by rw [show (v139 : Int32).toInt = (a5.toInt + 1) from e140]; omega) (by rw [show (v139 : Int32).toInt = (a5.toInt + 1) from e140]; omega)) mL_X6_34 iM_X6_wireBlock sM_X6_wireBlock (hv114.sh rfl) rfl rfl rfl (Nat.le_of_ble_eq_true rfl) (show d + 0 + 9 + 1 ≤ d + 10 by omega) (show 8 + (8 + 11) + 40 * (d + 0 + 9) ≤ 40 * (d + 10) by omega) (g_c0 hv114.ln) (Nat.le_of_ble_eq_true rfl) dX6_wireStatement_246 ?_
          intro r h141 hq _
          obtain ⟨v144, rfl, v144l, v144u, hv141, f142, f143⟩ := hq
          try rw [show (v139 : Int32).toInt = (a5.toInt + 1) from e140] at f142
          try rw [show (v139 : Int32).toInt = (a5.toInt + 1) from e140] at f143
          have fx141 : FX KC0 h h141 := FX.tr fx114 f143
          have k145 := bd2_e k138 f142
          refine gi_iast (pc := 249) (lo := 0) (hi := 44) (len := 40) hv141 (ti_rfl v1) (ti_rfl v144) (by rcases hc135 with rfl | rfl <;> rfl) (by omega) (by omega) (fun _ => by rcases hc135 with rfl | rfl <;> rfl) (by omega) (by omega) (by rcases hc135 with rfl | rfl <;> decide) dX6_wireStatement_249 (fun h146 hv146 hv146e => ?_)
          have fx146 : FX KC0 h h146 := FX.pI fx141 hv146e (by unfold KC0; omega)
          have k147 := bd_e k145 (st_I hv146e (ti_rfl v144))
          refine go_aload_n (pc := 250) rfl dX6_wireStatement_250 ?_
          refine gi_getC (pc := 251) hv146 fL_X6_15 rfl (Nat.le_of_ble_eq_true rfl) rfl (by decide) dX6_wireStatement_251 (fun c148 hc148 fc148 => ?_)
          have k149 := bd_e k147 (st_c fc148)
          refine gi_getF (pc := 254) (q := c148 + 12) hv146 fL_X6_68 (by rcases hc148 with rfl | rfl <;> rfl) (Nat.le_of_ble_eq_true rfl) rfl (by rcases hc148 with rfl | rfl <;> exact hv146.rf (by decide)) dX6_wireStatement_254 ?_
          refine go_iload (pc := 257) rfl dX6_wireStatement_257 ?_
          refine go_aload_n (pc := 259) rfl dX6_wireStatement_259 ?_
          refine go_aload_n (pc := 260) rfl dX6_wireStatement_260 ?_
          refine gi_getF (pc := 261) (q := 36) hv146 fL_X6_9 rfl (Nat.le_of_ble_eq_true rfl) rfl (hv146.rf (by decide)) dX6_wireStatement_261 ?_
          refine gi_getF (pc := 264) (q := 40) hv146 fL_X6_50 rfl (Nat.le_of_ble_eq_true rfl) rfl (hv146.rf (by decide)) dX6_wireStatement_264 ?_
          refine go_iload_n (pc := 267) rfl dX6_wireStatement_267 ?_
          refine gi_iald (pc := 268) (lo := -1) (hi := 127) (len := 128) hv146 (ti_rfl a2) rfl (by omega) (by omega) (fun _ => rfl) dX6_wireStatement_268 (fun v150 v150l v150u v150w => ?_)
          have k151 := bd_e k149 (congrArg Int32.toInt v150w.symm)
          refine go_iload_n (pc := 269) rfl dX6_wireStatement_269 ?_
          refine go_iload_n (pc := 270) rfl dX6_wireStatement_270 ?_
          refine go_iload (pc := 271) rfl dX6_wireStatement_271 ?_
          refine go_iconst (pc := 273) (v := 1) (by decide) dX6_wireStatement_273 ?_
          refine gf_iadd (pc := 274) (ti_rfl a5) (ti_c (v := 1) (a := 1) (by decide)) (by omega) (by omega) dX6_wireStatement_274 (fun v152 e153 => ?_)
          refine go_invV (pc := 275) (sl := 0) (s_X6_wireBlock_lv3_f l (d + 0) hv146 v150 (by rw [show (v150 : Int32).toInt = v150.toInt from (ti_rfl v150)]; omega) (by rw [show (v150 : Int32).toInt = v150.toInt from (ti_rfl v150)]; omega) a3 (by rw [show (a3 : Int32).toInt = a3.toInt from (ti_rfl a3)]; omega) (by rw [show (a3 : Int32).toInt = a3.toInt from (ti_rfl a3)]; omega) a4 (by rw [show (a4 : Int32).toInt = a4.toInt from (ti_rfl a4)]; omega) (by rw [show (a4 : Int32).toInt = a4.toInt from (ti_rfl a4)]; omega) v152 (by rw [show (v152 : Int32).toInt = (a5.toInt + 1) from e153]; omega) (by rw [show (v152 : Int32).toInt = (a5.toInt + 1) from e153]; omega)) mL_X6_34 iM_X6_wireBlock sM_X6_wireBlock (hv146.sh rfl) rfl rfl rfl (Nat.le_of_ble_eq_true rfl) (show d + 0 + 9 + 1 ≤ d + 10 by omega) (show 8 + (8 + 11) + 40 * (d + 0 + 9) ≤ 40 * (d + 10) by omega) (g_c0 hv146.ln) (Nat.le_of_ble_eq_true rfl) dX6_wireStatement_275 ?_
          intro r h154 hq _
          obtain ⟨v157, rfl, v157l, v157u, hv154, f155, f156⟩ := hq
          try rw [show (v152 : Int32).toInt = (a5.toInt + 1) from e153] at f155
          try rw [show (v152 : Int32).toInt = (a5.toInt + 1) from e153] at f156
          have fx154 : FX KC0 h h154 := FX.tr fx146 f156
          have k158 := bd2_e k151 f155
          refine gi_iast (pc := 278) (lo := 0) (hi := 44) (len := 40) hv154 (ti_rfl v1) (ti_rfl v157) (by rcases hc148 with rfl | rfl <;> rfl) (by omega) (by omega) (fun _ => by rcases hc148 with rfl | rfl <;> rfl) (by omega) (by omega) (by rcases hc148 with rfl | rfl <;> decide) dX6_wireStatement_278 (fun h159 hv159 hv159e => ?_)
          have fx159 : FX KC0 h h159 := FX.pI fx154 hv159e (by unfold KC0; omega)
          have k160 := bd_e k158 (st_I hv159e (ti_rfl v157))
          refine go_iload (pc := 279) rfl dX6_wireStatement_279 ?_
          exact gi_iret (pc := 281) (ti_rfl v1) ⟨_, rfl, (by rw [show (v1 : Int32).toInt = v1.toInt from (ti_rfl v1)]; omega), (by rw [show (v1 : Int32).toInt = v1.toInt from (ti_rfl v1)]; omega), hv159, (k160.symm.trans kf), fx159⟩ hv159 dX6_wireStatement_281
      ·
        have k161 := if_f k125 (fun z => z q126)
        refine go_aload_n (pc := 174) rfl dX6_wireStatement_174 ?_
        refine gi_getC (pc := 175) hv114 fL_X6_15 rfl (Nat.le_of_ble_eq_true rfl) rfl (by decide) dX6_wireStatement_175 (fun c162 hc162 fc162 => ?_)
        have k163 := bd_e k161 (st_c fc162)
        refine gi_getF (pc := 178) (q := c162 + 13) hv114 fL_X6_71 (by rcases hc162 with rfl | rfl <;> rfl) (Nat.le_of_ble_eq_true rfl) rfl (by rcases hc162 with rfl | rfl <;> exact hv114.rf (by decide)) dX6_wireStatement_178 ?_
        refine go_iload (pc := 181) rfl dX6_wireStatement_181 ?_
        refine go_aload_n (pc := 183) rfl dX6_wireStatement_183 ?_
        refine go_aload_n (pc := 184) rfl dX6_wireStatement_184 ?_
        refine gi_getF (pc := 185) (q := 36) hv114 fL_X6_9 rfl (Nat.le_of_ble_eq_true rfl) rfl (hv114.rf (by decide)) dX6_wireStatement_185 ?_
        refine gi_getF (pc := 188) (q := 39) hv114 fL_X6_59 rfl (Nat.le_of_ble_eq_true rfl) rfl (hv114.rf (by decide)) dX6_wireStatement_188 ?_
        refine go_iload_n (pc := 191) rfl dX6_wireStatement_191 ?_
        refine gi_iald (pc := 192) (lo := -1) (hi := 127) (len := 128) hv114 (ti_rfl a2) rfl (by omega) (by omega) (fun _ => rfl) dX6_wireStatement_192 (fun v164 v164l v164u v164w => ?_)
        have k165 := bd_e k163 (congrArg Int32.toInt v164w.symm)
        refine go_iload (pc := 193) rfl dX6_wireStatement_193 ?_
        refine go_iload_n (pc := 195) rfl dX6_wireStatement_195 ?_
        refine go_iload (pc := 196) rfl dX6_wireStatement_196 ?_
        refine go_iconst (pc := 198) (v := 1) (by decide) dX6_wireStatement_198 ?_
        refine gf_iadd (pc := 199) (ti_rfl a5) (ti_c (v := 1) (a := 1) (by decide)) (by omega) (by omega) dX6_wireStatement_199 (fun v166 e167 => ?_)
        refine go_invV (pc := 200) (sl := 0) (s_X6_wireBlock_lv3_f l (d + 0) hv114 v164 (by rw [show (v164 : Int32).toInt = v164.toInt from (ti_rfl v164)]; omega) (by rw [show (v164 : Int32).toInt = v164.toInt from (ti_rfl v164)]; omega) v1 (by rw [show (v1 : Int32).toInt = v1.toInt from (ti_rfl v1)]; omega) (by rw [show (v1 : Int32).toInt = v1.toInt from (ti_rfl v1)]; omega) a4 (by rw [show (a4 : Int32).toInt = a4.toInt from (ti_rfl a4)]; omega) (by rw [show (a4 : Int32).toInt = a4.toInt from (ti_rfl a4)]; omega) v166 (by rw [show (v166 : Int32).toInt = (a5.toInt + 1) from e167]; omega) (by rw [show (v166 : Int32).toInt = (a5.toInt + 1) from e167]; omega)) mL_X6_34 iM_X6_wireBlock sM_X6_wireBlock (hv114.sh rfl) rfl rfl rfl (Nat.le_of_ble_eq_true rfl) (show d + 0 + 9 + 1 ≤ d + 10 by omega) (show 8 + (8 + 11) + 40 * (d + 0 + 9) ≤ 40 * (d + 10) by omega) (g_c0 hv114.ln) (Nat.le_of_ble_eq_true rfl) dX6_wireStatement_200 ?_
        intro r h168 hq _
        obtain ⟨v171, rfl, v171l, v171u, hv168, f169, f170⟩ := hq
        try rw [show (v166 : Int32).toInt = (a5.toInt + 1) from e167] at f169
        try rw [show (v166 : Int32).toInt = (a5.toInt + 1) from e167] at f170
        have fx168 : FX KC0 h h168 := FX.tr fx114 f170
        have k172 := bd2_e k165 f169
        refine gi_iast (pc := 203) (lo := 0) (hi := 44) (len := 40) hv168 (ti_rfl v1) (ti_rfl v171) (by rcases hc162 with rfl | rfl <;> rfl) (by omega) (by omega) (fun _ => by rcases hc162 with rfl | rfl <;> rfl) (by omega) (by omega) (by rcases hc162 with rfl | rfl <;> decide) dX6_wireStatement_203 (fun h173 hv173 hv173e => ?_)
        have fx173 : FX KC0 h h173 := FX.pI fx168 hv173e (by unfold KC0; omega)
        have k174 := bd_e k172 (st_I hv173e (ti_rfl v171))
        refine go_goto (pc := 204) (tgt := 279) (by decide) dX6_wireStatement_204 ?_
        refine go_iload (pc := 279) rfl dX6_wireStatement_279 ?_
        exact gi_iret (pc := 281) (ti_rfl v1) ⟨_, rfl, (by rw [show (v1 : Int32).toInt = v1.toInt from (ti_rfl v1)]; omega), (by rw [show (v1 : Int32).toInt = v1.toInt from (ti_rfl v1)]; omega), hv173, (k174.symm.trans kf), fx173⟩ hv173 dX6_wireStatement_281
    ·
      have k175 := if_f k119 (fun z => z q120)
      refine go_aload_n (pc := 145) rfl dX6_wireStatement_145 ?_
      refine gi_getC (pc := 146) hv114 fL_X6_15 rfl (Nat.le_of_ble_eq_true rfl) rfl (by decide) dX6_wireStatement_146 (fun c176 hc176 fc176 => ?_)
      have k177 := bd_e k175 (st_c fc176)
      refine gi_getF (pc := 149) (q := c176 + 13) hv114 fL_X6_71 (by rcases hc176 with rfl | rfl <;> rfl) (Nat.le_of_ble_eq_true rfl) rfl (by rcases hc176 with rfl | rfl <;> exact hv114.rf (by decide)) dX6_wireStatement_149 ?_
      refine go_iload (pc := 152) rfl dX6_wireStatement_152 ?_
      refine go_iload (pc := 154) rfl dX6_wireStatement_154 ?_
      refine gi_iast (pc := 156) (lo := 0) (hi := 44) (len := 40) hv114 (ti_rfl v1) e8 (by rcases hc176 with rfl | rfl <;> rfl) (by omega) (by omega) (fun _ => by rcases hc176 with rfl | rfl <;> rfl) (by omega) (by omega) (by rcases hc176 with rfl | rfl <;> decide) dX6_wireStatement_156 (fun h178 hv178 hv178e => ?_)
      have fx178 : FX KC0 h h178 := FX.pI fx114 hv178e (by unfold KC0; omega)
      have k179 := bd_e k177 (st_I hv178e e8)
      refine go_goto (pc := 157) (tgt := 279) (by decide) dX6_wireStatement_157 ?_
      refine go_iload (pc := 279) rfl dX6_wireStatement_279 ?_
      exact gi_iret (pc := 281) (ti_rfl v1) ⟨_, rfl, (by rw [show (v1 : Int32).toInt = v1.toInt from (ti_rfl v1)]; omega), (by rw [show (v1 : Int32).toInt = v1.toInt from (ti_rfl v1)]; omega), hv178, (k179.symm.trans kf), fx178⟩ hv178 dX6_wireStatement_281
def f_X6_wireBlock_lv2_ : Nat → Nat → Int → Int → Int → Int → Int → ST → ST × Int
  | 0, _, _, _, _, _, _, sx => (sx, 0)
  | n + 1, _, l3, l4, l5, l6, l7, sx => if 128 ≤ l7 then ((sx, l5)) else (if l6 < 0 then ((sx, l5)) else (bd (sx.1 37 (l6).toNat) fun v7 => if ¬ v7 = (-1) then (bd2 (f_X6_wireStatement_lv2 sx l6 l5 l3 l4) fun s11 v14 => bd (s11.1 38 (l6).toNat) fun v16 => f_X6_wireBlock_lv2_ n 20 l3 l4 v14 v16 ((l7 + 1)) s11) else (bd2 (f_X6_wireTry_lv2 sx l6 l5 l3 l4) fun s22 v25 => bd (s22.1 38 (l6).toNat) fun v27 => f_X6_wireBlock_lv2_ n 20 l3 l4 v25 v27 ((l7 + 1)) s22)))
def f_X6_wireBlock_lv2 (s : ST) (a2 : Int) (a3 : Int) (a4 : Int) (a5 : Int) : ST × Int :=
  f_X6_wireBlock_lv2_ 403 20 a4 a5 a3 a2 0 s
set_option maxHeartbeats 4000000 in
set_option maxRecDepth 100000 in
theorem s_X6_wireBlock_lv2_f (l : Launch) (d : Nat) {P : PP} {h : HP} (hv : Iv P h) (a2 : Int32) (a2l : -1 ≤ a2.toInt) (a2u : a2.toInt ≤ 127) (a3 : Int32) (a3l : 0 ≤ a3.toInt) (a3u : a3.toInt ≤ 44) (a4 : Int32) (a4l : -1 ≤ a4.toInt) (a4u : a4.toInt ≤ 127) (a5 : Int32) (a5l : 2 ≤ a5.toInt) (a5u : a5.toInt ≤ 2) : Mt l yX6_wireBlock cX6_wireBlock 8 (some .int) (d + 11) [.ref 48, .int a2, .int a3, .int a4, .int a5] h 0 0 (fun r h' => ∃ v : Int32, r = some (.int v) ∧ 0 ≤ v.toInt ∧ v.toInt ≤ 44 ∧ Iv P h' ∧ ((st h', v.toInt) = f_X6_wireBlock_lv2 (st h) a2.toInt a3.toInt a4.toInt a5.toInt) ∧ (FX KC0 h h')) := by
  refine Mt_iv hv (by decide) (Nat.le_of_ble_eq_true rfl) ?_
  show Go l RX6 cX6_wireBlock 8 (g_rm (d + 11) 0 0) "wireBlock" (some .int) 117 0 0 (fun _ _ => True) (fun r h' => ∃ v : Int32, r = some (.int v) ∧ 0 ≤ v.toInt ∧ v.toInt ≤ 44 ∧ Iv P h' ∧ ((st h', v.toInt) = f_X6_wireBlock_lv2 (st h) a2.toInt a3.toInt a4.toInt a5.toInt) ∧ (FX KC0 h h')) 0 0 [(0, .ref 48), (1, .int a2), (2, .int a3), (3, .int a4), (4, .int a5)] [] h
  have fx : FX KC0 h h := FX.rfl
  obtain ⟨fin, kf⟩ : ∃ z, z = f_X6_wireBlock_lv2 (st h) a2.toInt a3.toInt a4.toInt a5.toInt := ⟨_, _root_.rfl⟩
  have k0 := kf
  unfold f_X6_wireBlock_lv2 at k0
  have key : ∀ n : Nat, (∀ (l3 : Int32) (l4 : Int32) (l5 : Int32) (l6 : Int32) (l7 : Int32) (hx : HP), Iv P hx → -1 ≤ l3.toInt → l3.toInt ≤ 127 → 2 ≤ l4.toInt → l4.toInt ≤ 2 → 0 ≤ l5.toInt → l5.toInt ≤ 44 → -1 ≤ l6.toInt → l6.toInt ≤ 127 → 0 ≤ l7.toInt → l7.toInt ≤ 128 → FX KC0 h hx → fin = f_X6_wireBlock_lv2_ n 20 l3.toInt l4.toInt l5.toInt l6.toInt l7.toInt (st hx) → (3 * (128 - l7.toInt) + 2 : Int) < n → Go l RX6 cX6_wireBlock 8 (g_rm (d + 11) 0 0) "wireBlock" (some .int) 117 0 0 (fun _ _ => True) (fun r h' => ∃ v : Int32, r = some (.int v) ∧ 0 ≤ v.toInt ∧ v.toInt ≤ 44 ∧ Iv P h' ∧ ((st h', v.toInt) = f_X6_wireBlock_lv2 (st h) a2.toInt a3.toInt a4.toInt a5.toInt) ∧ (FX KC0 h h')) 0 20 [(0, .ref 48), (3, .int l3), (4, .int l4), (5, .int l5), (6, .int l6), (7, .int l7)] [] hx) := by
    intro n
    induction n with
    | zero => exact (by intros; omega)
    | succ n ih =>
      refine ?_
      ·
        intro l3 l4 l5 l6 l7 hx hvx l3l l3u l4l l4u l5l l5u l6l l6u l7l l7u fxx kL hm
        rw [f_X6_wireBlock_lv2_] at kL
        refine go_iload (pc := 20) rfl dX6_wireBlock_20 ?_
        refine go_sipush (pc := 22) (v := 128) (by decide) dX6_wireBlock_22 ?_
        refine gf_icmp_ge (pc := 25) (tgt := 94) (ti_rfl l7) (ti_c (v := 128) (a := 128) (by decide)) (by decide) dX6_wireBlock_25 (fun q1 => ?_) (fun q1 => ?_)
        ·
          have k2 := if_t kL q1
          refine go_iload (pc := 94) rfl dX6_wireBlock_94 ?_
          exact gi_iret (pc := 96) (ti_rfl l5) ⟨_, rfl, (by rw [show (l5 : Int32).toInt = l5.toInt from (ti_rfl l5)]; omega), (by rw [show (l5 : Int32).toInt = l5.toInt from (ti_rfl l5)]; omega), hvx, (k2.symm.trans kf), fxx⟩ hvx dX6_wireBlock_96
        ·
          have k3 := if_f kL (Int.not_le.mpr q1)
          refine go_iload (pc := 28) rfl dX6_wireBlock_28 ?_
          refine gf_if_lt (pc := 30) (tgt := 94) (ti_rfl l6) (by decide) dX6_wireBlock_30 (fun q4 => ?_) (fun q4 => ?_)
          ·
            have k5 := if_t k3 q4
            refine go_iload (pc := 94) rfl dX6_wireBlock_94 ?_
            exact gi_iret (pc := 96) (ti_rfl l5) ⟨_, rfl, (by rw [show (l5 : Int32).toInt = l5.toInt from (ti_rfl l5)]; omega), (by rw [show (l5 : Int32).toInt = l5.toInt from (ti_rfl l5)]; omega), hvx, (k5.symm.trans kf), fxx⟩ hvx dX6_wireBlock_96
          ·
            have k6 := if_f k3 (Int.not_lt.mpr q4)
            refine go_aload_n (pc := 33) rfl dX6_wireBlock_33 ?_
            refine gi_getF (pc := 34) (q := 36) hvx fL_X6_9 rfl (Nat.le_of_ble_eq_true rfl) rfl (hvx.rf (by decide)) dX6_wireBlock_34 ?_
            refine gi_getF (pc := 37) (q := 37) hvx fL_X6_38 rfl (Nat.le_of_ble_eq_true rfl) rfl (hvx.rf (by decide)) dX6_wireBlock_37 ?_
            refine go_iload (pc := 40) rfl dX6_wireBlock_40 ?_
            refine gi_iald (pc := 42) (lo := -1) (hi := 39) (len := 128) hvx (ti_rfl l6) rfl (by omega) (by omega) (fun _ => rfl) dX6_wireBlock_42 (fun v7 v7l v7u v7w => ?_)
            have k8 := bd_e k6 (congrArg Int32.toInt v7w.symm)
            refine go_iconst (pc := 43) (v := (-1)) (by decide) dX6_wireBlock_43 ?_
            refine gf_icmp_ne (pc := 44) (tgt := 63) (ti_rfl v7) (ti_c (v := (-1)) (a := (-1)) (by decide)) (by decide) dX6_wireBlock_44 (fun q9 => ?_) (fun q9 => ?_)
            ·
              have k10 := if_t k8 q9
              refine go_aload_n (pc := 63) rfl dX6_wireBlock_63 ?_
              refine go_iload (pc := 64) rfl dX6_wireBlock_64 ?_
              refine go_iload (pc := 66) rfl dX6_wireBlock_66 ?_
              refine go_iload_n (pc := 68) rfl dX6_wireBlock_68 ?_
              refine go_iload (pc := 69) rfl dX6_wireBlock_69 ?_
              refine go_invV (pc := 71) (sl := 0) (s_X6_wireStatement_lv2_f l (d + 0) hvx l6 (by rw [show (l6 : Int32).toInt = l6.toInt from (ti_rfl l6)]; omega) (by rw [show (l6 : Int32).toInt = l6.toInt from (ti_rfl l6)]; omega) l5 (by rw [show (l5 : Int32).toInt = l5.toInt from (ti_rfl l5)]; omega) (by rw [show (l5 : Int32).toInt = l5.toInt from (ti_rfl l5)]; omega) l3 (by rw [show (l3 : Int32).toInt = l3.toInt from (ti_rfl l3)]; omega) (by rw [show (l3 : Int32).toInt = l3.toInt from (ti_rfl l3)]; omega) l4 (by rw [show (l4 : Int32).toInt = l4.toInt from (ti_rfl l4)]; omega) (by rw [show (l4 : Int32).toInt = l4.toInt from (ti_rfl l4)]; omega) (by rw [← v7w]; omega)) mL_X6_44 iM_X6_wireStatement sM_X6_wireStatement (hvx.sh rfl) rfl rfl rfl (Nat.le_of_ble_eq_true rfl) (show d + 0 + 10 + 1 ≤ d + 11 by omega) (show 8 + (7 + 11) + 40 * (d + 0 + 10) ≤ 40 * (d + 11) by omega) (g_c0 hvx.ln) (Nat.le_of_ble_eq_true rfl) dX6_wireBlock_71 ?_
              intro r h11 hq _
              obtain ⟨v14, rfl, v14l, v14u, hv11, f12, f13⟩ := hq
              have fx11 : FX KC0 h h11 := FX.tr fxx f13
              have k15 := bd2_e k10 f12
              refine go_istore (pc := 74) (Nat.le_of_ble_eq_true rfl) dX6_wireBlock_74 (go_lv (lv2 := [(0, .ref 48), (3, .int l3), (4, .int l4), (5, .int v14), (6, .int l6), (7, .int l7)]) rfl ?_)
              refine go_aload_n (pc := 76) rfl dX6_wireBlock_76 ?_
              refine gi_getF (pc := 77) (q := 36) hv11 fL_X6_9 rfl (Nat.le_of_ble_eq_true rfl) rfl (hv11.rf (by decide)) dX6_wireBlock_77 ?_
              refine gi_getF (pc := 80) (q := 38) hv11 fL_X6_47 rfl (Nat.le_of_ble_eq_true rfl) rfl (hv11.rf (by decide)) dX6_wireBlock_80 ?_
              refine go_iload (pc := 83) rfl dX6_wireBlock_83 ?_
              refine gi_iald (pc := 85) (lo := -1) (hi := 127) (len := 128) hv11 (ti_rfl l6) rfl (by omega) (by omega) (fun _ => rfl) dX6_wireBlock_85 (fun v16 v16l v16u v16w => ?_)
              have k17 := bd_e k15 (congrArg Int32.toInt v16w.symm)
              refine go_istore (pc := 86) (Nat.le_of_ble_eq_true rfl) dX6_wireBlock_86 (go_lv (lv2 := [(0, .ref 48), (3, .int l3), (4, .int l4), (5, .int v14), (6, .int v16), (7, .int l7)]) rfl ?_)
              refine gf_iinc (pc := 88) (Nat.le_of_ble_eq_true rfl) rfl (ti_rfl l7) (ti_c (by decide)) (by omega) (by omega) dX6_wireBlock_88 (fun v18 e19 => ?_)
              refine go_lv (lv2 := [(0, .ref 48), (3, .int l3), (4, .int l4), (5, .int v14), (6, .int v16), (7, .int v18)]) rfl ?_
              refine go_goto (pc := 91) (tgt := 20) (by decide) dX6_wireBlock_91 ?_
              have z20 : (v18 : Int32).toInt = (l7.toInt + 1) := e19
              exact go_lv rfl (ih l3 l4 v14 v16 v18 h11 hv11 (by omega) (by omega) (by omega) (by omega) (by omega) (by omega) (by omega) (by omega) (by omega) (by omega) fx11 (by rw [show (v18 : Int32).toInt = (l7.toInt + 1) from e19]; exact k17) (by omega))
            ·
              have k21 := if_f k8 (fun z => z q9)
              refine go_aload_n (pc := 47) rfl dX6_wireBlock_47 ?_
              refine go_iload (pc := 48) rfl dX6_wireBlock_48 ?_
              refine go_iload (pc := 50) rfl dX6_wireBlock_50 ?_
              refine go_iload_n (pc := 52) rfl dX6_wireBlock_52 ?_
              refine go_iload (pc := 53) rfl dX6_wireBlock_53 ?_
              refine go_invV (pc := 55) (sl := 0) (s_X6_wireTry_lv2_f l (d + 0) hvx l6 (by rw [show (l6 : Int32).toInt = l6.toInt from (ti_rfl l6)]; omega) (by rw [show (l6 : Int32).toInt = l6.toInt from (ti_rfl l6)]; omega) l5 (by rw [show (l5 : Int32).toInt = l5.toInt from (ti_rfl l5)]; omega) (by rw [show (l5 : Int32).toInt = l5.toInt from (ti_rfl l5)]; omega) l3 (by rw [show (l3 : Int32).toInt = l3.toInt from (ti_rfl l3)]; omega) (by rw [show (l3 : Int32).toInt = l3.toInt from (ti_rfl l3)]; omega) l4 (by rw [show (l4 : Int32).toInt = l4.toInt from (ti_rfl l4)]; omega) (by rw [show (l4 : Int32).toInt = l4.toInt from (ti_rfl l4)]; omega)) mL_X6_41 iM_X6_wireTry sM_X6_wireTry (hvx.sh rfl) rfl rfl rfl (Nat.le_of_ble_eq_true rfl) (show d + 0 + 10 + 1 ≤ d + 11 by omega) (show 8 + (6 + 11) + 40 * (d + 0 + 10) ≤ 40 * (d + 11) by omega) (g_c0 hvx.ln) (Nat.le_of_ble_eq_true rfl) dX6_wireBlock_55 ?_
              intro r h22 hq _
              obtain ⟨v25, rfl, v25l, v25u, hv22, f23, f24⟩ := hq
              have fx22 : FX KC0 h h22 := FX.tr fxx f24
              have k26 := bd2_e k21 f23
              refine go_istore (pc := 58) (Nat.le_of_ble_eq_true rfl) dX6_wireBlock_58 (go_lv (lv2 := [(0, .ref 48), (3, .int l3), (4, .int l4), (5, .int v25), (6, .int l6), (7, .int l7)]) rfl ?_)
              refine go_goto (pc := 60) (tgt := 76) (by decide) dX6_wireBlock_60 ?_
              refine go_aload_n (pc := 76) rfl dX6_wireBlock_76 ?_
              refine gi_getF (pc := 77) (q := 36) hv22 fL_X6_9 rfl (Nat.le_of_ble_eq_true rfl) rfl (hv22.rf (by decide)) dX6_wireBlock_77 ?_
              refine gi_getF (pc := 80) (q := 38) hv22 fL_X6_47 rfl (Nat.le_of_ble_eq_true rfl) rfl (hv22.rf (by decide)) dX6_wireBlock_80 ?_
              refine go_iload (pc := 83) rfl dX6_wireBlock_83 ?_
              refine gi_iald (pc := 85) (lo := -1) (hi := 127) (len := 128) hv22 (ti_rfl l6) rfl (by omega) (by omega) (fun _ => rfl) dX6_wireBlock_85 (fun v27 v27l v27u v27w => ?_)
              have k28 := bd_e k26 (congrArg Int32.toInt v27w.symm)
              refine go_istore (pc := 86) (Nat.le_of_ble_eq_true rfl) dX6_wireBlock_86 (go_lv (lv2 := [(0, .ref 48), (3, .int l3), (4, .int l4), (5, .int v25), (6, .int v27), (7, .int l7)]) rfl ?_)
              refine gf_iinc (pc := 88) (Nat.le_of_ble_eq_true rfl) rfl (ti_rfl l7) (ti_c (by decide)) (by omega) (by omega) dX6_wireBlock_88 (fun v29 e30 => ?_)
              refine go_lv (lv2 := [(0, .ref 48), (3, .int l3), (4, .int l4), (5, .int v25), (6, .int v27), (7, .int v29)]) rfl ?_
              refine go_goto (pc := 91) (tgt := 20) (by decide) dX6_wireBlock_91 ?_
              have z31 : (v29 : Int32).toInt = (l7.toInt + 1) := e30
              exact go_lv rfl (ih l3 l4 v25 v27 v29 h22 hv22 (by omega) (by omega) (by omega) (by omega) (by omega) (by omega) (by omega) (by omega) (by omega) (by omega) fx22 (by rw [show (v29 : Int32).toInt = (l7.toInt + 1) from e30]; exact k28) (by omega))
  refine go_iload_n (pc := 0) rfl dX6_wireBlock_0 ?_
  refine go_istore (pc := 1) (Nat.le_of_ble_eq_true rfl) dX6_wireBlock_1 (go_lv (lv2 := [(0, .ref 48), (1, .int a2), (2, .int a3), (3, .int a4), (4, .int a5), (5, .int a3)]) rfl ?_)
  refine go_iload (pc := 3) rfl dX6_wireBlock_3 ?_
  refine go_bipush (pc := 5) (v := 6) (by decide) dX6_wireBlock_5 ?_
  refine gf_icmp_le (pc := 7) (tgt := 14) (ti_rfl a5) (ti_c (v := 6) (a := 6) (by decide)) (by decide) dX6_wireBlock_7 (fun q32 => ?_) (fun q32 => False.elim (by omega))
  refine go_iload_n (pc := 14) rfl dX6_wireBlock_14 ?_
  refine go_istore (pc := 15) (Nat.le_of_ble_eq_true rfl) dX6_wireBlock_15 (go_lv (lv2 := [(0, .ref 48), (1, .int a2), (2, .int a3), (3, .int a4), (4, .int a5), (5, .int a3), (6, .int a2)]) rfl ?_)
  refine go_iconst (pc := 17) (v := 0) (by decide) dX6_wireBlock_17 ?_
  refine go_istore (pc := 18) (Nat.le_of_ble_eq_true rfl) dX6_wireBlock_18 (go_lv (lv2 := [(0, .ref 48), (1, .int a2), (2, .int a3), (3, .int a4), (4, .int a5), (5, .int a3), (6, .int a2), (7, .int 0)]) rfl ?_)
  have z33 : (0 : Int32).toInt = 0 := (ti_c (v := 0) (a := 0) (by decide))
  exact go_lv rfl ((key 403) a4 a5 a3 a2 0 h hv (by omega) (by omega) (by omega) (by omega) (by omega) (by omega) (by omega) (by omega) (by omega) (by omega) fx (by rw [show (0 : Int32).toInt = 0 from (ti_c (v := 0) (a := 0) (by decide))]; exact k0) (by omega))
def f_X6_wireTry_lv1 (s : ST) (a2 : Int) (a3 : Int) (a4 : Int) (a5 : Int) : ST × Int :=
  bd (s.1 40 (a2).toNat) fun v1 => bd2 (f_X6_wireBlock_lv2 s v1 a3 a4 ((a5 + 1))) fun s5 v8 => bd (sI s5 42 (a2).toNat v8) fun s10 => if ¬ v8 = a3 then (bd (sI s10 43 (a2).toNat v8) fun s14 => bd (s14.1 39 (a2).toNat) fun v16 => bd2 (f_X6_wireBlock_lv2 s14 v16 a3 a2 ((a5 + 1))) fun s20 v23 => (s20, v23)) else (bd (sI s10 43 (a2).toNat (-2)) fun s26 => bd (s26.1 39 (a2).toNat) fun v28 => bd2 (f_X6_wireBlock_lv2 s26 v28 a3 a2 ((a5 + 1))) fun s32 v35 => (s32, v35))
set_option maxHeartbeats 4000000 in
set_option maxRecDepth 100000 in
theorem s_X6_wireTry_lv1_f (l : Launch) (d : Nat) {P : PP} {h : HP} (hv : Iv P h) (a2 : Int32) (a2l : 0 ≤ a2.toInt) (a2u : a2.toInt ≤ 127) (a3 : Int32) (a3l : 0 ≤ a3.toInt) (a3u : a3.toInt ≤ 44) (a4 : Int32) (a4l : -1 ≤ a4.toInt) (a4u : a4.toInt ≤ 127) (a5 : Int32) (a5l : 1 ≤ a5.toInt) (a5u : a5.toInt ≤ 1) : Mt l yX6_wireTry cX6_wireTry 6 (some .int) (d + 12) [.ref 48, .int a2, .int a3, .int a4, .int a5] h 0 0 (fun r h' => ∃ v : Int32, r = some (.int v) ∧ 0 ≤ v.toInt ∧ v.toInt ≤ 44 ∧ Iv P h' ∧ ((st h', v.toInt) = f_X6_wireTry_lv1 (st h) a2.toInt a3.toInt a4.toInt a5.toInt) ∧ (FX KC0 h h')) := by
  refine Mt_iv hv (by decide) (Nat.le_of_ble_eq_true rfl) ?_
  show Go l RX6 cX6_wireTry 6 (g_rm (d + 12) 0 0) "wireTry" (some .int) 117 0 0 (fun _ _ => True) (fun r h' => ∃ v : Int32, r = some (.int v) ∧ 0 ≤ v.toInt ∧ v.toInt ≤ 44 ∧ Iv P h' ∧ ((st h', v.toInt) = f_X6_wireTry_lv1 (st h) a2.toInt a3.toInt a4.toInt a5.toInt) ∧ (FX KC0 h h')) 0 0 [(0, .ref 48), (1, .int a2), (2, .int a3), (3, .int a4), (4, .int a5)] [] h
  have fx : FX KC0 h h := FX.rfl
  obtain ⟨fin, kf⟩ : ∃ z, z = f_X6_wireTry_lv1 (st h) a2.toInt a3.toInt a4.toInt a5.toInt := ⟨_, _root_.rfl⟩
  have k0 := kf
  unfold f_X6_wireTry_lv1 at k0
  refine go_aload_n (pc := 0) rfl dX6_wireTry_0 ?_
  refine go_aload_n (pc := 1) rfl dX6_wireTry_1 ?_
  refine gi_getF (pc := 2) (q := 36) hv fL_X6_9 rfl (Nat.le_of_ble_eq_true rfl) rfl (hv.rf (by decide)) dX6_wireTry_2 ?_
  refine gi_getF (pc := 5) (q := 40) hv fL_X6_50 rfl (Nat.le_of_ble_eq_true rfl) rfl (hv.rf (by decide)) dX6_wireTry_5 ?_
  refine go_iload_n (pc := 8) rfl dX6_wireTry_8 ?_
  refine gi_iald (pc := 9) (lo := -1) (hi := 127) (len := 128) hv (ti_rfl a2) rfl (by omega) (by omega) (fun _ => rfl) dX6_wireTry_9 (fun v1 v1l v1u v1w => ?_)
  have k2 := bd_e k0 (congrArg Int32.toInt v1w.symm)
  refine go_iload_n (pc := 10) rfl dX6_wireTry_10 ?_
  refine go_iload_n (pc := 11) rfl dX6_wireTry_11 ?_
  refine go_iload (pc := 12) rfl dX6_wireTry_12 ?_
  refine go_iconst (pc := 14) (v := 1) (by decide) dX6_wireTry_14 ?_
  refine gf_iadd (pc := 15) (ti_rfl a5) (ti_c (v := 1) (a := 1) (by decide)) (by omega) (by omega) dX6_wireTry_15 (fun v3 e4 => ?_)
  refine go_invV (pc := 16) (sl := 0) (s_X6_wireBlock_lv2_f l (d + 0) hv v1 (by rw [show (v1 : Int32).toInt = v1.toInt from (ti_rfl v1)]; omega) (by rw [show (v1 : Int32).toInt = v1.toInt from (ti_rfl v1)]; omega) a3 (by rw [show (a3 : Int32).toInt = a3.toInt from (ti_rfl a3)]; omega) (by rw [show (a3 : Int32).toInt = a3.toInt from (ti_rfl a3)]; omega) a4 (by rw [show (a4 : Int32).toInt = a4.toInt from (ti_rfl a4)]; omega) (by rw [show (a4 : Int32).toInt = a4.toInt from (ti_rfl a4)]; omega) v3 (by rw [show (v3 : Int32).toInt = (a5.toInt + 1) from e4]; omega) (by rw [show (v3 : Int32).toInt = (a5.toInt + 1) from e4]; omega)) mL_X6_34 iM_X6_wireBlock sM_X6_wireBlock (hv.sh rfl) rfl rfl rfl (Nat.le_of_ble_eq_true rfl) (show d + 0 + 11 + 1 ≤ d + 12 by omega) (show 8 + (8 + 11) + 40 * (d + 0 + 11) ≤ 40 * (d + 12) by omega) (g_c0 hv.ln) (Nat.le_of_ble_eq_true rfl) dX6_wireTry_16 ?_
  intro r h5 hq _
  obtain ⟨v8, rfl, v8l, v8u, hv5, f6, f7⟩ := hq
  try rw [show (v3 : Int32).toInt = (a5.toInt + 1) from e4] at f6
  try rw [show (v3 : Int32).toInt = (a5.toInt + 1) from e4] at f7
  have fx5 : FX KC0 h h5 := FX.tr fx f7
  have k9 := bd2_e k2 f6
  refine go_istore (pc := 19) (Nat.le_of_ble_eq_true rfl) dX6_wireTry_19 (go_lv (lv2 := [(0, .ref 48), (1, .int a2), (2, .int a3), (3, .int a4), (4, .int a5), (5, .int v8)]) rfl ?_)
  refine go_aload_n (pc := 21) rfl dX6_wireTry_21 ?_
  refine gi_getF (pc := 22) (q := 36) hv5 fL_X6_9 rfl (Nat.le_of_ble_eq_true rfl) rfl (hv5.rf (by decide)) dX6_wireTry_22 ?_
  refine gi_getF (pc := 25) (q := 42) hv5 fL_X6_53 rfl (Nat.le_of_ble_eq_true rfl) rfl (hv5.rf (by decide)) dX6_wireTry_25 ?_
  refine go_iload_n (pc := 28) rfl dX6_wireTry_28 ?_
  refine go_iload (pc := 29) rfl dX6_wireTry_29 ?_
  refine gi_iast (pc := 31) (lo := 0) (hi := 44) (len := 128) hv5 (ti_rfl a2) (ti_rfl v8) rfl (by omega) (by omega) (fun _ => rfl) (by omega) (by omega) (by decide) dX6_wireTry_31 (fun h10 hv10 hv10e => ?_)
  have fx10 : FX KC0 h h10 := FX.pI fx5 hv10e (by unfold KC0; omega)
  have k11 := bd_e k9 (st_I hv10e (ti_rfl v8))
  refine go_aload_n (pc := 32) rfl dX6_wireTry_32 ?_
  refine gi_getF (pc := 33) (q := 36) hv10 fL_X6_9 rfl (Nat.le_of_ble_eq_true rfl) rfl (hv10.rf (by decide)) dX6_wireTry_33 ?_
  refine gi_getF (pc := 36) (q := 43) hv10 fL_X6_56 rfl (Nat.le_of_ble_eq_true rfl) rfl (hv10.rf (by decide)) dX6_wireTry_36 ?_
  refine go_iload_n (pc := 39) rfl dX6_wireTry_39 ?_
  refine go_iload (pc := 40) rfl dX6_wireTry_40 ?_
  refine go_iload_n (pc := 42) rfl dX6_wireTry_42 ?_
  refine gf_icmp_ne (pc := 43) (tgt := 51) (ti_rfl v8) (ti_rfl a3) (by decide) dX6_wireTry_43 (fun q12 => ?_) (fun q12 => ?_)
  ·
    have k13 := if_t k11 q12
    refine go_iload (pc := 51) rfl dX6_wireTry_51 ?_
    refine gi_iast (pc := 53) (lo := -2) (hi := 44) (len := 128) hv10 (ti_rfl a2) (ti_rfl v8) rfl (by omega) (by omega) (fun _ => rfl) (by omega) (by omega) (by decide) dX6_wireTry_53 (fun h14 hv14 hv14e => ?_)
    have fx14 : FX KC0 h h14 := FX.pI fx10 hv14e (by unfold KC0; omega)
    have k15 := bd_e k13 (st_I hv14e (ti_rfl v8))
    refine go_aload_n (pc := 54) rfl dX6_wireTry_54 ?_
    refine go_aload_n (pc := 55) rfl dX6_wireTry_55 ?_
    refine gi_getF (pc := 56) (q := 36) hv14 fL_X6_9 rfl (Nat.le_of_ble_eq_true rfl) rfl (hv14.rf (by decide)) dX6_wireTry_56 ?_
    refine gi_getF (pc := 59) (q := 39) hv14 fL_X6_59 rfl (Nat.le_of_ble_eq_true rfl) rfl (hv14.rf (by decide)) dX6_wireTry_59 ?_
    refine go_iload_n (pc := 62) rfl dX6_wireTry_62 ?_
    refine gi_iald (pc := 63) (lo := -1) (hi := 127) (len := 128) hv14 (ti_rfl a2) rfl (by omega) (by omega) (fun _ => rfl) dX6_wireTry_63 (fun v16 v16l v16u v16w => ?_)
    have k17 := bd_e k15 (congrArg Int32.toInt v16w.symm)
    refine go_iload_n (pc := 64) rfl dX6_wireTry_64 ?_
    refine go_iload_n (pc := 65) rfl dX6_wireTry_65 ?_
    refine go_iload (pc := 66) rfl dX6_wireTry_66 ?_
    refine go_iconst (pc := 68) (v := 1) (by decide) dX6_wireTry_68 ?_
    refine gf_iadd (pc := 69) (ti_rfl a5) (ti_c (v := 1) (a := 1) (by decide)) (by omega) (by omega) dX6_wireTry_69 (fun v18 e19 => ?_)
    refine go_invV (pc := 70) (sl := 0) (s_X6_wireBlock_lv2_f l (d + 0) hv14 v16 (by rw [show (v16 : Int32).toInt = v16.toInt from (ti_rfl v16)]; omega) (by rw [show (v16 : Int32).toInt = v16.toInt from (ti_rfl v16)]; omega) a3 (by rw [show (a3 : Int32).toInt = a3.toInt from (ti_rfl a3)]; omega) (by rw [show (a3 : Int32).toInt = a3.toInt from (ti_rfl a3)]; omega) a2 (by rw [show (a2 : Int32).toInt = a2.toInt from (ti_rfl a2)]; omega) (by rw [show (a2 : Int32).toInt = a2.toInt from (ti_rfl a2)]; omega) v18 (by rw [show (v18 : Int32).toInt = (a5.toInt + 1) from e19]; omega) (by rw [show (v18 : Int32).toInt = (a5.toInt + 1) from e19]; omega)) mL_X6_34 iM_X6_wireBlock sM_X6_wireBlock (hv14.sh rfl) rfl rfl rfl (Nat.le_of_ble_eq_true rfl) (show d + 0 + 11 + 1 ≤ d + 12 by omega) (show 8 + (8 + 11) + 40 * (d + 0 + 11) ≤ 40 * (d + 12) by omega) (g_c0 hv14.ln) (Nat.le_of_ble_eq_true rfl) dX6_wireTry_70 ?_
    intro r h20 hq _
    obtain ⟨v23, rfl, v23l, v23u, hv20, f21, f22⟩ := hq
    try rw [show (v18 : Int32).toInt = (a5.toInt + 1) from e19] at f21
    try rw [show (v18 : Int32).toInt = (a5.toInt + 1) from e19] at f22
    have fx20 : FX KC0 h h20 := FX.tr fx14 f22
    have k24 := bd2_e k17 f21
    exact gi_iret (pc := 73) (ti_rfl v23) ⟨_, rfl, (by rw [show (v23 : Int32).toInt = v23.toInt from (ti_rfl v23)]; omega), (by rw [show (v23 : Int32).toInt = v23.toInt from (ti_rfl v23)]; omega), hv20, (k24.symm.trans kf), fx20⟩ hv20 dX6_wireTry_73
  ·
    have k25 := if_f k11 (fun z => z q12)
    refine go_bipush (pc := 46) (v := (-2)) (by decide) dX6_wireTry_46 ?_
    refine go_goto (pc := 48) (tgt := 53) (by decide) dX6_wireTry_48 ?_
    refine gi_iast (pc := 53) (lo := -2) (hi := 44) (len := 128) hv10 (ti_rfl a2) (ti_c (v := (-2)) (a := (-2)) (by decide)) rfl (by omega) (by omega) (fun _ => rfl) (by omega) (by omega) (by decide) dX6_wireTry_53 (fun h26 hv26 hv26e => ?_)
    have fx26 : FX KC0 h h26 := FX.pI fx10 hv26e (by unfold KC0; omega)
    have k27 := bd_e k25 (st_I hv26e (ti_c (v := (-2)) (a := (-2)) (by decide)))
    refine go_aload_n (pc := 54) rfl dX6_wireTry_54 ?_
    refine go_aload_n (pc := 55) rfl dX6_wireTry_55 ?_
    refine gi_getF (pc := 56) (q := 36) hv26 fL_X6_9 rfl (Nat.le_of_ble_eq_true rfl) rfl (hv26.rf (by decide)) dX6_wireTry_56 ?_
    refine gi_getF (pc := 59) (q := 39) hv26 fL_X6_59 rfl (Nat.le_of_ble_eq_true rfl) rfl (hv26.rf (by decide)) dX6_wireTry_59 ?_
    refine go_iload_n (pc := 62) rfl dX6_wireTry_62 ?_
    refine gi_iald (pc := 63) (lo := -1) (hi := 127) (len := 128) hv26 (ti_rfl a2) rfl (by omega) (by omega) (fun _ => rfl) dX6_wireTry_63 (fun v28 v28l v28u v28w => ?_)
    have k29 := bd_e k27 (congrArg Int32.toInt v28w.symm)
    refine go_iload_n (pc := 64) rfl dX6_wireTry_64 ?_
    refine go_iload_n (pc := 65) rfl dX6_wireTry_65 ?_
    refine go_iload (pc := 66) rfl dX6_wireTry_66 ?_
    refine go_iconst (pc := 68) (v := 1) (by decide) dX6_wireTry_68 ?_
    refine gf_iadd (pc := 69) (ti_rfl a5) (ti_c (v := 1) (a := 1) (by decide)) (by omega) (by omega) dX6_wireTry_69 (fun v30 e31 => ?_)
    refine go_invV (pc := 70) (sl := 0) (s_X6_wireBlock_lv2_f l (d + 0) hv26 v28 (by rw [show (v28 : Int32).toInt = v28.toInt from (ti_rfl v28)]; omega) (by rw [show (v28 : Int32).toInt = v28.toInt from (ti_rfl v28)]; omega) a3 (by rw [show (a3 : Int32).toInt = a3.toInt from (ti_rfl a3)]; omega) (by rw [show (a3 : Int32).toInt = a3.toInt from (ti_rfl a3)]; omega) a2 (by rw [show (a2 : Int32).toInt = a2.toInt from (ti_rfl a2)]; omega) (by rw [show (a2 : Int32).toInt = a2.toInt from (ti_rfl a2)]; omega) v30 (by rw [show (v30 : Int32).toInt = (a5.toInt + 1) from e31]; omega) (by rw [show (v30 : Int32).toInt = (a5.toInt + 1) from e31]; omega)) mL_X6_34 iM_X6_wireBlock sM_X6_wireBlock (hv26.sh rfl) rfl rfl rfl (Nat.le_of_ble_eq_true rfl) (show d + 0 + 11 + 1 ≤ d + 12 by omega) (show 8 + (8 + 11) + 40 * (d + 0 + 11) ≤ 40 * (d + 12) by omega) (g_c0 hv26.ln) (Nat.le_of_ble_eq_true rfl) dX6_wireTry_70 ?_
    intro r h32 hq _
    obtain ⟨v35, rfl, v35l, v35u, hv32, f33, f34⟩ := hq
    try rw [show (v30 : Int32).toInt = (a5.toInt + 1) from e31] at f33
    try rw [show (v30 : Int32).toInt = (a5.toInt + 1) from e31] at f34
    have fx32 : FX KC0 h h32 := FX.tr fx26 f34
    have k36 := bd2_e k29 f33
    exact gi_iret (pc := 73) (ti_rfl v35) ⟨_, rfl, (by rw [show (v35 : Int32).toInt = v35.toInt from (ti_rfl v35)]; omega), (by rw [show (v35 : Int32).toInt = v35.toInt from (ti_rfl v35)]; omega), hv32, (k36.symm.trans kf), fx32⟩ hv32 dX6_wireTry_73
def f_X6_wireStatement_lv1 (s : ST) (a2 : Int) (a3 : Int) (a4 : Int) (a5 : Int) : ST × Int :=
  bd (s.1 37 (a2).toNat) fun v1 => bd (s.2.2 48 1) fun c3 => bd (s.1 (c3 + 3) (v1).toNat) fun v5 => bd (s.2.2 48 1) fun c9 => bd (sI s (c9 + 11) (v1).toNat a3) fun s11 => bd (s11.2.2 48 1) fun c13 => bd (sI s11 (c13 + 12) (v1).toNat a3) fun s15 => bd (s15.2.2 48 1) fun c17 => if 0 ≤ a4 then (bd (s15.1 42 (a4).toNat) fun v21 => bd (sI s15 (c17 + 13) (v1).toNat v21) fun s23 => bd (s23.2.2 48 1) fun c25 => bd (s23.1 41 (a4).toNat) fun v28 => bd (sI s23 (c25 + 14) (v1).toNat v28) fun s30 => bd (s30.2.2 48 1) fun c32 => bd (s30.1 43 (a4).toNat) fun v35 => bd (sI s30 (c32 + 15) (v1).toNat v35) fun s37 => bd (s37.2.2 48 1) fun c39 => bd (s37.1 (c39 + 2) (v1).toNat) fun v41 => if ¬ v41 = 5 then (bd (s37.2.2 48 1) fun c45 => bd (s37.1 (c45 + 2) (v1).toNat) fun v47 => if ¬ v47 = 3 then (bd (s37.2.2 48 1) fun c51 => bd (s37.1 (c51 + 2) (v1).toNat) fun v53 => if ¬ v53 = 2 then ((s37, v1)) else (bd (s37.2.2 48 1) fun c58 => bd (s37.1 39 (a2).toNat) fun v60 => bd2 (f_X6_wireBlock_lv2 s37 v60 a3 a4 ((a5 + 1))) fun s64 v67 => bd (sI s64 (c58 + 13) (v1).toNat v67) fun s69 => bd (s69.2.2 48 1) fun c71 => bd (s69.1 40 (a2).toNat) fun v73 => bd2 (f_X6_wireBlock_lv2 s69 v73 a3 a4 ((a5 + 1))) fun s77 v80 => bd (sI s77 (c71 + 12) (v1).toNat v80) fun s82 => (s82, v1))) else (bd (s37.2.2 48 1) fun c85 => bd (s37.1 39 (a2).toNat) fun v87 => bd2 (f_X6_wireBlock_lv2 s37 v87 v1 a4 ((a5 + 1))) fun s91 v94 => bd (sI s91 (c85 + 13) (v1).toNat v94) fun s96 => (s96, v1))) else (bd (s37.2.2 48 1) fun c99 => bd (sI s37 (c99 + 13) (v1).toNat ((40 + v5))) fun s101 => (s101, v1))) else (bd (sI s15 (c17 + 13) (v1).toNat ((40 + v5))) fun s104 => bd (s104.2.2 48 1) fun c106 => bd (sI s104 (c106 + 14) (v1).toNat (-1)) fun s109 => bd (s109.2.2 48 1) fun c111 => bd (sI s109 (c111 + 15) (v1).toNat (-2)) fun s114 => bd (s114.2.2 48 1) fun c116 => bd (s114.1 (c116 + 2) (v1).toNat) fun v118 => if ¬ v118 = 5 then (bd (s114.2.2 48 1) fun c122 => bd (s114.1 (c122 + 2) (v1).toNat) fun v124 => if ¬ v124 = 3 then (bd (s114.2.2 48 1) fun c128 => bd (s114.1 (c128 + 2) (v1).toNat) fun v130 => if ¬ v130 = 2 then ((s114, v1)) else (bd (s114.2.2 48 1) fun c135 => bd (s114.1 39 (a2).toNat) fun v137 => bd2 (f_X6_wireBlock_lv2 s114 v137 a3 a4 ((a5 + 1))) fun s141 v144 => bd (sI s141 (c135 + 13) (v1).toNat v144) fun s146 => bd (s146.2.2 48 1) fun c148 => bd (s146.1 40 (a2).toNat) fun v150 => bd2 (f_X6_wireBlock_lv2 s146 v150 a3 a4 ((a5 + 1))) fun s154 v157 => bd (sI s154 (c148 + 12) (v1).toNat v157) fun s159 => (s159, v1))) else (bd (s114.2.2 48 1) fun c162 => bd (s114.1 39 (a2).toNat) fun v164 => bd2 (f_X6_wireBlock_lv2 s114 v164 v1 a4 ((a5 + 1))) fun s168 v171 => bd (sI s168 (c162 + 13) (v1).toNat v171) fun s173 => (s173, v1))) else (bd (s114.2.2 48 1) fun c176 => bd (sI s114 (c176 + 13) (v1).toNat ((40 + v5))) fun s178 => (s178, v1)))
set_option maxHeartbeats 4000000 in
set_option maxRecDepth 100000 in
theorem s_X6_wireStatement_lv1_f (l : Launch) (d : Nat) {P : PP} {h : HP} (hv : Iv P h) (a2 : Int32) (a2l : 0 ≤ a2.toInt) (a2u : a2.toInt ≤ 127) (a3 : Int32) (a3l : 0 ≤ a3.toInt) (a3u : a3.toInt ≤ 44) (a4 : Int32) (a4l : -1 ≤ a4.toInt) (a4u : a4.toInt ≤ 127) (a5 : Int32) (a5l : 1 ≤ a5.toInt) (a5u : a5.toInt ≤ 1) (hp : 0 ≤ (h.2.1 37 a2.toInt.toNat).toInt) : Mt l yX6_wireStatement cX6_wireStatement 7 (some .int) (d + 12) [.ref 48, .int a2, .int a3, .int a4, .int a5] h 0 0 (fun r h' => ∃ v : Int32, r = some (.int v) ∧ 0 ≤ v.toInt ∧ v.toInt ≤ 44 ∧ Iv P h' ∧ ((st h', v.toInt) = f_X6_wireStatement_lv1 (st h) a2.toInt a3.toInt a4.toInt a5.toInt) ∧ (FX KC0 h h')) := by
  refine Mt_iv hv (by decide) (Nat.le_of_ble_eq_true rfl) ?_
  show Go l RX6 cX6_wireStatement 7 (g_rm (d + 12) 0 0) "wireStatement" (some .int) 117 0 0 (fun _ _ => True) (fun r h' => ∃ v : Int32, r = some (.int v) ∧ 0 ≤ v.toInt ∧ v.toInt ≤ 44 ∧ Iv P h' ∧ ((st h', v.toInt) = f_X6_wireStatement_lv1 (st h) a2.toInt a3.toInt a4.toInt a5.toInt) ∧ (FX KC0 h h')) 0 0 [(0, .ref 48), (1, .int a2), (2, .int a3), (3, .int a4), (4, .int a5)] [] h
  have fx : FX KC0 h h := FX.rfl
  obtain ⟨fin, kf⟩ : ∃ z, z = f_X6_wireStatement_lv1 (st h) a2.toInt a3.toInt a4.toInt a5.toInt := ⟨_, _root_.rfl⟩
  have k0 := kf
  unfold f_X6_wireStatement_lv1 at k0
  refine go_aload_n (pc := 0) rfl dX6_wireStatement_0 ?_
  refine gi_getF (pc := 1) (q := 36) hv fL_X6_9 rfl (Nat.le_of_ble_eq_true rfl) rfl (hv.rf (by decide)) dX6_wireStatement_1 ?_
  refine gi_getF (pc := 4) (q := 37) hv fL_X6_38 rfl (Nat.le_of_ble_eq_true rfl) rfl (hv.rf (by decide)) dX6_wireStatement_4 ?_
  refine go_iload_n (pc := 7) rfl dX6_wireStatement_7 ?_
  refine gi_iald (pc := 8) (lo := -1) (hi := 39) (len := 128) hv (ti_rfl a2) rfl (by omega) (by omega) (fun _ => rfl) dX6_wireStatement_8 (fun v1 v1l v1u v1w => ?_)
  have k2 := bd_e k0 (congrArg Int32.toInt v1w.symm)
  have kk : 0 ≤ v1.toInt := by rw [v1w]; exact hp
  refine go_istore (pc := 9) (Nat.le_of_ble_eq_true rfl) dX6_wireStatement_9 (go_lv (lv2 := [(0, .ref 48), (1, .int a2), (2, .int a3), (3, .int a4), (4, .int a5), (5, .int v1)]) rfl ?_)
  refine go_bipush (pc := 11) (v := 40) (by decide) dX6_wireStatement_11 ?_
  refine go_aload_n (pc := 13) rfl dX6_wireStatement_13 ?_
  refine gi_getC (pc := 14) hv fL_X6_15 rfl (Nat.le_of_ble_eq_true rfl) rfl (by decide) dX6_wireStatement_14 (fun c3 hc3 fc3 => ?_)
  have k4 := bd_e k2 (st_c fc3)
  refine gi_getF (pc := 17) (q := c3 + 3) hv fL_X6_62 (by rcases hc3 with rfl | rfl <;> rfl) (Nat.le_of_ble_eq_true rfl) rfl (by rcases hc3 with rfl | rfl <;> exact hv.rf (by decide)) dX6_wireStatement_17 ?_
  refine go_iload (pc := 20) rfl dX6_wireStatement_20 ?_
  refine gi_iald (pc := 22) (lo := -1) (hi := 4) (len := 40) hv (ti_rfl v1) (by rcases hc3 with rfl | rfl <;> rfl) (by omega) (by omega) (fun _ => by rcases hc3 with rfl | rfl <;> rfl) dX6_wireStatement_22 (fun v5 v5l v5u v5w => ?_)
  have k6 := bd_e k4 (congrArg Int32.toInt v5w.symm)
  refine gf_iadd (pc := 23) (ti_c (v := 40) (a := 40) (by decide)) (ti_rfl v5) (by omega) (by omega) dX6_wireStatement_23 (fun v7 e8 => ?_)
  refine go_istore (pc := 24) (Nat.le_of_ble_eq_true rfl) dX6_wireStatement_24 (go_lv (lv2 := [(0, .ref 48), (1, .int a2), (2, .int a3), (3, .int a4), (4, .int a5), (5, .int v1), (6, .int v7)]) rfl ?_)
  refine go_aload_n (pc := 26) rfl dX6_wireStatement_26 ?_
  refine gi_getC (pc := 27) hv fL_X6_15 rfl (Nat.le_of_ble_eq_true rfl) rfl (by decide) dX6_wireStatement_27 (fun c9 hc9 fc9 => ?_)
  have k10 := bd_e k6 (st_c fc9)
  refine gi_getF (pc := 30) (q := c9 + 11) hv fL_X6_65 (by rcases hc9 with rfl | rfl <;> rfl) (Nat.le_of_ble_eq_true rfl) rfl (by rcases hc9 with rfl | rfl <;> exact hv.rf (by decide)) dX6_wireStatement_30 ?_
  refine go_iload (pc := 33) rfl dX6_wireStatement_33 ?_
  refine go_iload_n (pc := 35) rfl dX6_wireStatement_35 ?_
  refine gi_iast (pc := 36) (lo := 0) (hi := 44) (len := 40) hv (ti_rfl v1) (ti_rfl a3) (by rcases hc9 with rfl | rfl <;> rfl) (by omega) (by omega) (fun _ => by rcases hc9 with rfl | rfl <;> rfl) (by omega) (by omega) (by rcases hc9 with rfl | rfl <;> decide) dX6_wireStatement_36 (fun h11 hv11 hv11e => ?_)
  have fx11 : FX KC0 h h11 := FX.pI fx hv11e (by unfold KC0; omega)
  have k12 := bd_e k10 (st_I hv11e (ti_rfl a3))
  refine go_aload_n (pc := 37) rfl dX6_wireStatement_37 ?_
  refine gi_getC (pc := 38) hv11 fL_X6_15 rfl (Nat.le_of_ble_eq_true rfl) rfl (by decide) dX6_wireStatement_38 (fun c13 hc13 fc13 => ?_)
  have k14 := bd_e k12 (st_c fc13)
  refine gi_getF (pc := 41) (q := c13 + 12) hv11 fL_X6_68 (by rcases hc13 with rfl | rfl <;> rfl) (Nat.le_of_ble_eq_true rfl) rfl (by rcases hc13 with rfl | rfl <;> exact hv11.rf (by decide)) dX6_wireStatement_41 ?_
  refine go_iload (pc := 44) rfl dX6_wireStatement_44 ?_
  refine go_iload_n (pc := 46) rfl dX6_wireStatement_46 ?_
  refine gi_iast (pc := 47) (lo := 0) (hi := 44) (len := 40) hv11 (ti_rfl v1) (ti_rfl a3) (by rcases hc13 with rfl | rfl <;> rfl) (by omega) (by omega) (fun _ => by rcases hc13 with rfl | rfl <;> rfl) (by omega) (by omega) (by rcases hc13 with rfl | rfl <;> decide) dX6_wireStatement_47 (fun h15 hv15 hv15e => ?_)
  have fx15 : FX KC0 h h15 := FX.pI fx11 hv15e (by unfold KC0; omega)
  have k16 := bd_e k14 (st_I hv15e (ti_rfl a3))
  refine go_aload_n (pc := 48) rfl dX6_wireStatement_48 ?_
  refine gi_getC (pc := 49) hv15 fL_X6_15 rfl (Nat.le_of_ble_eq_true rfl) rfl (by decide) dX6_wireStatement_49 (fun c17 hc17 fc17 => ?_)
  have k18 := bd_e k16 (st_c fc17)
  refine gi_getF (pc := 52) (q := c17 + 13) hv15 fL_X6_71 (by rcases hc17 with rfl | rfl <;> rfl) (Nat.le_of_ble_eq_true rfl) rfl (by rcases hc17 with rfl | rfl <;> exact hv15.rf (by decide)) dX6_wireStatement_52 ?_
  refine go_iload (pc := 55) rfl dX6_wireStatement_55 ?_
  refine go_iload_n (pc := 57) rfl dX6_wireStatement_57 ?_
  refine gf_if_ge (pc := 58) (tgt := 66) (ti_rfl a4) (by decide) dX6_wireStatement_58 (fun q19 => ?_) (fun q19 => ?_)
  ·
    have k20 := if_t k18 q19
    refine go_aload_n (pc := 66) rfl dX6_wireStatement_66 ?_
    refine gi_getF (pc := 67) (q := 36) hv15 fL_X6_9 rfl (Nat.le_of_ble_eq_true rfl) rfl (hv15.rf (by decide)) dX6_wireStatement_67 ?_
    refine gi_getF (pc := 70) (q := 42) hv15 fL_X6_53 rfl (Nat.le_of_ble_eq_true rfl) rfl (hv15.rf (by decide)) dX6_wireStatement_70 ?_
    refine go_iload_n (pc := 73) rfl dX6_wireStatement_73 ?_
    refine gi_iald (pc := 74) (lo := 0) (hi := 44) (len := 128) hv15 (ti_rfl a4) rfl (by omega) (by omega) (fun _ => rfl) dX6_wireStatement_74 (fun v21 v21l v21u v21w => ?_)
    have k22 := bd_e k20 (congrArg Int32.toInt v21w.symm)
    refine gi_iast (pc := 75) (lo := 0) (hi := 44) (len := 40) hv15 (ti_rfl v1) (ti_rfl v21) (by rcases hc17 with rfl | rfl <;> rfl) (by omega) (by omega) (fun _ => by rcases hc17 with rfl | rfl <;> rfl) (by omega) (by omega) (by rcases hc17 with rfl | rfl <;> decide) dX6_wireStatement_75 (fun h23 hv23 hv23e => ?_)
    have fx23 : FX KC0 h h23 := FX.pI fx15 hv23e (by unfold KC0; omega)
    have k24 := bd_e k22 (st_I hv23e (ti_rfl v21))
    refine go_aload_n (pc := 76) rfl dX6_wireStatement_76 ?_
    refine gi_getC (pc := 77) hv23 fL_X6_15 rfl (Nat.le_of_ble_eq_true rfl) rfl (by decide) dX6_wireStatement_77 (fun c25 hc25 fc25 => ?_)
    have k26 := bd_e k24 (st_c fc25)
    refine gi_getF (pc := 80) (q := c25 + 14) hv23 fL_X6_74 (by rcases hc25 with rfl | rfl <;> rfl) (Nat.le_of_ble_eq_true rfl) rfl (by rcases hc25 with rfl | rfl <;> exact hv23.rf (by decide)) dX6_wireStatement_80 ?_
    refine go_iload (pc := 83) rfl dX6_wireStatement_83 ?_
    refine go_iload_n (pc := 85) rfl dX6_wireStatement_85 ?_
    refine gf_if_ge (pc := 86) (tgt := 93) (ti_rfl a4) (by decide) dX6_wireStatement_86 (fun q27 => ?_) (fun q27 => False.elim (by omega))
    refine go_aload_n (pc := 93) rfl dX6_wireStatement_93 ?_
    refine gi_getF (pc := 94) (q := 36) hv23 fL_X6_9 rfl (Nat.le_of_ble_eq_true rfl) rfl (hv23.rf (by decide)) dX6_wireStatement_94 ?_
    refine gi_getF (pc := 97) (q := 41) hv23 fL_X6_77 rfl (Nat.le_of_ble_eq_true rfl) rfl (hv23.rf (by decide)) dX6_wireStatement_97 ?_
    refine go_iload_n (pc := 100) rfl dX6_wireStatement_100 ?_
    refine gi_iald (pc := 101) (lo := -1) (hi := 5) (len := 128) hv23 (ti_rfl a4) rfl (by omega) (by omega) (fun _ => rfl) dX6_wireStatement_101 (fun v28 v28l v28u v28w => ?_)
    have k29 := bd_e k26 (congrArg Int32.toInt v28w.symm)
    refine gi_iast (pc := 102) (lo := -1) (hi := 5) (len := 40) hv23 (ti_rfl v1) (ti_rfl v28) (by rcases hc25 with rfl | rfl <;> rfl) (by omega) (by omega) (fun _ => by rcases hc25 with rfl | rfl <;> rfl) (by omega) (by omega) (by rcases hc25 with rfl | rfl <;> decide) dX6_wireStatement_102 (fun h30 hv30 hv30e => ?_)
    have fx30 : FX KC0 h h30 := FX.pI fx23 hv30e (by unfold KC0; omega)
    have k31 := bd_e k29 (st_I hv30e (ti_rfl v28))
    refine go_aload_n (pc := 103) rfl dX6_wireStatement_103 ?_
    refine gi_getC (pc := 104) hv30 fL_X6_15 rfl (Nat.le_of_ble_eq_true rfl) rfl (by decide) dX6_wireStatement_104 (fun c32 hc32 fc32 => ?_)
    have k33 := bd_e k31 (st_c fc32)
    refine gi_getF (pc := 107) (q := c32 + 15) hv30 fL_X6_80 (by rcases hc32 with rfl | rfl <;> rfl) (Nat.le_of_ble_eq_true rfl) rfl (by rcases hc32 with rfl | rfl <;> exact hv30.rf (by decide)) dX6_wireStatement_107 ?_
    refine go_iload (pc := 110) rfl dX6_wireStatement_110 ?_
    refine go_iload_n (pc := 112) rfl dX6_wireStatement_112 ?_
    refine gf_if_ge (pc := 113) (tgt := 121) (ti_rfl a4) (by decide) dX6_wireStatement_113 (fun q34 => ?_) (fun q34 => False.elim (by omega))
    refine go_aload_n (pc := 121) rfl dX6_wireStatement_121 ?_
    refine gi_getF (pc := 122) (q := 36) hv30 fL_X6_9 rfl (Nat.le_of_ble_eq_true rfl) rfl (hv30.rf (by decide)) dX6_wireStatement_122 ?_
    refine gi_getF (pc := 125) (q := 43) hv30 fL_X6_56 rfl (Nat.le_of_ble_eq_true rfl) rfl (hv30.rf (by decide)) dX6_wireStatement_125 ?_
    refine go_iload_n (pc := 128) rfl dX6_wireStatement_128 ?_
    refine gi_iald (pc := 129) (lo := -2) (hi := 44) (len := 128) hv30 (ti_rfl a4) rfl (by omega) (by omega) (fun _ => rfl) dX6_wireStatement_129 (fun v35 v35l v35u v35w => ?_)
    have k36 := bd_e k33 (congrArg Int32.toInt v35w.symm)
    refine gi_iast (pc := 130) (lo := -2) (hi := 44) (len := 40) hv30 (ti_rfl v1) (ti_rfl v35) (by rcases hc32 with rfl | rfl <;> rfl) (by omega) (by omega) (fun _ => by rcases hc32 with rfl | rfl <;> rfl) (by omega) (by omega) (by rcases hc32 with rfl | rfl <;> decide) dX6_wireStatement_130 (fun h37 hv37 hv37e => ?_)
    have fx37 : FX KC0 h h37 := FX.pI fx30 hv37e (by unfold KC0; omega)
    have k38 := bd_e k36 (st_I hv37e (ti_rfl v35))
    refine go_aload_n (pc := 131) rfl dX6_wireStatement_131 ?_
    refine gi_getC (pc := 132) hv37 fL_X6_15 rfl (Nat.le_of_ble_eq_true rfl) rfl (by decide) dX6_wireStatement_132 (fun c39 hc39 fc39 => ?_)
    have k40 := bd_e k38 (st_c fc39)
    refine gi_getF (pc := 135) (q := c39 + 2) hv37 fL_X6_81 (by rcases hc39 with rfl | rfl <;> rfl) (Nat.le_of_ble_eq_true rfl) rfl (by rcases hc39 with rfl | rfl <;> exact hv37.rf (by decide)) dX6_wireStatement_135 ?_
    refine go_iload (pc := 138) rfl dX6_wireStatement_138 ?_
    refine gi_iald (pc := 140) (lo := 0) (hi := 5) (len := 40) hv37 (ti_rfl v1) (by rcases hc39 with rfl | rfl <;> rfl) (by omega) (by omega) (fun _ => by rcases hc39 with rfl | rfl <;> rfl) dX6_wireStatement_140 (fun v41 v41l v41u v41w => ?_)
    have k42 := bd_e k40 (congrArg Int32.toInt v41w.symm)
    refine go_iconst (pc := 141) (v := 5) (by decide) dX6_wireStatement_141 ?_
    refine gf_icmp_ne (pc := 142) (tgt := 160) (ti_rfl v41) (ti_c (v := 5) (a := 5) (by decide)) (by decide) dX6_wireStatement_142 (fun q43 => ?_) (fun q43 => ?_)
    ·
      have k44 := if_t k42 q43
      refine go_aload_n (pc := 160) rfl dX6_wireStatement_160 ?_
      refine gi_getC (pc := 161) hv37 fL_X6_15 rfl (Nat.le_of_ble_eq_true rfl) rfl (by decide) dX6_wireStatement_161 (fun c45 hc45 fc45 => ?_)
      have k46 := bd_e k44 (st_c fc45)
      refine gi_getF (pc := 164) (q := c45 + 2) hv37 fL_X6_81 (by rcases hc45 with rfl | rfl <;> rfl) (Nat.le_of_ble_eq_true rfl) rfl (by rcases hc45 with rfl | rfl <;> exact hv37.rf (by decide)) dX6_wireStatement_164 ?_
      refine go_iload (pc := 167) rfl dX6_wireStatement_167 ?_
      refine gi_iald (pc := 169) (lo := 0) (hi := 5) (len := 40) hv37 (ti_rfl v1) (by rcases hc45 with rfl | rfl <;> rfl) (by omega) (by omega) (fun _ => by rcases hc45 with rfl | rfl <;> rfl) dX6_wireStatement_169 (fun v47 v47l v47u v47w => ?_)
      have k48 := bd_e k46 (congrArg Int32.toInt v47w.symm)
      refine go_iconst (pc := 170) (v := 3) (by decide) dX6_wireStatement_170 ?_
      refine gf_icmp_ne (pc := 171) (tgt := 207) (ti_rfl v47) (ti_c (v := 3) (a := 3) (by decide)) (by decide) dX6_wireStatement_171 (fun q49 => ?_) (fun q49 => ?_)
      ·
        have k50 := if_t k48 q49
        refine go_aload_n (pc := 207) rfl dX6_wireStatement_207 ?_
        refine gi_getC (pc := 208) hv37 fL_X6_15 rfl (Nat.le_of_ble_eq_true rfl) rfl (by decide) dX6_wireStatement_208 (fun c51 hc51 fc51 => ?_)
        have k52 := bd_e k50 (st_c fc51)
        refine gi_getF (pc := 211) (q := c51 + 2) hv37 fL_X6_81 (by rcases hc51 with rfl | rfl <;> rfl) (Nat.le_of_ble_eq_true rfl) rfl (by rcases hc51 with rfl | rfl <;> exact hv37.rf (by decide)) dX6_wireStatement_211 ?_
        refine go_iload (pc := 214) rfl dX6_wireStatement_214 ?_
        refine gi_iald (pc := 216) (lo := 0) (hi := 5) (len := 40) hv37 (ti_rfl v1) (by rcases hc51 with rfl | rfl <;> rfl) (by omega) (by omega) (fun _ => by rcases hc51 with rfl | rfl <;> rfl) dX6_wireStatement_216 (fun v53 v53l v53u v53w => ?_)
        have k54 := bd_e k52 (congrArg Int32.toInt v53w.symm)
        refine go_iconst (pc := 217) (v := 2) (by decide) dX6_wireStatement_217 ?_
        refine gf_icmp_ne (pc := 218) (tgt := 279) (ti_rfl v53) (ti_c (v := 2) (a := 2) (by decide)) (by decide) dX6_wireStatement_218 (fun q55 => ?_) (fun q55 => ?_)
        ·
          have k56 := if_t k54 q55
          refine go_iload (pc := 279) rfl dX6_wireStatement_279 ?_
          exact gi_iret (pc := 281) (ti_rfl v1) ⟨_, rfl, (by rw [show (v1 : Int32).toInt = v1.toInt from (ti_rfl v1)]; omega), (by rw [show (v1 : Int32).toInt = v1.toInt from (ti_rfl v1)]; omega), hv37, (k56.symm.trans kf), fx37⟩ hv37 dX6_wireStatement_281
        ·
          have k57 := if_f k54 (fun z => z q55)
          refine go_aload_n (pc := 221) rfl dX6_wireStatement_221 ?_
          refine gi_getC (pc := 222) hv37 fL_X6_15 rfl (Nat.le_of_ble_eq_true rfl) rfl (by decide) dX6_wireStatement_222 (fun c58 hc58 fc58 => ?_)
          have k59 := bd_e k57 (st_c fc58)
          refine gi_getF (pc := 225) (q := c58 + 13) hv37 fL_X6_71 (by rcases hc58 with rfl | rfl <;> rfl) (Nat.le_of_ble_eq_true rfl) rfl (by rcases hc58 with rfl | rfl <;> exact hv37.rf (by decide)) dX6_wireStatement_225 ?_
          refine go_iload (pc := 228) rfl dX6_wireStatement_228 ?_
          refine go_aload_n (pc := 230) rfl dX6_wireStatement_230 ?_
          refine go_aload_n (pc := 231) rfl dX6_wireStatement_231 ?_
          refine gi_getF (pc := 232) (q := 36) hv37 fL_X6_9 rfl (Nat.le_of_ble_eq_true rfl) rfl (hv37.rf (by decide)) dX6_wireStatement_232 ?_
          refine gi_getF (pc := 235) (q := 39) hv37 fL_X6_59 rfl (Nat.le_of_ble_eq_true rfl) rfl (hv37.rf (by decide)) dX6_wireStatement_235 ?_
          refine go_iload_n (pc := 238) rfl dX6_wireStatement_238 ?_
          refine gi_iald (pc := 239) (lo := -1) (hi := 127) (len := 128) hv37 (ti_rfl a2) rfl (by omega) (by omega) (fun _ => rfl) dX6_wireStatement_239 (fun v60 v60l v60u v60w => ?_)
          have k61 := bd_e k59 (congrArg Int32.toInt v60w.symm)
          refine go_iload_n (pc := 240) rfl dX6_wireStatement_240 ?_
          refine go_iload_n (pc := 241) rfl dX6_wireStatement_241 ?_
          refine go_iload (pc := 242) rfl dX6_wireStatement_242 ?_
          refine go_iconst (pc := 244) (v := 1) (by decide) dX6_wireStatement_244 ?_
          refine gf_iadd (pc := 245) (ti_rfl a5) (ti_c (v := 1) (a := 1) (by decide)) (by omega) (by omega) dX6_wireStatement_245 (fun v62 e63 => ?_)
          refine go_invV (pc := 246) (sl := 0) (s_X6_wireBlock_lv2_f l (d + 0) hv37 v60 (by rw [show (v60 : Int32).toInt = v60.toInt from (ti_rfl v60)]; omega) (by rw [show (v60 : Int32).toInt = v60.toInt from (ti_rfl v60)]; omega) a3 (by rw [show (a3 : Int32).toInt = a3.toInt from (ti_rfl a3)]; omega) (by rw [show (a3 : Int32).toInt = a3.toInt from (ti_rfl a3)]; omega) a4 (by rw [show (a4 : Int32).toInt = a4.toInt from (ti_rfl a4)]; omega) (by rw [show (a4 : Int32).toInt = a4.toInt from (ti_rfl a4)]; omega) v62 (by rw [show (v62 : Int32).toInt = (a5.toInt + 1) from e63]; omega) (by rw [show (v62 : Int32).toInt = (a5.toInt + 1) from e63]; omega)) mL_X6_34 iM_X6_wireBlock sM_X6_wireBlock (hv37.sh rfl) rfl rfl rfl (Nat.le_of_ble_eq_true rfl) (show d + 0 + 11 + 1 ≤ d + 12 by omega) (show 8 + (8 + 11) + 40 * (d + 0 + 11) ≤ 40 * (d + 12) by omega) (g_c0 hv37.ln) (Nat.le_of_ble_eq_true rfl) dX6_wireStatement_246 ?_
          intro r h64 hq _
          obtain ⟨v67, rfl, v67l, v67u, hv64, f65, f66⟩ := hq
          try rw [show (v62 : Int32).toInt = (a5.toInt + 1) from e63] at f65
          try rw [show (v62 : Int32).toInt = (a5.toInt + 1) from e63] at f66
          have fx64 : FX KC0 h h64 := FX.tr fx37 f66
          have k68 := bd2_e k61 f65
          refine gi_iast (pc := 249) (lo := 0) (hi := 44) (len := 40) hv64 (ti_rfl v1) (ti_rfl v67) (by rcases hc58 with rfl | rfl <;> rfl) (by omega) (by omega) (fun _ => by rcases hc58 with rfl | rfl <;> rfl) (by omega) (by omega) (by rcases hc58 with rfl | rfl <;> decide) dX6_wireStatement_249 (fun h69 hv69 hv69e => ?_)
          have fx69 : FX KC0 h h69 := FX.pI fx64 hv69e (by unfold KC0; omega)
          have k70 := bd_e k68 (st_I hv69e (ti_rfl v67))
          refine go_aload_n (pc := 250) rfl dX6_wireStatement_250 ?_
          refine gi_getC (pc := 251) hv69 fL_X6_15 rfl (Nat.le_of_ble_eq_true rfl) rfl (by decide) dX6_wireStatement_251 (fun c71 hc71 fc71 => ?_)
          have k72 := bd_e k70 (st_c fc71)
          refine gi_getF (pc := 254) (q := c71 + 12) hv69 fL_X6_68 (by rcases hc71 with rfl | rfl <;> rfl) (Nat.le_of_ble_eq_true rfl) rfl (by rcases hc71 with rfl | rfl <;> exact hv69.rf (by decide)) dX6_wireStatement_254 ?_
          refine go_iload (pc := 257) rfl dX6_wireStatement_257 ?_
          refine go_aload_n (pc := 259) rfl dX6_wireStatement_259 ?_
          refine go_aload_n (pc := 260) rfl dX6_wireStatement_260 ?_
          refine gi_getF (pc := 261) (q := 36) hv69 fL_X6_9 rfl (Nat.le_of_ble_eq_true rfl) rfl (hv69.rf (by decide)) dX6_wireStatement_261 ?_
          refine gi_getF (pc := 264) (q := 40) hv69 fL_X6_50 rfl (Nat.le_of_ble_eq_true rfl) rfl (hv69.rf (by decide)) dX6_wireStatement_264 ?_
          refine go_iload_n (pc := 267) rfl dX6_wireStatement_267 ?_
          refine gi_iald (pc := 268) (lo := -1) (hi := 127) (len := 128) hv69 (ti_rfl a2) rfl (by omega) (by omega) (fun _ => rfl) dX6_wireStatement_268 (fun v73 v73l v73u v73w => ?_)
          have k74 := bd_e k72 (congrArg Int32.toInt v73w.symm)
          refine go_iload_n (pc := 269) rfl dX6_wireStatement_269 ?_
          refine go_iload_n (pc := 270) rfl dX6_wireStatement_270 ?_
          refine go_iload (pc := 271) rfl dX6_wireStatement_271 ?_
          refine go_iconst (pc := 273) (v := 1) (by decide) dX6_wireStatement_273 ?_
          refine gf_iadd (pc := 274) (ti_rfl a5) (ti_c (v := 1) (a := 1) (by decide)) (by omega) (by omega) dX6_wireStatement_274 (fun v75 e76 => ?_)
          refine go_invV (pc := 275) (sl := 0) (s_X6_wireBlock_lv2_f l (d + 0) hv69 v73 (by rw [show (v73 : Int32).toInt = v73.toInt from (ti_rfl v73)]; omega) (by rw [show (v73 : Int32).toInt = v73.toInt from (ti_rfl v73)]; omega) a3 (by rw [show (a3 : Int32).toInt = a3.toInt from (ti_rfl a3)]; omega) (by rw [show (a3 : Int32).toInt = a3.toInt from (ti_rfl a3)]; omega) a4 (by rw [show (a4 : Int32).toInt = a4.toInt from (ti_rfl a4)]; omega) (by rw [show (a4 : Int32).toInt = a4.toInt from (ti_rfl a4)]; omega) v75 (by rw [show (v75 : Int32).toInt = (a5.toInt + 1) from e76]; omega) (by rw [show (v75 : Int32).toInt = (a5.toInt + 1) from e76]; omega)) mL_X6_34 iM_X6_wireBlock sM_X6_wireBlock (hv69.sh rfl) rfl rfl rfl (Nat.le_of_ble_eq_true rfl) (show d + 0 + 11 + 1 ≤ d + 12 by omega) (show 8 + (8 + 11) + 40 * (d + 0 + 11) ≤ 40 * (d + 12) by omega) (g_c0 hv69.ln) (Nat.le_of_ble_eq_true rfl) dX6_wireStatement_275 ?_
          intro r h77 hq _
          obtain ⟨v80, rfl, v80l, v80u, hv77, f78, f79⟩ := hq
          try rw [show (v75 : Int32).toInt = (a5.toInt + 1) from e76] at f78
          try rw [show (v75 : Int32).toInt = (a5.toInt + 1) from e76] at f79
          have fx77 : FX KC0 h h77 := FX.tr fx69 f79
          have k81 := bd2_e k74 f78
          refine gi_iast (pc := 278) (lo := 0) (hi := 44) (len := 40) hv77 (ti_rfl v1) (ti_rfl v80) (by rcases hc71 with rfl | rfl <;> rfl) (by omega) (by omega) (fun _ => by rcases hc71 with rfl | rfl <;> rfl) (by omega) (by omega) (by rcases hc71 with rfl | rfl <;> decide) dX6_wireStatement_278 (fun h82 hv82 hv82e => ?_)
          have fx82 : FX KC0 h h82 := FX.pI fx77 hv82e (by unfold KC0; omega)
          have k83 := bd_e k81 (st_I hv82e (ti_rfl v80))
          refine go_iload (pc := 279) rfl dX6_wireStatement_279 ?_
          exact gi_iret (pc := 281) (ti_rfl v1) ⟨_, rfl, (by rw [show (v1 : Int32).toInt = v1.toInt from (ti_rfl v1)]; omega), (by rw [show (v1 : Int32).toInt = v1.toInt from (ti_rfl v1)]; omega), hv82, (k83.symm.trans kf), fx82⟩ hv82 dX6_wireStatement_281
      ·
        have k84 := if_f k48 (fun z => z q49)
        refine go_aload_n (pc := 174) rfl dX6_wireStatement_174 ?_
        refine gi_getC (pc := 175) hv37 fL_X6_15 rfl (Nat.le_of_ble_eq_true rfl) rfl (by decide) dX6_wireStatement_175 (fun c85 hc85 fc85 => ?_)
        have k86 := bd_e k84 (st_c fc85)
        refine gi_getF (pc := 178) (q := c85 + 13) hv37 fL_X6_71 (by rcases hc85 with rfl | rfl <;> rfl) (Nat.le_of_ble_eq_true rfl) rfl (by rcases hc85 with rfl | rfl <;> exact hv37.rf (by decide)) dX6_wireStatement_178 ?_
        refine go_iload (pc := 181) rfl dX6_wireStatement_181 ?_
        refine go_aload_n (pc := 183) rfl dX6_wireStatement_183 ?_
        refine go_aload_n (pc := 184) rfl dX6_wireStatement_184 ?_
        refine gi_getF (pc := 185) (q := 36) hv37 fL_X6_9 rfl (Nat.le_of_ble_eq_true rfl) rfl (hv37.rf (by decide)) dX6_wireStatement_185 ?_
        refine gi_getF (pc := 188) (q := 39) hv37 fL_X6_59 rfl (Nat.le_of_ble_eq_true rfl) rfl (hv37.rf (by decide)) dX6_wireStatement_188 ?_
        refine go_iload_n (pc := 191) rfl dX6_wireStatement_191 ?_
        refine gi_iald (pc := 192) (lo := -1) (hi := 127) (len := 128) hv37 (ti_rfl a2) rfl (by omega) (by omega) (fun _ => rfl) dX6_wireStatement_192 (fun v87 v87l v87u v87w => ?_)
        have k88 := bd_e k86 (congrArg Int32.toInt v87w.symm)
        refine go_iload (pc := 193) rfl dX6_wireStatement_193 ?_
        refine go_iload_n (pc := 195) rfl dX6_wireStatement_195 ?_
        refine go_iload (pc := 196) rfl dX6_wireStatement_196 ?_
        refine go_iconst (pc := 198) (v := 1) (by decide) dX6_wireStatement_198 ?_
        refine gf_iadd (pc := 199) (ti_rfl a5) (ti_c (v := 1) (a := 1) (by decide)) (by omega) (by omega) dX6_wireStatement_199 (fun v89 e90 => ?_)
        refine go_invV (pc := 200) (sl := 0) (s_X6_wireBlock_lv2_f l (d + 0) hv37 v87 (by rw [show (v87 : Int32).toInt = v87.toInt from (ti_rfl v87)]; omega) (by rw [show (v87 : Int32).toInt = v87.toInt from (ti_rfl v87)]; omega) v1 (by rw [show (v1 : Int32).toInt = v1.toInt from (ti_rfl v1)]; omega) (by rw [show (v1 : Int32).toInt = v1.toInt from (ti_rfl v1)]; omega) a4 (by rw [show (a4 : Int32).toInt = a4.toInt from (ti_rfl a4)]; omega) (by rw [show (a4 : Int32).toInt = a4.toInt from (ti_rfl a4)]; omega) v89 (by rw [show (v89 : Int32).toInt = (a5.toInt + 1) from e90]; omega) (by rw [show (v89 : Int32).toInt = (a5.toInt + 1) from e90]; omega)) mL_X6_34 iM_X6_wireBlock sM_X6_wireBlock (hv37.sh rfl) rfl rfl rfl (Nat.le_of_ble_eq_true rfl) (show d + 0 + 11 + 1 ≤ d + 12 by omega) (show 8 + (8 + 11) + 40 * (d + 0 + 11) ≤ 40 * (d + 12) by omega) (g_c0 hv37.ln) (Nat.le_of_ble_eq_true rfl) dX6_wireStatement_200 ?_
        intro r h91 hq _
        obtain ⟨v94, rfl, v94l, v94u, hv91, f92, f93⟩ := hq
        try rw [show (v89 : Int32).toInt = (a5.toInt + 1) from e90] at f92
        try rw [show (v89 : Int32).toInt = (a5.toInt + 1) from e90] at f93
        have fx91 : FX KC0 h h91 := FX.tr fx37 f93
        have k95 := bd2_e k88 f92
        refine gi_iast (pc := 203) (lo := 0) (hi := 44) (len := 40) hv91 (ti_rfl v1) (ti_rfl v94) (by rcases hc85 with rfl | rfl <;> rfl) (by omega) (by omega) (fun _ => by rcases hc85 with rfl | rfl <;> rfl) (by omega) (by omega) (by rcases hc85 with rfl | rfl <;> decide) dX6_wireStatement_203 (fun h96 hv96 hv96e => ?_)
        have fx96 : FX KC0 h h96 := FX.pI fx91 hv96e (by unfold KC0; omega)
        have k97 := bd_e k95 (st_I hv96e (ti_rfl v94))
        refine go_goto (pc := 204) (tgt := 279) (by decide) dX6_wireStatement_204 ?_
        refine go_iload (pc := 279) rfl dX6_wireStatement_279 ?_
        exact gi_iret (pc := 281) (ti_rfl v1) ⟨_, rfl, (by rw [show (v1 : Int32).toInt = v1.toInt from (ti_rfl v1)]; omega), (by rw [show (v1 : Int32).toInt = v1.toInt from (ti_rfl v1)]; omega), hv96, (k97.symm.trans kf), fx96⟩ hv96 dX6_wireStatement_281
    ·
      have k98 := if_f k42 (fun z => z q43)
      refine go_aload_n (pc := 145) rfl dX6_wireStatement_145 ?_
      refine gi_getC (pc := 146) hv37 fL_X6_15 rfl (Nat.le_of_ble_eq_true rfl) rfl (by decide) dX6_wireStatement_146 (fun c99 hc99 fc99 => ?_)
      have k100 := bd_e k98 (st_c fc99)
      refine gi_getF (pc := 149) (q := c99 + 13) hv37 fL_X6_71 (by rcases hc99 with rfl | rfl <;> rfl) (Nat.le_of_ble_eq_true rfl) rfl (by rcases hc99 with rfl | rfl <;> exact hv37.rf (by decide)) dX6_wireStatement_149 ?_
      refine go_iload (pc := 152) rfl dX6_wireStatement_152 ?_
      refine go_iload (pc := 154) rfl dX6_wireStatement_154 ?_
      refine gi_iast (pc := 156) (lo := 0) (hi := 44) (len := 40) hv37 (ti_rfl v1) e8 (by rcases hc99 with rfl | rfl <;> rfl) (by omega) (by omega) (fun _ => by rcases hc99 with rfl | rfl <;> rfl) (by omega) (by omega) (by rcases hc99 with rfl | rfl <;> decide) dX6_wireStatement_156 (fun h101 hv101 hv101e => ?_)
      have fx101 : FX KC0 h h101 := FX.pI fx37 hv101e (by unfold KC0; omega)
      have k102 := bd_e k100 (st_I hv101e e8)
      refine go_goto (pc := 157) (tgt := 279) (by decide) dX6_wireStatement_157 ?_
      refine go_iload (pc := 279) rfl dX6_wireStatement_279 ?_
      exact gi_iret (pc := 281) (ti_rfl v1) ⟨_, rfl, (by rw [show (v1 : Int32).toInt = v1.toInt from (ti_rfl v1)]; omega), (by rw [show (v1 : Int32).toInt = v1.toInt from (ti_rfl v1)]; omega), hv101, (k102.symm.trans kf), fx101⟩ hv101 dX6_wireStatement_281
  ·
    have k103 := if_f k18 (Int.not_le.mpr q19)
    refine go_iload (pc := 61) rfl dX6_wireStatement_61 ?_
    refine go_goto (pc := 63) (tgt := 75) (by decide) dX6_wireStatement_63 ?_
    refine gi_iast (pc := 75) (lo := 0) (hi := 44) (len := 40) hv15 (ti_rfl v1) e8 (by rcases hc17 with rfl | rfl <;> rfl) (by omega) (by omega) (fun _ => by rcases hc17 with rfl | rfl <;> rfl) (by omega) (by omega) (by rcases hc17 with rfl | rfl <;> decide) dX6_wireStatement_75 (fun h104 hv104 hv104e => ?_)
    have fx104 : FX KC0 h h104 := FX.pI fx15 hv104e (by unfold KC0; omega)
    have k105 := bd_e k103 (st_I hv104e e8)
    refine go_aload_n (pc := 76) rfl dX6_wireStatement_76 ?_
    refine gi_getC (pc := 77) hv104 fL_X6_15 rfl (Nat.le_of_ble_eq_true rfl) rfl (by decide) dX6_wireStatement_77 (fun c106 hc106 fc106 => ?_)
    have k107 := bd_e k105 (st_c fc106)
    refine gi_getF (pc := 80) (q := c106 + 14) hv104 fL_X6_74 (by rcases hc106 with rfl | rfl <;> rfl) (Nat.le_of_ble_eq_true rfl) rfl (by rcases hc106 with rfl | rfl <;> exact hv104.rf (by decide)) dX6_wireStatement_80 ?_
    refine go_iload (pc := 83) rfl dX6_wireStatement_83 ?_
    refine go_iload_n (pc := 85) rfl dX6_wireStatement_85 ?_
    refine gf_if_ge (pc := 86) (tgt := 93) (ti_rfl a4) (by decide) dX6_wireStatement_86 (fun q108 => False.elim (by omega)) (fun q108 => ?_)
    refine go_iconst (pc := 89) (v := (-1)) (by decide) dX6_wireStatement_89 ?_
    refine go_goto (pc := 90) (tgt := 102) (by decide) dX6_wireStatement_90 ?_
    refine gi_iast (pc := 102) (lo := -1) (hi := 5) (len := 40) hv104 (ti_rfl v1) (ti_c (v := (-1)) (a := (-1)) (by decide)) (by rcases hc106 with rfl | rfl <;> rfl) (by omega) (by omega) (fun _ => by rcases hc106 with rfl | rfl <;> rfl) (by omega) (by omega) (by rcases hc106 with rfl | rfl <;> decide) dX6_wireStatement_102 (fun h109 hv109 hv109e => ?_)
    have fx109 : FX KC0 h h109 := FX.pI fx104 hv109e (by unfold KC0; omega)
    have k110 := bd_e k107 (st_I hv109e (ti_c (v := (-1)) (a := (-1)) (by decide)))
    refine go_aload_n (pc := 103) rfl dX6_wireStatement_103 ?_
    refine gi_getC (pc := 104) hv109 fL_X6_15 rfl (Nat.le_of_ble_eq_true rfl) rfl (by decide) dX6_wireStatement_104 (fun c111 hc111 fc111 => ?_)
    have k112 := bd_e k110 (st_c fc111)
    refine gi_getF (pc := 107) (q := c111 + 15) hv109 fL_X6_80 (by rcases hc111 with rfl | rfl <;> rfl) (Nat.le_of_ble_eq_true rfl) rfl (by rcases hc111 with rfl | rfl <;> exact hv109.rf (by decide)) dX6_wireStatement_107 ?_
    refine go_iload (pc := 110) rfl dX6_wireStatement_110 ?_
    refine go_iload_n (pc := 112) rfl dX6_wireStatement_112 ?_
    refine gf_if_ge (pc := 113) (tgt := 121) (ti_rfl a4) (by decide) dX6_wireStatement_113 (fun q113 => False.elim (by omega)) (fun q113 => ?_)
    refine go_bipush (pc := 116) (v := (-2)) (by decide) dX6_wireStatement_116 ?_
    refine go_goto (pc := 118) (tgt := 130) (by decide) dX6_wireStatement_118 ?_
    refine gi_iast (pc := 130) (lo := -2) (hi := 44) (len := 40) hv109 (ti_rfl v1) (ti_c (v := (-2)) (a := (-2)) (by decide)) (by rcases hc111 with rfl | rfl <;> rfl) (by omega) (by omega) (fun _ => by rcases hc111 with rfl | rfl <;> rfl) (by omega) (by omega) (by rcases hc111 with rfl | rfl <;> decide) dX6_wireStatement_130 (fun h114 hv114 hv114e => ?_)
    have fx114 : FX KC0 h h114 := FX.pI fx109 hv114e (by unfold KC0; omega)
    have k115 := bd_e k112 (st_I hv114e (ti_c (v := (-2)) (a := (-2)) (by decide)))
    refine go_aload_n (pc := 131) rfl dX6_wireStatement_131 ?_
    refine gi_getC (pc := 132) hv114 fL_X6_15 rfl (Nat.le_of_ble_eq_true rfl) rfl (by decide) dX6_wireStatement_132 (fun c116 hc116 fc116 => ?_)
    have k117 := bd_e k115 (st_c fc116)
    refine gi_getF (pc := 135) (q := c116 + 2) hv114 fL_X6_81 (by rcases hc116 with rfl | rfl <;> rfl) (Nat.le_of_ble_eq_true rfl) rfl (by rcases hc116 with rfl | rfl <;> exact hv114.rf (by decide)) dX6_wireStatement_135 ?_
    refine go_iload (pc := 138) rfl dX6_wireStatement_138 ?_
    refine gi_iald (pc := 140) (lo := 0) (hi := 5) (len := 40) hv114 (ti_rfl v1) (by rcases hc116 with rfl | rfl <;> rfl) (by omega) (by omega) (fun _ => by rcases hc116 with rfl | rfl <;> rfl) dX6_wireStatement_140 (fun v118 v118l v118u v118w => ?_)
    have k119 := bd_e k117 (congrArg Int32.toInt v118w.symm)
    refine go_iconst (pc := 141) (v := 5) (by decide) dX6_wireStatement_141 ?_
    refine gf_icmp_ne (pc := 142) (tgt := 160) (ti_rfl v118) (ti_c (v := 5) (a := 5) (by decide)) (by decide) dX6_wireStatement_142 (fun q120 => ?_) (fun q120 => ?_)
    ·
      have k121 := if_t k119 q120
      refine go_aload_n (pc := 160) rfl dX6_wireStatement_160 ?_
      refine gi_getC (pc := 161) hv114 fL_X6_15 rfl (Nat.le_of_ble_eq_true rfl) rfl (by decide) dX6_wireStatement_161 (fun c122 hc122 fc122 => ?_)
      have k123 := bd_e k121 (st_c fc122)
      refine gi_getF (pc := 164) (q := c122 + 2) hv114 fL_X6_81 (by rcases hc122 with rfl | rfl <;> rfl) (Nat.le_of_ble_eq_true rfl) rfl (by rcases hc122 with rfl | rfl <;> exact hv114.rf (by decide)) dX6_wireStatement_164 ?_
      refine go_iload (pc := 167) rfl dX6_wireStatement_167 ?_
      refine gi_iald (pc := 169) (lo := 0) (hi := 5) (len := 40) hv114 (ti_rfl v1) (by rcases hc122 with rfl | rfl <;> rfl) (by omega) (by omega) (fun _ => by rcases hc122 with rfl | rfl <;> rfl) dX6_wireStatement_169 (fun v124 v124l v124u v124w => ?_)
      have k125 := bd_e k123 (congrArg Int32.toInt v124w.symm)
      refine go_iconst (pc := 170) (v := 3) (by decide) dX6_wireStatement_170 ?_
      refine gf_icmp_ne (pc := 171) (tgt := 207) (ti_rfl v124) (ti_c (v := 3) (a := 3) (by decide)) (by decide) dX6_wireStatement_171 (fun q126 => ?_) (fun q126 => ?_)
      ·
        have k127 := if_t k125 q126
        refine go_aload_n (pc := 207) rfl dX6_wireStatement_207 ?_
        refine gi_getC (pc := 208) hv114 fL_X6_15 rfl (Nat.le_of_ble_eq_true rfl) rfl (by decide) dX6_wireStatement_208 (fun c128 hc128 fc128 => ?_)
        have k129 := bd_e k127 (st_c fc128)
        refine gi_getF (pc := 211) (q := c128 + 2) hv114 fL_X6_81 (by rcases hc128 with rfl | rfl <;> rfl) (Nat.le_of_ble_eq_true rfl) rfl (by rcases hc128 with rfl | rfl <;> exact hv114.rf (by decide)) dX6_wireStatement_211 ?_
        refine go_iload (pc := 214) rfl dX6_wireStatement_214 ?_
        refine gi_iald (pc := 216) (lo := 0) (hi := 5) (len := 40) hv114 (ti_rfl v1) (by rcases hc128 with rfl | rfl <;> rfl) (by omega) (by omega) (fun _ => by rcases hc128 with rfl | rfl <;> rfl) dX6_wireStatement_216 (fun v130 v130l v130u v130w => ?_)
        have k131 := bd_e k129 (congrArg Int32.toInt v130w.symm)
        refine go_iconst (pc := 217) (v := 2) (by decide) dX6_wireStatement_217 ?_
        refine gf_icmp_ne (pc := 218) (tgt := 279) (ti_rfl v130) (ti_c (v := 2) (a := 2) (by decide)) (by decide) dX6_wireStatement_218 (fun q132 => ?_) (fun q132 => ?_)
        ·
          have k133 := if_t k131 q132
          refine go_iload (pc := 279) rfl dX6_wireStatement_279 ?_
          exact gi_iret (pc := 281) (ti_rfl v1) ⟨_, rfl, (by rw [show (v1 : Int32).toInt = v1.toInt from (ti_rfl v1)]; omega), (by rw [show (v1 : Int32).toInt = v1.toInt from (ti_rfl v1)]; omega), hv114, (k133.symm.trans kf), fx114⟩ hv114 dX6_wireStatement_281
        ·
          have k134 := if_f k131 (fun z => z q132)
          refine go_aload_n (pc := 221) rfl dX6_wireStatement_221 ?_
          refine gi_getC (pc := 222) hv114 fL_X6_15 rfl (Nat.le_of_ble_eq_true rfl) rfl (by decide) dX6_wireStatement_222 (fun c135 hc135 fc135 => ?_)
          have k136 := bd_e k134 (st_c fc135)
          refine gi_getF (pc := 225) (q := c135 + 13) hv114 fL_X6_71 (by rcases hc135 with rfl | rfl <;> rfl) (Nat.le_of_ble_eq_true rfl) rfl (by rcases hc135 with rfl | rfl <;> exact hv114.rf (by decide)) dX6_wireStatement_225 ?_
          refine go_iload (pc := 228) rfl dX6_wireStatement_228 ?_
          refine go_aload_n (pc := 230) rfl dX6_wireStatement_230 ?_
          refine go_aload_n (pc := 231) rfl dX6_wireStatement_231 ?_
          refine gi_getF (pc := 232) (q := 36) hv114 fL_X6_9 rfl (Nat.le_of_ble_eq_true rfl) rfl (hv114.rf (by decide)) dX6_wireStatement_232 ?_
          refine gi_getF (pc := 235) (q := 39) hv114 fL_X6_59 rfl (Nat.le_of_ble_eq_true rfl) rfl (hv114.rf (by decide)) dX6_wireStatement_235 ?_
          refine go_iload_n (pc := 238) rfl dX6_wireStatement_238 ?_
          refine gi_iald (pc := 239) (lo := -1) (hi := 127) (len := 128) hv114 (ti_rfl a2) rfl (by omega) (by omega) (fun _ => rfl) dX6_wireStatement_239 (fun v137 v137l v137u v137w => ?_)
          have k138 := bd_e k136 (congrArg Int32.toInt v137w.symm)
          refine go_iload_n (pc := 240) rfl dX6_wireStatement_240 ?_
          refine go_iload_n (pc := 241) rfl dX6_wireStatement_241 ?_
          refine go_iload (pc := 242) rfl dX6_wireStatement_242 ?_
          refine go_iconst (pc := 244) (v := 1) (by decide) dX6_wireStatement_244 ?_
          refine gf_iadd (pc := 245) (ti_rfl a5) (ti_c (v := 1) (a := 1) (by decide)) (by omega) (by omega) dX6_wireStatement_245 (fun v139 e140 => ?_)
          refine go_invV (pc := 246) (sl := 0) (s_X6_wireBlock_lv2_f l (d + 0) hv114 v137 (by rw [show (v137 : Int32).toInt = v137.toInt from (ti_rfl v137)]; omega) (by rw [show (v137 : Int32).toInt = v137.toInt from (ti_rfl v137)]; omega) a3 (by rw [show (a3 : Int32).toInt = a3.toInt from (ti_rfl a3)]; omega) (by rw [show (a3 : Int32).toInt = a3.toInt from (ti_rfl a3)]; omega) a4 (by rw [show (a4 : Int32).toInt = a4.toInt from (ti_rfl a4)]; omega) (by rw [show (a4 : Int32).toInt = a4.toInt from (ti_rfl a4)]; omega) v139 (by rw [show (v139 : Int32).toInt = (a5.toInt + 1) from e140]; omega) (by rw [show (v139 : Int32).toInt = (a5.toInt + 1) from e140]; omega)) mL_X6_34 iM_X6_wireBlock sM_X6_wireBlock (hv114.sh rfl) rfl rfl rfl (Nat.le_of_ble_eq_true rfl) (show d + 0 + 11 + 1 ≤ d + 12 by omega) (show 8 + (8 + 11) + 40 * (d + 0 + 11) ≤ 40 * (d + 12) by omega) (g_c0 hv114.ln) (Nat.le_of_ble_eq_true rfl) dX6_wireStatement_246 ?_
          intro r h141 hq _
          obtain ⟨v144, rfl, v144l, v144u, hv141, f142, f143⟩ := hq
          try rw [show (v139 : Int32).toInt = (a5.toInt + 1) from e140] at f142
          try rw [show (v139 : Int32).toInt = (a5.toInt + 1) from e140] at f143
          have fx141 : FX KC0 h h141 := FX.tr fx114 f143
          have k145 := bd2_e k138 f142
          refine gi_iast (pc := 249) (lo := 0) (hi := 44) (len := 40) hv141 (ti_rfl v1) (ti_rfl v144) (by rcases hc135 with rfl | rfl <;> rfl) (by omega) (by omega) (fun _ => by rcases hc135 with rfl | rfl <;> rfl) (by omega) (by omega) (by rcases hc135 with rfl | rfl <;> decide) dX6_wireStatement_249 (fun h146 hv146 hv146e => ?_)
          have fx146 : FX KC0 h h146 := FX.pI fx141 hv146e (by unfold KC0; omega)
          have k147 := bd_e k145 (st_I hv146e (ti_rfl v144))
          refine go_aload_n (pc := 250) rfl dX6_wireStatement_250 ?_
          refine gi_getC (pc := 251) hv146 fL_X6_15 rfl (Nat.le_of_ble_eq_true rfl) rfl (by decide) dX6_wireStatement_251 (fun c148 hc148 fc148 => ?_)
          have k149 := bd_e k147 (st_c fc148)
          refine gi_getF (pc := 254) (q := c148 + 12) hv146 fL_X6_68 (by rcases hc148 with rfl | rfl <;> rfl) (Nat.le_of_ble_eq_true rfl) rfl (by rcases hc148 with rfl | rfl <;> exact hv146.rf (by decide)) dX6_wireStatement_254 ?_
          refine go_iload (pc := 257) rfl dX6_wireStatement_257 ?_
          refine go_aload_n (pc := 259) rfl dX6_wireStatement_259 ?_
          refine go_aload_n (pc := 260) rfl dX6_wireStatement_260 ?_
          refine gi_getF (pc := 261) (q := 36) hv146 fL_X6_9 rfl (Nat.le_of_ble_eq_true rfl) rfl (hv146.rf (by decide)) dX6_wireStatement_261 ?_
          refine gi_getF (pc := 264) (q := 40) hv146 fL_X6_50 rfl (Nat.le_of_ble_eq_true rfl) rfl (hv146.rf (by decide)) dX6_wireStatement_264 ?_
          refine go_iload_n (pc := 267) rfl dX6_wireStatement_267 ?_
          refine gi_iald (pc := 268) (lo := -1) (hi := 127) (len := 128) hv146 (ti_rfl a2) rfl (by omega) (by omega) (fun _ => rfl) dX6_wireStatement_268 (fun v150 v150l v150u v150w => ?_)
          have k151 := bd_e k149 (congrArg Int32.toInt v150w.symm)
          refine go_iload_n (pc := 269) rfl dX6_wireStatement_269 ?_
          refine go_iload_n (pc := 270) rfl dX6_wireStatement_270 ?_
          refine go_iload (pc := 271) rfl dX6_wireStatement_271 ?_
          refine go_iconst (pc := 273) (v := 1) (by decide) dX6_wireStatement_273 ?_
          refine gf_iadd (pc := 274) (ti_rfl a5) (ti_c (v := 1) (a := 1) (by decide)) (by omega) (by omega) dX6_wireStatement_274 (fun v152 e153 => ?_)
          refine go_invV (pc := 275) (sl := 0) (s_X6_wireBlock_lv2_f l (d + 0) hv146 v150 (by rw [show (v150 : Int32).toInt = v150.toInt from (ti_rfl v150)]; omega) (by rw [show (v150 : Int32).toInt = v150.toInt from (ti_rfl v150)]; omega) a3 (by rw [show (a3 : Int32).toInt = a3.toInt from (ti_rfl a3)]; omega) (by rw [show (a3 : Int32).toInt = a3.toInt from (ti_rfl a3)]; omega) a4 (by rw [show (a4 : Int32).toInt = a4.toInt from (ti_rfl a4)]; omega) (by rw [show (a4 : Int32).toInt = a4.toInt from (ti_rfl a4)]; omega) v152 (by rw [show (v152 : Int32).toInt = (a5.toInt + 1) from e153]; omega) (by rw [show (v152 : Int32).toInt = (a5.toInt + 1) from e153]; omega)) mL_X6_34 iM_X6_wireBlock sM_X6_wireBlock (hv146.sh rfl) rfl rfl rfl (Nat.le_of_ble_eq_true rfl) (show d + 0 + 11 + 1 ≤ d + 12 by omega) (show 8 + (8 + 11) + 40 * (d + 0 + 11) ≤ 40 * (d + 12) by omega) (g_c0 hv146.ln) (Nat.le_of_ble_eq_true rfl) dX6_wireStatement_275 ?_
          intro r h154 hq _
          obtain ⟨v157, rfl, v157l, v157u, hv154, f155, f156⟩ := hq
          try rw [show (v152 : Int32).toInt = (a5.toInt + 1) from e153] at f155
          try rw [show (v152 : Int32).toInt = (a5.toInt + 1) from e153] at f156
          have fx154 : FX KC0 h h154 := FX.tr fx146 f156
          have k158 := bd2_e k151 f155
          refine gi_iast (pc := 278) (lo := 0) (hi := 44) (len := 40) hv154 (ti_rfl v1) (ti_rfl v157) (by rcases hc148 with rfl | rfl <;> rfl) (by omega) (by omega) (fun _ => by rcases hc148 with rfl | rfl <;> rfl) (by omega) (by omega) (by rcases hc148 with rfl | rfl <;> decide) dX6_wireStatement_278 (fun h159 hv159 hv159e => ?_)
          have fx159 : FX KC0 h h159 := FX.pI fx154 hv159e (by unfold KC0; omega)
          have k160 := bd_e k158 (st_I hv159e (ti_rfl v157))
          refine go_iload (pc := 279) rfl dX6_wireStatement_279 ?_
          exact gi_iret (pc := 281) (ti_rfl v1) ⟨_, rfl, (by rw [show (v1 : Int32).toInt = v1.toInt from (ti_rfl v1)]; omega), (by rw [show (v1 : Int32).toInt = v1.toInt from (ti_rfl v1)]; omega), hv159, (k160.symm.trans kf), fx159⟩ hv159 dX6_wireStatement_281
      ·
        have k161 := if_f k125 (fun z => z q126)
        refine go_aload_n (pc := 174) rfl dX6_wireStatement_174 ?_
        refine gi_getC (pc := 175) hv114 fL_X6_15 rfl (Nat.le_of_ble_eq_true rfl) rfl (by decide) dX6_wireStatement_175 (fun c162 hc162 fc162 => ?_)
        have k163 := bd_e k161 (st_c fc162)
        refine gi_getF (pc := 178) (q := c162 + 13) hv114 fL_X6_71 (by rcases hc162 with rfl | rfl <;> rfl) (Nat.le_of_ble_eq_true rfl) rfl (by rcases hc162 with rfl | rfl <;> exact hv114.rf (by decide)) dX6_wireStatement_178 ?_
        refine go_iload (pc := 181) rfl dX6_wireStatement_181 ?_
        refine go_aload_n (pc := 183) rfl dX6_wireStatement_183 ?_
        refine go_aload_n (pc := 184) rfl dX6_wireStatement_184 ?_
        refine gi_getF (pc := 185) (q := 36) hv114 fL_X6_9 rfl (Nat.le_of_ble_eq_true rfl) rfl (hv114.rf (by decide)) dX6_wireStatement_185 ?_
        refine gi_getF (pc := 188) (q := 39) hv114 fL_X6_59 rfl (Nat.le_of_ble_eq_true rfl) rfl (hv114.rf (by decide)) dX6_wireStatement_188 ?_
        refine go_iload_n (pc := 191) rfl dX6_wireStatement_191 ?_
        refine gi_iald (pc := 192) (lo := -1) (hi := 127) (len := 128) hv114 (ti_rfl a2) rfl (by omega) (by omega) (fun _ => rfl) dX6_wireStatement_192 (fun v164 v164l v164u v164w => ?_)
        have k165 := bd_e k163 (congrArg Int32.toInt v164w.symm)
        refine go_iload (pc := 193) rfl dX6_wireStatement_193 ?_
        refine go_iload_n (pc := 195) rfl dX6_wireStatement_195 ?_
        refine go_iload (pc := 196) rfl dX6_wireStatement_196 ?_
        refine go_iconst (pc := 198) (v := 1) (by decide) dX6_wireStatement_198 ?_
        refine gf_iadd (pc := 199) (ti_rfl a5) (ti_c (v := 1) (a := 1) (by decide)) (by omega) (by omega) dX6_wireStatement_199 (fun v166 e167 => ?_)
        refine go_invV (pc := 200) (sl := 0) (s_X6_wireBlock_lv2_f l (d + 0) hv114 v164 (by rw [show (v164 : Int32).toInt = v164.toInt from (ti_rfl v164)]; omega) (by rw [show (v164 : Int32).toInt = v164.toInt from (ti_rfl v164)]; omega) v1 (by rw [show (v1 : Int32).toInt = v1.toInt from (ti_rfl v1)]; omega) (by rw [show (v1 : Int32).toInt = v1.toInt from (ti_rfl v1)]; omega) a4 (by rw [show (a4 : Int32).toInt = a4.toInt from (ti_rfl a4)]; omega) (by rw [show (a4 : Int32).toInt = a4.toInt from (ti_rfl a4)]; omega) v166 (by rw [show (v166 : Int32).toInt = (a5.toInt + 1) from e167]; omega) (by rw [show (v166 : Int32).toInt = (a5.toInt + 1) from e167]; omega)) mL_X6_34 iM_X6_wireBlock sM_X6_wireBlock (hv114.sh rfl) rfl rfl rfl (Nat.le_of_ble_eq_true rfl) (show d + 0 + 11 + 1 ≤ d + 12 by omega) (show 8 + (8 + 11) + 40 * (d + 0 + 11) ≤ 40 * (d + 12) by omega) (g_c0 hv114.ln) (Nat.le_of_ble_eq_true rfl) dX6_wireStatement_200 ?_
        intro r h168 hq _
        obtain ⟨v171, rfl, v171l, v171u, hv168, f169, f170⟩ := hq
        try rw [show (v166 : Int32).toInt = (a5.toInt + 1) from e167] at f169
        try rw [show (v166 : Int32).toInt = (a5.toInt + 1) from e167] at f170
        have fx168 : FX KC0 h h168 := FX.tr fx114 f170
        have k172 := bd2_e k165 f169
        refine gi_iast (pc := 203) (lo := 0) (hi := 44) (len := 40) hv168 (ti_rfl v1) (ti_rfl v171) (by rcases hc162 with rfl | rfl <;> rfl) (by omega) (by omega) (fun _ => by rcases hc162 with rfl | rfl <;> rfl) (by omega) (by omega) (by rcases hc162 with rfl | rfl <;> decide) dX6_wireStatement_203 (fun h173 hv173 hv173e => ?_)
        have fx173 : FX KC0 h h173 := FX.pI fx168 hv173e (by unfold KC0; omega)
        have k174 := bd_e k172 (st_I hv173e (ti_rfl v171))
        refine go_goto (pc := 204) (tgt := 279) (by decide) dX6_wireStatement_204 ?_
        refine go_iload (pc := 279) rfl dX6_wireStatement_279 ?_
        exact gi_iret (pc := 281) (ti_rfl v1) ⟨_, rfl, (by rw [show (v1 : Int32).toInt = v1.toInt from (ti_rfl v1)]; omega), (by rw [show (v1 : Int32).toInt = v1.toInt from (ti_rfl v1)]; omega), hv173, (k174.symm.trans kf), fx173⟩ hv173 dX6_wireStatement_281
    ·
      have k175 := if_f k119 (fun z => z q120)
      refine go_aload_n (pc := 145) rfl dX6_wireStatement_145 ?_
      refine gi_getC (pc := 146) hv114 fL_X6_15 rfl (Nat.le_of_ble_eq_true rfl) rfl (by decide) dX6_wireStatement_146 (fun c176 hc176 fc176 => ?_)
      have k177 := bd_e k175 (st_c fc176)
      refine gi_getF (pc := 149) (q := c176 + 13) hv114 fL_X6_71 (by rcases hc176 with rfl | rfl <;> rfl) (Nat.le_of_ble_eq_true rfl) rfl (by rcases hc176 with rfl | rfl <;> exact hv114.rf (by decide)) dX6_wireStatement_149 ?_
      refine go_iload (pc := 152) rfl dX6_wireStatement_152 ?_
      refine go_iload (pc := 154) rfl dX6_wireStatement_154 ?_
      refine gi_iast (pc := 156) (lo := 0) (hi := 44) (len := 40) hv114 (ti_rfl v1) e8 (by rcases hc176 with rfl | rfl <;> rfl) (by omega) (by omega) (fun _ => by rcases hc176 with rfl | rfl <;> rfl) (by omega) (by omega) (by rcases hc176 with rfl | rfl <;> decide) dX6_wireStatement_156 (fun h178 hv178 hv178e => ?_)
      have fx178 : FX KC0 h h178 := FX.pI fx114 hv178e (by unfold KC0; omega)
      have k179 := bd_e k177 (st_I hv178e e8)
      refine go_goto (pc := 157) (tgt := 279) (by decide) dX6_wireStatement_157 ?_
      refine go_iload (pc := 279) rfl dX6_wireStatement_279 ?_
      exact gi_iret (pc := 281) (ti_rfl v1) ⟨_, rfl, (by rw [show (v1 : Int32).toInt = v1.toInt from (ti_rfl v1)]; omega), (by rw [show (v1 : Int32).toInt = v1.toInt from (ti_rfl v1)]; omega), hv178, (k179.symm.trans kf), fx178⟩ hv178 dX6_wireStatement_281
def f_X6_wireBlock_lv1_ : Nat → Nat → Int → Int → Int → Int → Int → ST → ST × Int
  | 0, _, _, _, _, _, _, sx => (sx, 0)
  | n + 1, _, l3, l4, l5, l6, l7, sx => if 128 ≤ l7 then ((sx, l5)) else (if l6 < 0 then ((sx, l5)) else (bd (sx.1 37 (l6).toNat) fun v7 => if ¬ v7 = (-1) then (bd2 (f_X6_wireStatement_lv1 sx l6 l5 l3 l4) fun s11 v14 => bd (s11.1 38 (l6).toNat) fun v16 => f_X6_wireBlock_lv1_ n 20 l3 l4 v14 v16 ((l7 + 1)) s11) else (bd2 (f_X6_wireTry_lv1 sx l6 l5 l3 l4) fun s22 v25 => bd (s22.1 38 (l6).toNat) fun v27 => f_X6_wireBlock_lv1_ n 20 l3 l4 v25 v27 ((l7 + 1)) s22)))
def f_X6_wireBlock_lv1 (s : ST) (a2 : Int) (a3 : Int) (a4 : Int) (a5 : Int) : ST × Int :=
  f_X6_wireBlock_lv1_ 403 20 a4 a5 a3 a2 0 s
set_option maxHeartbeats 4000000 in
set_option maxRecDepth 100000 in
theorem s_X6_wireBlock_lv1_f (l : Launch) (d : Nat) {P : PP} {h : HP} (hv : Iv P h) (a2 : Int32) (a2l : -1 ≤ a2.toInt) (a2u : a2.toInt ≤ 127) (a3 : Int32) (a3l : 0 ≤ a3.toInt) (a3u : a3.toInt ≤ 44) (a4 : Int32) (a4l : -1 ≤ a4.toInt) (a4u : a4.toInt ≤ 127) (a5 : Int32) (a5l : 1 ≤ a5.toInt) (a5u : a5.toInt ≤ 1) : Mt l yX6_wireBlock cX6_wireBlock 8 (some .int) (d + 13) [.ref 48, .int a2, .int a3, .int a4, .int a5] h 0 0 (fun r h' => ∃ v : Int32, r = some (.int v) ∧ 0 ≤ v.toInt ∧ v.toInt ≤ 44 ∧ Iv P h' ∧ ((st h', v.toInt) = f_X6_wireBlock_lv1 (st h) a2.toInt a3.toInt a4.toInt a5.toInt) ∧ (FX KC0 h h')) := by
  refine Mt_iv hv (by decide) (Nat.le_of_ble_eq_true rfl) ?_
  show Go l RX6 cX6_wireBlock 8 (g_rm (d + 13) 0 0) "wireBlock" (some .int) 117 0 0 (fun _ _ => True) (fun r h' => ∃ v : Int32, r = some (.int v) ∧ 0 ≤ v.toInt ∧ v.toInt ≤ 44 ∧ Iv P h' ∧ ((st h', v.toInt) = f_X6_wireBlock_lv1 (st h) a2.toInt a3.toInt a4.toInt a5.toInt) ∧ (FX KC0 h h')) 0 0 [(0, .ref 48), (1, .int a2), (2, .int a3), (3, .int a4), (4, .int a5)] [] h
  have fx : FX KC0 h h := FX.rfl
  obtain ⟨fin, kf⟩ : ∃ z, z = f_X6_wireBlock_lv1 (st h) a2.toInt a3.toInt a4.toInt a5.toInt := ⟨_, _root_.rfl⟩
  have k0 := kf
  unfold f_X6_wireBlock_lv1 at k0
  have key : ∀ n : Nat, (∀ (l3 : Int32) (l4 : Int32) (l5 : Int32) (l6 : Int32) (l7 : Int32) (hx : HP), Iv P hx → -1 ≤ l3.toInt → l3.toInt ≤ 127 → 1 ≤ l4.toInt → l4.toInt ≤ 1 → 0 ≤ l5.toInt → l5.toInt ≤ 44 → -1 ≤ l6.toInt → l6.toInt ≤ 127 → 0 ≤ l7.toInt → l7.toInt ≤ 128 → FX KC0 h hx → fin = f_X6_wireBlock_lv1_ n 20 l3.toInt l4.toInt l5.toInt l6.toInt l7.toInt (st hx) → (3 * (128 - l7.toInt) + 2 : Int) < n → Go l RX6 cX6_wireBlock 8 (g_rm (d + 13) 0 0) "wireBlock" (some .int) 117 0 0 (fun _ _ => True) (fun r h' => ∃ v : Int32, r = some (.int v) ∧ 0 ≤ v.toInt ∧ v.toInt ≤ 44 ∧ Iv P h' ∧ ((st h', v.toInt) = f_X6_wireBlock_lv1 (st h) a2.toInt a3.toInt a4.toInt a5.toInt) ∧ (FX KC0 h h')) 0 20 [(0, .ref 48), (3, .int l3), (4, .int l4), (5, .int l5), (6, .int l6), (7, .int l7)] [] hx) := by
    intro n
    induction n with
    | zero => exact (by intros; omega)
    | succ n ih =>
      refine ?_
      ·
        intro l3 l4 l5 l6 l7 hx hvx l3l l3u l4l l4u l5l l5u l6l l6u l7l l7u fxx kL hm
        rw [f_X6_wireBlock_lv1_] at kL
        refine go_iload (pc := 20) rfl dX6_wireBlock_20 ?_
        refine go_sipush (pc := 22) (v := 128) (by decide) dX6_wireBlock_22 ?_
        refine gf_icmp_ge (pc := 25) (tgt := 94) (ti_rfl l7) (ti_c (v := 128) (a := 128) (by decide)) (by decide) dX6_wireBlock_25 (fun q1 => ?_) (fun q1 => ?_)
        ·
          have k2 := if_t kL q1
          refine go_iload (pc := 94) rfl dX6_wireBlock_94 ?_
          exact gi_iret (pc := 96) (ti_rfl l5) ⟨_, rfl, (by rw [show (l5 : Int32).toInt = l5.toInt from (ti_rfl l5)]; omega), (by rw [show (l5 : Int32).toInt = l5.toInt from (ti_rfl l5)]; omega), hvx, (k2.symm.trans kf), fxx⟩ hvx dX6_wireBlock_96
        ·
          have k3 := if_f kL (Int.not_le.mpr q1)
          refine go_iload (pc := 28) rfl dX6_wireBlock_28 ?_
          refine gf_if_lt (pc := 30) (tgt := 94) (ti_rfl l6) (by decide) dX6_wireBlock_30 (fun q4 => ?_) (fun q4 => ?_)
          ·
            have k5 := if_t k3 q4
            refine go_iload (pc := 94) rfl dX6_wireBlock_94 ?_
            exact gi_iret (pc := 96) (ti_rfl l5) ⟨_, rfl, (by rw [show (l5 : Int32).toInt = l5.toInt from (ti_rfl l5)]; omega), (by rw [show (l5 : Int32).toInt = l5.toInt from (ti_rfl l5)]; omega), hvx, (k5.symm.trans kf), fxx⟩ hvx dX6_wireBlock_96
          ·
            have k6 := if_f k3 (Int.not_lt.mpr q4)
            refine go_aload_n (pc := 33) rfl dX6_wireBlock_33 ?_
            refine gi_getF (pc := 34) (q := 36) hvx fL_X6_9 rfl (Nat.le_of_ble_eq_true rfl) rfl (hvx.rf (by decide)) dX6_wireBlock_34 ?_
            refine gi_getF (pc := 37) (q := 37) hvx fL_X6_38 rfl (Nat.le_of_ble_eq_true rfl) rfl (hvx.rf (by decide)) dX6_wireBlock_37 ?_
            refine go_iload (pc := 40) rfl dX6_wireBlock_40 ?_
            refine gi_iald (pc := 42) (lo := -1) (hi := 39) (len := 128) hvx (ti_rfl l6) rfl (by omega) (by omega) (fun _ => rfl) dX6_wireBlock_42 (fun v7 v7l v7u v7w => ?_)
            have k8 := bd_e k6 (congrArg Int32.toInt v7w.symm)
            refine go_iconst (pc := 43) (v := (-1)) (by decide) dX6_wireBlock_43 ?_
            refine gf_icmp_ne (pc := 44) (tgt := 63) (ti_rfl v7) (ti_c (v := (-1)) (a := (-1)) (by decide)) (by decide) dX6_wireBlock_44 (fun q9 => ?_) (fun q9 => ?_)
            ·
              have k10 := if_t k8 q9
              refine go_aload_n (pc := 63) rfl dX6_wireBlock_63 ?_
              refine go_iload (pc := 64) rfl dX6_wireBlock_64 ?_
              refine go_iload (pc := 66) rfl dX6_wireBlock_66 ?_
              refine go_iload_n (pc := 68) rfl dX6_wireBlock_68 ?_
              refine go_iload (pc := 69) rfl dX6_wireBlock_69 ?_
              refine go_invV (pc := 71) (sl := 0) (s_X6_wireStatement_lv1_f l (d + 0) hvx l6 (by rw [show (l6 : Int32).toInt = l6.toInt from (ti_rfl l6)]; omega) (by rw [show (l6 : Int32).toInt = l6.toInt from (ti_rfl l6)]; omega) l5 (by rw [show (l5 : Int32).toInt = l5.toInt from (ti_rfl l5)]; omega) (by rw [show (l5 : Int32).toInt = l5.toInt from (ti_rfl l5)]; omega) l3 (by rw [show (l3 : Int32).toInt = l3.toInt from (ti_rfl l3)]; omega) (by rw [show (l3 : Int32).toInt = l3.toInt from (ti_rfl l3)]; omega) l4 (by rw [show (l4 : Int32).toInt = l4.toInt from (ti_rfl l4)]; omega) (by rw [show (l4 : Int32).toInt = l4.toInt from (ti_rfl l4)]; omega) (by rw [← v7w]; omega)) mL_X6_44 iM_X6_wireStatement sM_X6_wireStatement (hvx.sh rfl) rfl rfl rfl (Nat.le_of_ble_eq_true rfl) (show d + 0 + 12 + 1 ≤ d + 13 by omega) (show 8 + (7 + 11) + 40 * (d + 0 + 12) ≤ 40 * (d + 13) by omega) (g_c0 hvx.ln) (Nat.le_of_ble_eq_true rfl) dX6_wireBlock_71 ?_
              intro r h11 hq _
              obtain ⟨v14, rfl, v14l, v14u, hv11, f12, f13⟩ := hq
              have fx11 : FX KC0 h h11 := FX.tr fxx f13
              have k15 := bd2_e k10 f12
              refine go_istore (pc := 74) (Nat.le_of_ble_eq_true rfl) dX6_wireBlock_74 (go_lv (lv2 := [(0, .ref 48), (3, .int l3), (4, .int l4), (5, .int v14), (6, .int l6), (7, .int l7)]) rfl ?_)
              refine go_aload_n (pc := 76) rfl dX6_wireBlock_76 ?_
              refine gi_getF (pc := 77) (q := 36) hv11 fL_X6_9 rfl (Nat.le_of_ble_eq_true rfl) rfl (hv11.rf (by decide)) dX6_wireBlock_77 ?_
              refine gi_getF (pc := 80) (q := 38) hv11 fL_X6_47 rfl (Nat.le_of_ble_eq_true rfl) rfl (hv11.rf (by decide)) dX6_wireBlock_80 ?_
              refine go_iload (pc := 83) rfl dX6_wireBlock_83 ?_
              refine gi_iald (pc := 85) (lo := -1) (hi := 127) (len := 128) hv11 (ti_rfl l6) rfl (by omega) (by omega) (fun _ => rfl) dX6_wireBlock_85 (fun v16 v16l v16u v16w => ?_)
              have k17 := bd_e k15 (congrArg Int32.toInt v16w.symm)
              refine go_istore (pc := 86) (Nat.le_of_ble_eq_true rfl) dX6_wireBlock_86 (go_lv (lv2 := [(0, .ref 48), (3, .int l3), (4, .int l4), (5, .int v14), (6, .int v16), (7, .int l7)]) rfl ?_)
              refine gf_iinc (pc := 88) (Nat.le_of_ble_eq_true rfl) rfl (ti_rfl l7) (ti_c (by decide)) (by omega) (by omega) dX6_wireBlock_88 (fun v18 e19 => ?_)
              refine go_lv (lv2 := [(0, .ref 48), (3, .int l3), (4, .int l4), (5, .int v14), (6, .int v16), (7, .int v18)]) rfl ?_
              refine go_goto (pc := 91) (tgt := 20) (by decide) dX6_wireBlock_91 ?_
              have z20 : (v18 : Int32).toInt = (l7.toInt + 1) := e19
              exact go_lv rfl (ih l3 l4 v14 v16 v18 h11 hv11 (by omega) (by omega) (by omega) (by omega) (by omega) (by omega) (by omega) (by omega) (by omega) (by omega) fx11 (by rw [show (v18 : Int32).toInt = (l7.toInt + 1) from e19]; exact k17) (by omega))
            ·
              have k21 := if_f k8 (fun z => z q9)
              refine go_aload_n (pc := 47) rfl dX6_wireBlock_47 ?_
              refine go_iload (pc := 48) rfl dX6_wireBlock_48 ?_
              refine go_iload (pc := 50) rfl dX6_wireBlock_50 ?_
              refine go_iload_n (pc := 52) rfl dX6_wireBlock_52 ?_
              refine go_iload (pc := 53) rfl dX6_wireBlock_53 ?_
              refine go_invV (pc := 55) (sl := 0) (s_X6_wireTry_lv1_f l (d + 0) hvx l6 (by rw [show (l6 : Int32).toInt = l6.toInt from (ti_rfl l6)]; omega) (by rw [show (l6 : Int32).toInt = l6.toInt from (ti_rfl l6)]; omega) l5 (by rw [show (l5 : Int32).toInt = l5.toInt from (ti_rfl l5)]; omega) (by rw [show (l5 : Int32).toInt = l5.toInt from (ti_rfl l5)]; omega) l3 (by rw [show (l3 : Int32).toInt = l3.toInt from (ti_rfl l3)]; omega) (by rw [show (l3 : Int32).toInt = l3.toInt from (ti_rfl l3)]; omega) l4 (by rw [show (l4 : Int32).toInt = l4.toInt from (ti_rfl l4)]; omega) (by rw [show (l4 : Int32).toInt = l4.toInt from (ti_rfl l4)]; omega)) mL_X6_41 iM_X6_wireTry sM_X6_wireTry (hvx.sh rfl) rfl rfl rfl (Nat.le_of_ble_eq_true rfl) (show d + 0 + 12 + 1 ≤ d + 13 by omega) (show 8 + (6 + 11) + 40 * (d + 0 + 12) ≤ 40 * (d + 13) by omega) (g_c0 hvx.ln) (Nat.le_of_ble_eq_true rfl) dX6_wireBlock_55 ?_
              intro r h22 hq _
              obtain ⟨v25, rfl, v25l, v25u, hv22, f23, f24⟩ := hq
              have fx22 : FX KC0 h h22 := FX.tr fxx f24
              have k26 := bd2_e k21 f23
              refine go_istore (pc := 58) (Nat.le_of_ble_eq_true rfl) dX6_wireBlock_58 (go_lv (lv2 := [(0, .ref 48), (3, .int l3), (4, .int l4), (5, .int v25), (6, .int l6), (7, .int l7)]) rfl ?_)
              refine go_goto (pc := 60) (tgt := 76) (by decide) dX6_wireBlock_60 ?_
              refine go_aload_n (pc := 76) rfl dX6_wireBlock_76 ?_
              refine gi_getF (pc := 77) (q := 36) hv22 fL_X6_9 rfl (Nat.le_of_ble_eq_true rfl) rfl (hv22.rf (by decide)) dX6_wireBlock_77 ?_
              refine gi_getF (pc := 80) (q := 38) hv22 fL_X6_47 rfl (Nat.le_of_ble_eq_true rfl) rfl (hv22.rf (by decide)) dX6_wireBlock_80 ?_
              refine go_iload (pc := 83) rfl dX6_wireBlock_83 ?_
              refine gi_iald (pc := 85) (lo := -1) (hi := 127) (len := 128) hv22 (ti_rfl l6) rfl (by omega) (by omega) (fun _ => rfl) dX6_wireBlock_85 (fun v27 v27l v27u v27w => ?_)
              have k28 := bd_e k26 (congrArg Int32.toInt v27w.symm)
              refine go_istore (pc := 86) (Nat.le_of_ble_eq_true rfl) dX6_wireBlock_86 (go_lv (lv2 := [(0, .ref 48), (3, .int l3), (4, .int l4), (5, .int v25), (6, .int v27), (7, .int l7)]) rfl ?_)
              refine gf_iinc (pc := 88) (Nat.le_of_ble_eq_true rfl) rfl (ti_rfl l7) (ti_c (by decide)) (by omega) (by omega) dX6_wireBlock_88 (fun v29 e30 => ?_)
              refine go_lv (lv2 := [(0, .ref 48), (3, .int l3), (4, .int l4), (5, .int v25), (6, .int v27), (7, .int v29)]) rfl ?_
              refine go_goto (pc := 91) (tgt := 20) (by decide) dX6_wireBlock_91 ?_
              have z31 : (v29 : Int32).toInt = (l7.toInt + 1) := e30
              exact go_lv rfl (ih l3 l4 v25 v27 v29 h22 hv22 (by omega) (by omega) (by omega) (by omega) (by omega) (by omega) (by omega) (by omega) (by omega) (by omega) fx22 (by rw [show (v29 : Int32).toInt = (l7.toInt + 1) from e30]; exact k28) (by omega))
  refine go_iload_n (pc := 0) rfl dX6_wireBlock_0 ?_
  refine go_istore (pc := 1) (Nat.le_of_ble_eq_true rfl) dX6_wireBlock_1 (go_lv (lv2 := [(0, .ref 48), (1, .int a2), (2, .int a3), (3, .int a4), (4, .int a5), (5, .int a3)]) rfl ?_)
  refine go_iload (pc := 3) rfl dX6_wireBlock_3 ?_
  refine go_bipush (pc := 5) (v := 6) (by decide) dX6_wireBlock_5 ?_
  refine gf_icmp_le (pc := 7) (tgt := 14) (ti_rfl a5) (ti_c (v := 6) (a := 6) (by decide)) (by decide) dX6_wireBlock_7 (fun q32 => ?_) (fun q32 => False.elim (by omega))
  refine go_iload_n (pc := 14) rfl dX6_wireBlock_14 ?_
  refine go_istore (pc := 15) (Nat.le_of_ble_eq_true rfl) dX6_wireBlock_15 (go_lv (lv2 := [(0, .ref 48), (1, .int a2), (2, .int a3), (3, .int a4), (4, .int a5), (5, .int a3), (6, .int a2)]) rfl ?_)
  refine go_iconst (pc := 17) (v := 0) (by decide) dX6_wireBlock_17 ?_
  refine go_istore (pc := 18) (Nat.le_of_ble_eq_true rfl) dX6_wireBlock_18 (go_lv (lv2 := [(0, .ref 48), (1, .int a2), (2, .int a3), (3, .int a4), (4, .int a5), (5, .int a3), (6, .int a2), (7, .int 0)]) rfl ?_)
  have z33 : (0 : Int32).toInt = 0 := (ti_c (v := 0) (a := 0) (by decide))
  exact go_lv rfl ((key 403) a4 a5 a3 a2 0 h hv (by omega) (by omega) (by omega) (by omega) (by omega) (by omega) (by omega) (by omega) (by omega) (by omega) fx (by rw [show (0 : Int32).toInt = 0 from (ti_c (v := 0) (a := 0) (by decide))]; exact k0) (by omega))
def f_X6_wireTry_lv0 (s : ST) (a2 : Int) (a3 : Int) (a4 : Int) (a5 : Int) : ST × Int :=
  bd (s.1 40 (a2).toNat) fun v1 => bd2 (f_X6_wireBlock_lv1 s v1 a3 a4 ((a5 + 1))) fun s5 v8 => bd (sI s5 42 (a2).toNat v8) fun s10 => if ¬ v8 = a3 then (bd (sI s10 43 (a2).toNat v8) fun s14 => bd (s14.1 39 (a2).toNat) fun v16 => bd2 (f_X6_wireBlock_lv1 s14 v16 a3 a2 ((a5 + 1))) fun s20 v23 => (s20, v23)) else (bd (sI s10 43 (a2).toNat (-2)) fun s26 => bd (s26.1 39 (a2).toNat) fun v28 => bd2 (f_X6_wireBlock_lv1 s26 v28 a3 a2 ((a5 + 1))) fun s32 v35 => (s32, v35))
set_option maxHeartbeats 4000000 in
set_option maxRecDepth 100000 in
theorem s_X6_wireTry_lv0_f (l : Launch) (d : Nat) {P : PP} {h : HP} (hv : Iv P h) (a2 : Int32) (a2l : 0 ≤ a2.toInt) (a2u : a2.toInt ≤ 127) (a3 : Int32) (a3l : 0 ≤ a3.toInt) (a3u : a3.toInt ≤ 44) (a4 : Int32) (a4l : -1 ≤ a4.toInt) (a4u : a4.toInt ≤ 127) (a5 : Int32) (a5l : 0 ≤ a5.toInt) (a5u : a5.toInt ≤ 0) : Mt l yX6_wireTry cX6_wireTry 6 (some .int) (d + 14) [.ref 48, .int a2, .int a3, .int a4, .int a5] h 0 0 (fun r h' => ∃ v : Int32, r = some (.int v) ∧ 0 ≤ v.toInt ∧ v.toInt ≤ 44 ∧ Iv P h' ∧ ((st h', v.toInt) = f_X6_wireTry_lv0 (st h) a2.toInt a3.toInt a4.toInt a5.toInt) ∧ (FX KC0 h h')) := by
  refine Mt_iv hv (by decide) (Nat.le_of_ble_eq_true rfl) ?_
  show Go l RX6 cX6_wireTry 6 (g_rm (d + 14) 0 0) "wireTry" (some .int) 117 0 0 (fun _ _ => True) (fun r h' => ∃ v : Int32, r = some (.int v) ∧ 0 ≤ v.toInt ∧ v.toInt ≤ 44 ∧ Iv P h' ∧ ((st h', v.toInt) = f_X6_wireTry_lv0 (st h) a2.toInt a3.toInt a4.toInt a5.toInt) ∧ (FX KC0 h h')) 0 0 [(0, .ref 48), (1, .int a2), (2, .int a3), (3, .int a4), (4, .int a5)] [] h
  have fx : FX KC0 h h := FX.rfl
  obtain ⟨fin, kf⟩ : ∃ z, z = f_X6_wireTry_lv0 (st h) a2.toInt a3.toInt a4.toInt a5.toInt := ⟨_, _root_.rfl⟩
  have k0 := kf
  unfold f_X6_wireTry_lv0 at k0
  refine go_aload_n (pc := 0) rfl dX6_wireTry_0 ?_
  refine go_aload_n (pc := 1) rfl dX6_wireTry_1 ?_
  refine gi_getF (pc := 2) (q := 36) hv fL_X6_9 rfl (Nat.le_of_ble_eq_true rfl) rfl (hv.rf (by decide)) dX6_wireTry_2 ?_
  refine gi_getF (pc := 5) (q := 40) hv fL_X6_50 rfl (Nat.le_of_ble_eq_true rfl) rfl (hv.rf (by decide)) dX6_wireTry_5 ?_
  refine go_iload_n (pc := 8) rfl dX6_wireTry_8 ?_
  refine gi_iald (pc := 9) (lo := -1) (hi := 127) (len := 128) hv (ti_rfl a2) rfl (by omega) (by omega) (fun _ => rfl) dX6_wireTry_9 (fun v1 v1l v1u v1w => ?_)
  have k2 := bd_e k0 (congrArg Int32.toInt v1w.symm)
  refine go_iload_n (pc := 10) rfl dX6_wireTry_10 ?_
  refine go_iload_n (pc := 11) rfl dX6_wireTry_11 ?_
  refine go_iload (pc := 12) rfl dX6_wireTry_12 ?_
  refine go_iconst (pc := 14) (v := 1) (by decide) dX6_wireTry_14 ?_
  refine gf_iadd (pc := 15) (ti_rfl a5) (ti_c (v := 1) (a := 1) (by decide)) (by omega) (by omega) dX6_wireTry_15 (fun v3 e4 => ?_)
  refine go_invV (pc := 16) (sl := 0) (s_X6_wireBlock_lv1_f l (d + 0) hv v1 (by rw [show (v1 : Int32).toInt = v1.toInt from (ti_rfl v1)]; omega) (by rw [show (v1 : Int32).toInt = v1.toInt from (ti_rfl v1)]; omega) a3 (by rw [show (a3 : Int32).toInt = a3.toInt from (ti_rfl a3)]; omega) (by rw [show (a3 : Int32).toInt = a3.toInt from (ti_rfl a3)]; omega) a4 (by rw [show (a4 : Int32).toInt = a4.toInt from (ti_rfl a4)]; omega) (by rw [show (a4 : Int32).toInt = a4.toInt from (ti_rfl a4)]; omega) v3 (by rw [show (v3 : Int32).toInt = (a5.toInt + 1) from e4]; omega) (by rw [show (v3 : Int32).toInt = (a5.toInt + 1) from e4]; omega)) mL_X6_34 iM_X6_wireBlock sM_X6_wireBlock (hv.sh rfl) rfl rfl rfl (Nat.le_of_ble_eq_true rfl) (show d + 0 + 13 + 1 ≤ d + 14 by omega) (show 8 + (8 + 11) + 40 * (d + 0 + 13) ≤ 40 * (d + 14) by omega) (g_c0 hv.ln) (Nat.le_of_ble_eq_true rfl) dX6_wireTry_16 ?_
  intro r h5 hq _
  obtain ⟨v8, rfl, v8l, v8u, hv5, f6, f7⟩ := hq
  try rw [show (v3 : Int32).toInt = (a5.toInt + 1) from e4] at f6
  try rw [show (v3 : Int32).toInt = (a5.toInt + 1) from e4] at f7
  have fx5 : FX KC0 h h5 := FX.tr fx f7
  have k9 := bd2_e k2 f6
  refine go_istore (pc := 19) (Nat.le_of_ble_eq_true rfl) dX6_wireTry_19 (go_lv (lv2 := [(0, .ref 48), (1, .int a2), (2, .int a3), (3, .int a4), (4, .int a5), (5, .int v8)]) rfl ?_)
  refine go_aload_n (pc := 21) rfl dX6_wireTry_21 ?_
  refine gi_getF (pc := 22) (q := 36) hv5 fL_X6_9 rfl (Nat.le_of_ble_eq_true rfl) rfl (hv5.rf (by decide)) dX6_wireTry_22 ?_
  refine gi_getF (pc := 25) (q := 42) hv5 fL_X6_53 rfl (Nat.le_of_ble_eq_true rfl) rfl (hv5.rf (by decide)) dX6_wireTry_25 ?_
  refine go_iload_n (pc := 28) rfl dX6_wireTry_28 ?_
  refine go_iload (pc := 29) rfl dX6_wireTry_29 ?_
  refine gi_iast (pc := 31) (lo := 0) (hi := 44) (len := 128) hv5 (ti_rfl a2) (ti_rfl v8) rfl (by omega) (by omega) (fun _ => rfl) (by omega) (by omega) (by decide) dX6_wireTry_31 (fun h10 hv10 hv10e => ?_)
  have fx10 : FX KC0 h h10 := FX.pI fx5 hv10e (by unfold KC0; omega)
  have k11 := bd_e k9 (st_I hv10e (ti_rfl v8))
  refine go_aload_n (pc := 32) rfl dX6_wireTry_32 ?_
  refine gi_getF (pc := 33) (q := 36) hv10 fL_X6_9 rfl (Nat.le_of_ble_eq_true rfl) rfl (hv10.rf (by decide)) dX6_wireTry_33 ?_
  refine gi_getF (pc := 36) (q := 43) hv10 fL_X6_56 rfl (Nat.le_of_ble_eq_true rfl) rfl (hv10.rf (by decide)) dX6_wireTry_36 ?_
  refine go_iload_n (pc := 39) rfl dX6_wireTry_39 ?_
  refine go_iload (pc := 40) rfl dX6_wireTry_40 ?_
  refine go_iload_n (pc := 42) rfl dX6_wireTry_42 ?_
  refine gf_icmp_ne (pc := 43) (tgt := 51) (ti_rfl v8) (ti_rfl a3) (by decide) dX6_wireTry_43 (fun q12 => ?_) (fun q12 => ?_)
  ·
    have k13 := if_t k11 q12
    refine go_iload (pc := 51) rfl dX6_wireTry_51 ?_
    refine gi_iast (pc := 53) (lo := -2) (hi := 44) (len := 128) hv10 (ti_rfl a2) (ti_rfl v8) rfl (by omega) (by omega) (fun _ => rfl) (by omega) (by omega) (by decide) dX6_wireTry_53 (fun h14 hv14 hv14e => ?_)
    have fx14 : FX KC0 h h14 := FX.pI fx10 hv14e (by unfold KC0; omega)
    have k15 := bd_e k13 (st_I hv14e (ti_rfl v8))
    refine go_aload_n (pc := 54) rfl dX6_wireTry_54 ?_
    refine go_aload_n (pc := 55) rfl dX6_wireTry_55 ?_
    refine gi_getF (pc := 56) (q := 36) hv14 fL_X6_9 rfl (Nat.le_of_ble_eq_true rfl) rfl (hv14.rf (by decide)) dX6_wireTry_56 ?_
    refine gi_getF (pc := 59) (q := 39) hv14 fL_X6_59 rfl (Nat.le_of_ble_eq_true rfl) rfl (hv14.rf (by decide)) dX6_wireTry_59 ?_
    refine go_iload_n (pc := 62) rfl dX6_wireTry_62 ?_
    refine gi_iald (pc := 63) (lo := -1) (hi := 127) (len := 128) hv14 (ti_rfl a2) rfl (by omega) (by omega) (fun _ => rfl) dX6_wireTry_63 (fun v16 v16l v16u v16w => ?_)
    have k17 := bd_e k15 (congrArg Int32.toInt v16w.symm)
    refine go_iload_n (pc := 64) rfl dX6_wireTry_64 ?_
    refine go_iload_n (pc := 65) rfl dX6_wireTry_65 ?_
    refine go_iload (pc := 66) rfl dX6_wireTry_66 ?_
    refine go_iconst (pc := 68) (v := 1) (by decide) dX6_wireTry_68 ?_
    refine gf_iadd (pc := 69) (ti_rfl a5) (ti_c (v := 1) (a := 1) (by decide)) (by omega) (by omega) dX6_wireTry_69 (fun v18 e19 => ?_)
    refine go_invV (pc := 70) (sl := 0) (s_X6_wireBlock_lv1_f l (d + 0) hv14 v16 (by rw [show (v16 : Int32).toInt = v16.toInt from (ti_rfl v16)]; omega) (by rw [show (v16 : Int32).toInt = v16.toInt from (ti_rfl v16)]; omega) a3 (by rw [show (a3 : Int32).toInt = a3.toInt from (ti_rfl a3)]; omega) (by rw [show (a3 : Int32).toInt = a3.toInt from (ti_rfl a3)]; omega) a2 (by rw [show (a2 : Int32).toInt = a2.toInt from (ti_rfl a2)]; omega) (by rw [show (a2 : Int32).toInt = a2.toInt from (ti_rfl a2)]; omega) v18 (by rw [show (v18 : Int32).toInt = (a5.toInt + 1) from e19]; omega) (by rw [show (v18 : Int32).toInt = (a5.toInt + 1) from e19]; omega)) mL_X6_34 iM_X6_wireBlock sM_X6_wireBlock (hv14.sh rfl) rfl rfl rfl (Nat.le_of_ble_eq_true rfl) (show d + 0 + 13 + 1 ≤ d + 14 by omega) (show 8 + (8 + 11) + 40 * (d + 0 + 13) ≤ 40 * (d + 14) by omega) (g_c0 hv14.ln) (Nat.le_of_ble_eq_true rfl) dX6_wireTry_70 ?_
    intro r h20 hq _
    obtain ⟨v23, rfl, v23l, v23u, hv20, f21, f22⟩ := hq
    try rw [show (v18 : Int32).toInt = (a5.toInt + 1) from e19] at f21
    try rw [show (v18 : Int32).toInt = (a5.toInt + 1) from e19] at f22
    have fx20 : FX KC0 h h20 := FX.tr fx14 f22
    have k24 := bd2_e k17 f21
    exact gi_iret (pc := 73) (ti_rfl v23) ⟨_, rfl, (by rw [show (v23 : Int32).toInt = v23.toInt from (ti_rfl v23)]; omega), (by rw [show (v23 : Int32).toInt = v23.toInt from (ti_rfl v23)]; omega), hv20, (k24.symm.trans kf), fx20⟩ hv20 dX6_wireTry_73
  ·
    have k25 := if_f k11 (fun z => z q12)
    refine go_bipush (pc := 46) (v := (-2)) (by decide) dX6_wireTry_46 ?_
    refine go_goto (pc := 48) (tgt := 53) (by decide) dX6_wireTry_48 ?_
    refine gi_iast (pc := 53) (lo := -2) (hi := 44) (len := 128) hv10 (ti_rfl a2) (ti_c (v := (-2)) (a := (-2)) (by decide)) rfl (by omega) (by omega) (fun _ => rfl) (by omega) (by omega) (by decide) dX6_wireTry_53 (fun h26 hv26 hv26e => ?_)
    have fx26 : FX KC0 h h26 := FX.pI fx10 hv26e (by unfold KC0; omega)
    have k27 := bd_e k25 (st_I hv26e (ti_c (v := (-2)) (a := (-2)) (by decide)))
    refine go_aload_n (pc := 54) rfl dX6_wireTry_54 ?_
    refine go_aload_n (pc := 55) rfl dX6_wireTry_55 ?_
    refine gi_getF (pc := 56) (q := 36) hv26 fL_X6_9 rfl (Nat.le_of_ble_eq_true rfl) rfl (hv26.rf (by decide)) dX6_wireTry_56 ?_
    refine gi_getF (pc := 59) (q := 39) hv26 fL_X6_59 rfl (Nat.le_of_ble_eq_true rfl) rfl (hv26.rf (by decide)) dX6_wireTry_59 ?_
    refine go_iload_n (pc := 62) rfl dX6_wireTry_62 ?_
    refine gi_iald (pc := 63) (lo := -1) (hi := 127) (len := 128) hv26 (ti_rfl a2) rfl (by omega) (by omega) (fun _ => rfl) dX6_wireTry_63 (fun v28 v28l v28u v28w => ?_)
    have k29 := bd_e k27 (congrArg Int32.toInt v28w.symm)
    refine go_iload_n (pc := 64) rfl dX6_wireTry_64 ?_
    refine go_iload_n (pc := 65) rfl dX6_wireTry_65 ?_
    refine go_iload (pc := 66) rfl dX6_wireTry_66 ?_
    refine go_iconst (pc := 68) (v := 1) (by decide) dX6_wireTry_68 ?_
    refine gf_iadd (pc := 69) (ti_rfl a5) (ti_c (v := 1) (a := 1) (by decide)) (by omega) (by omega) dX6_wireTry_69 (fun v30 e31 => ?_)
    refine go_invV (pc := 70) (sl := 0) (s_X6_wireBlock_lv1_f l (d + 0) hv26 v28 (by rw [show (v28 : Int32).toInt = v28.toInt from (ti_rfl v28)]; omega) (by rw [show (v28 : Int32).toInt = v28.toInt from (ti_rfl v28)]; omega) a3 (by rw [show (a3 : Int32).toInt = a3.toInt from (ti_rfl a3)]; omega) (by rw [show (a3 : Int32).toInt = a3.toInt from (ti_rfl a3)]; omega) a2 (by rw [show (a2 : Int32).toInt = a2.toInt from (ti_rfl a2)]; omega) (by rw [show (a2 : Int32).toInt = a2.toInt from (ti_rfl a2)]; omega) v30 (by rw [show (v30 : Int32).toInt = (a5.toInt + 1) from e31]; omega) (by rw [show (v30 : Int32).toInt = (a5.toInt + 1) from e31]; omega)) mL_X6_34 iM_X6_wireBlock sM_X6_wireBlock (hv26.sh rfl) rfl rfl rfl (Nat.le_of_ble_eq_true rfl) (show d + 0 + 13 + 1 ≤ d + 14 by omega) (show 8 + (8 + 11) + 40 * (d + 0 + 13) ≤ 40 * (d + 14) by omega) (g_c0 hv26.ln) (Nat.le_of_ble_eq_true rfl) dX6_wireTry_70 ?_
    intro r h32 hq _
    obtain ⟨v35, rfl, v35l, v35u, hv32, f33, f34⟩ := hq
    try rw [show (v30 : Int32).toInt = (a5.toInt + 1) from e31] at f33
    try rw [show (v30 : Int32).toInt = (a5.toInt + 1) from e31] at f34
    have fx32 : FX KC0 h h32 := FX.tr fx26 f34
    have k36 := bd2_e k29 f33
    exact gi_iret (pc := 73) (ti_rfl v35) ⟨_, rfl, (by rw [show (v35 : Int32).toInt = v35.toInt from (ti_rfl v35)]; omega), (by rw [show (v35 : Int32).toInt = v35.toInt from (ti_rfl v35)]; omega), hv32, (k36.symm.trans kf), fx32⟩ hv32 dX6_wireTry_73
def f_X6_wireStatement_lv0 (s : ST) (a2 : Int) (a3 : Int) (a4 : Int) (a5 : Int) : ST × Int :=
  bd (s.1 37 (a2).toNat) fun v1 => bd (s.2.2 48 1) fun c3 => bd (s.1 (c3 + 3) (v1).toNat) fun v5 => bd (s.2.2 48 1) fun c9 => bd (sI s (c9 + 11) (v1).toNat a3) fun s11 => bd (s11.2.2 48 1) fun c13 => bd (sI s11 (c13 + 12) (v1).toNat a3) fun s15 => bd (s15.2.2 48 1) fun c17 => if 0 ≤ a4 then (bd (s15.1 42 (a4).toNat) fun v21 => bd (sI s15 (c17 + 13) (v1).toNat v21) fun s23 => bd (s23.2.2 48 1) fun c25 => bd (s23.1 41 (a4).toNat) fun v28 => bd (sI s23 (c25 + 14) (v1).toNat v28) fun s30 => bd (s30.2.2 48 1) fun c32 => bd (s30.1 43 (a4).toNat) fun v35 => bd (sI s30 (c32 + 15) (v1).toNat v35) fun s37 => bd (s37.2.2 48 1) fun c39 => bd (s37.1 (c39 + 2) (v1).toNat) fun v41 => if ¬ v41 = 5 then (bd (s37.2.2 48 1) fun c45 => bd (s37.1 (c45 + 2) (v1).toNat) fun v47 => if ¬ v47 = 3 then (bd (s37.2.2 48 1) fun c51 => bd (s37.1 (c51 + 2) (v1).toNat) fun v53 => if ¬ v53 = 2 then ((s37, v1)) else (bd (s37.2.2 48 1) fun c58 => bd (s37.1 39 (a2).toNat) fun v60 => bd2 (f_X6_wireBlock_lv1 s37 v60 a3 a4 ((a5 + 1))) fun s64 v67 => bd (sI s64 (c58 + 13) (v1).toNat v67) fun s69 => bd (s69.2.2 48 1) fun c71 => bd (s69.1 40 (a2).toNat) fun v73 => bd2 (f_X6_wireBlock_lv1 s69 v73 a3 a4 ((a5 + 1))) fun s77 v80 => bd (sI s77 (c71 + 12) (v1).toNat v80) fun s82 => (s82, v1))) else (bd (s37.2.2 48 1) fun c85 => bd (s37.1 39 (a2).toNat) fun v87 => bd2 (f_X6_wireBlock_lv1 s37 v87 v1 a4 ((a5 + 1))) fun s91 v94 => bd (sI s91 (c85 + 13) (v1).toNat v94) fun s96 => (s96, v1))) else (bd (s37.2.2 48 1) fun c99 => bd (sI s37 (c99 + 13) (v1).toNat ((40 + v5))) fun s101 => (s101, v1))) else (bd (sI s15 (c17 + 13) (v1).toNat ((40 + v5))) fun s104 => bd (s104.2.2 48 1) fun c106 => bd (sI s104 (c106 + 14) (v1).toNat (-1)) fun s109 => bd (s109.2.2 48 1) fun c111 => bd (sI s109 (c111 + 15) (v1).toNat (-2)) fun s114 => bd (s114.2.2 48 1) fun c116 => bd (s114.1 (c116 + 2) (v1).toNat) fun v118 => if ¬ v118 = 5 then (bd (s114.2.2 48 1) fun c122 => bd (s114.1 (c122 + 2) (v1).toNat) fun v124 => if ¬ v124 = 3 then (bd (s114.2.2 48 1) fun c128 => bd (s114.1 (c128 + 2) (v1).toNat) fun v130 => if ¬ v130 = 2 then ((s114, v1)) else (bd (s114.2.2 48 1) fun c135 => bd (s114.1 39 (a2).toNat) fun v137 => bd2 (f_X6_wireBlock_lv1 s114 v137 a3 a4 ((a5 + 1))) fun s141 v144 => bd (sI s141 (c135 + 13) (v1).toNat v144) fun s146 => bd (s146.2.2 48 1) fun c148 => bd (s146.1 40 (a2).toNat) fun v150 => bd2 (f_X6_wireBlock_lv1 s146 v150 a3 a4 ((a5 + 1))) fun s154 v157 => bd (sI s154 (c148 + 12) (v1).toNat v157) fun s159 => (s159, v1))) else (bd (s114.2.2 48 1) fun c162 => bd (s114.1 39 (a2).toNat) fun v164 => bd2 (f_X6_wireBlock_lv1 s114 v164 v1 a4 ((a5 + 1))) fun s168 v171 => bd (sI s168 (c162 + 13) (v1).toNat v171) fun s173 => (s173, v1))) else (bd (s114.2.2 48 1) fun c176 => bd (sI s114 (c176 + 13) (v1).toNat ((40 + v5))) fun s178 => (s178, v1)))
set_option maxHeartbeats 4000000 in
set_option maxRecDepth 100000 in
theorem s_X6_wireStatement_lv0_f (l : Launch) (d : Nat) {P : PP} {h : HP} (hv : Iv P h) (a2 : Int32) (a2l : 0 ≤ a2.toInt) (a2u : a2.toInt ≤ 127) (a3 : Int32) (a3l : 0 ≤ a3.toInt) (a3u : a3.toInt ≤ 44) (a4 : Int32) (a4l : -1 ≤ a4.toInt) (a4u : a4.toInt ≤ 127) (a5 : Int32) (a5l : 0 ≤ a5.toInt) (a5u : a5.toInt ≤ 0) (hp : 0 ≤ (h.2.1 37 a2.toInt.toNat).toInt) : Mt l yX6_wireStatement cX6_wireStatement 7 (some .int) (d + 14) [.ref 48, .int a2, .int a3, .int a4, .int a5] h 0 0 (fun r h' => ∃ v : Int32, r = some (.int v) ∧ 0 ≤ v.toInt ∧ v.toInt ≤ 44 ∧ Iv P h' ∧ ((st h', v.toInt) = f_X6_wireStatement_lv0 (st h) a2.toInt a3.toInt a4.toInt a5.toInt) ∧ (FX KC0 h h')) := by
  refine Mt_iv hv (by decide) (Nat.le_of_ble_eq_true rfl) ?_
  show Go l RX6 cX6_wireStatement 7 (g_rm (d + 14) 0 0) "wireStatement" (some .int) 117 0 0 (fun _ _ => True) (fun r h' => ∃ v : Int32, r = some (.int v) ∧ 0 ≤ v.toInt ∧ v.toInt ≤ 44 ∧ Iv P h' ∧ ((st h', v.toInt) = f_X6_wireStatement_lv0 (st h) a2.toInt a3.toInt a4.toInt a5.toInt) ∧ (FX KC0 h h')) 0 0 [(0, .ref 48), (1, .int a2), (2, .int a3), (3, .int a4), (4, .int a5)] [] h
  have fx : FX KC0 h h := FX.rfl
  obtain ⟨fin, kf⟩ : ∃ z, z = f_X6_wireStatement_lv0 (st h) a2.toInt a3.toInt a4.toInt a5.toInt := ⟨_, _root_.rfl⟩
  have k0 := kf
  unfold f_X6_wireStatement_lv0 at k0
  refine go_aload_n (pc := 0) rfl dX6_wireStatement_0 ?_
  refine gi_getF (pc := 1) (q := 36) hv fL_X6_9 rfl (Nat.le_of_ble_eq_true rfl) rfl (hv.rf (by decide)) dX6_wireStatement_1 ?_
  refine gi_getF (pc := 4) (q := 37) hv fL_X6_38 rfl (Nat.le_of_ble_eq_true rfl) rfl (hv.rf (by decide)) dX6_wireStatement_4 ?_
  refine go_iload_n (pc := 7) rfl dX6_wireStatement_7 ?_
  refine gi_iald (pc := 8) (lo := -1) (hi := 39) (len := 128) hv (ti_rfl a2) rfl (by omega) (by omega) (fun _ => rfl) dX6_wireStatement_8 (fun v1 v1l v1u v1w => ?_)
  have k2 := bd_e k0 (congrArg Int32.toInt v1w.symm)
  have kk : 0 ≤ v1.toInt := by rw [v1w]; exact hp
  refine go_istore (pc := 9) (Nat.le_of_ble_eq_true rfl) dX6_wireStatement_9 (go_lv (lv2 := [(0, .ref 48), (1, .int a2), (2, .int a3), (3, .int a4), (4, .int a5), (5, .int v1)]) rfl ?_)
  refine go_bipush (pc := 11) (v := 40) (by decide) dX6_wireStatement_11 ?_
  refine go_aload_n (pc := 13) rfl dX6_wireStatement_13 ?_
  refine gi_getC (pc := 14) hv fL_X6_15 rfl (Nat.le_of_ble_eq_true rfl) rfl (by decide) dX6_wireStatement_14 (fun c3 hc3 fc3 => ?_)
  have k4 := bd_e k2 (st_c fc3)
  refine gi_getF (pc := 17) (q := c3 + 3) hv fL_X6_62 (by rcases hc3 with rfl | rfl <;> rfl) (Nat.le_of_ble_eq_true rfl) rfl (by rcases hc3 with rfl | rfl <;> exact hv.rf (by decide)) dX6_wireStatement_17 ?_
  refine go_iload (pc := 20) rfl dX6_wireStatement_20 ?_
  refine gi_iald (pc := 22) (lo := -1) (hi := 4) (len := 40) hv (ti_rfl v1) (by rcases hc3 with rfl | rfl <;> rfl) (by omega) (by omega) (fun _ => by rcases hc3 with rfl | rfl <;> rfl) dX6_wireStatement_22 (fun v5 v5l v5u v5w => ?_)
  have k6 := bd_e k4 (congrArg Int32.toInt v5w.symm)
  refine gf_iadd (pc := 23) (ti_c (v := 40) (a := 40) (by decide)) (ti_rfl v5) (by omega) (by omega) dX6_wireStatement_23 (fun v7 e8 => ?_)
  refine go_istore (pc := 24) (Nat.le_of_ble_eq_true rfl) dX6_wireStatement_24 (go_lv (lv2 := [(0, .ref 48), (1, .int a2), (2, .int a3), (3, .int a4), (4, .int a5), (5, .int v1), (6, .int v7)]) rfl ?_)
  refine go_aload_n (pc := 26) rfl dX6_wireStatement_26 ?_
  refine gi_getC (pc := 27) hv fL_X6_15 rfl (Nat.le_of_ble_eq_true rfl) rfl (by decide) dX6_wireStatement_27 (fun c9 hc9 fc9 => ?_)
  have k10 := bd_e k6 (st_c fc9)
  refine gi_getF (pc := 30) (q := c9 + 11) hv fL_X6_65 (by rcases hc9 with rfl | rfl <;> rfl) (Nat.le_of_ble_eq_true rfl) rfl (by rcases hc9 with rfl | rfl <;> exact hv.rf (by decide)) dX6_wireStatement_30 ?_
  refine go_iload (pc := 33) rfl dX6_wireStatement_33 ?_
  refine go_iload_n (pc := 35) rfl dX6_wireStatement_35 ?_
  refine gi_iast (pc := 36) (lo := 0) (hi := 44) (len := 40) hv (ti_rfl v1) (ti_rfl a3) (by rcases hc9 with rfl | rfl <;> rfl) (by omega) (by omega) (fun _ => by rcases hc9 with rfl | rfl <;> rfl) (by omega) (by omega) (by rcases hc9 with rfl | rfl <;> decide) dX6_wireStatement_36 (fun h11 hv11 hv11e => ?_)
  have fx11 : FX KC0 h h11 := FX.pI fx hv11e (by unfold KC0; omega)
  have k12 := bd_e k10 (st_I hv11e (ti_rfl a3))
  refine go_aload_n (pc := 37) rfl dX6_wireStatement_37 ?_
  refine gi_getC (pc := 38) hv11 fL_X6_15 rfl (Nat.le_of_ble_eq_true rfl) rfl (by decide) dX6_wireStatement_38 (fun c13 hc13 fc13 => ?_)
  have k14 := bd_e k12 (st_c fc13)
  refine gi_getF (pc := 41) (q := c13 + 12) hv11 fL_X6_68 (by rcases hc13 with rfl | rfl <;> rfl) (Nat.le_of_ble_eq_true rfl) rfl (by rcases hc13 with rfl | rfl <;> exact hv11.rf (by decide)) dX6_wireStatement_41 ?_
  refine go_iload (pc := 44) rfl dX6_wireStatement_44 ?_
  refine go_iload_n (pc := 46) rfl dX6_wireStatement_46 ?_
  refine gi_iast (pc := 47) (lo := 0) (hi := 44) (len := 40) hv11 (ti_rfl v1) (ti_rfl a3) (by rcases hc13 with rfl | rfl <;> rfl) (by omega) (by omega) (fun _ => by rcases hc13 with rfl | rfl <;> rfl) (by omega) (by omega) (by rcases hc13 with rfl | rfl <;> decide) dX6_wireStatement_47 (fun h15 hv15 hv15e => ?_)
  have fx15 : FX KC0 h h15 := FX.pI fx11 hv15e (by unfold KC0; omega)
  have k16 := bd_e k14 (st_I hv15e (ti_rfl a3))
  refine go_aload_n (pc := 48) rfl dX6_wireStatement_48 ?_
  refine gi_getC (pc := 49) hv15 fL_X6_15 rfl (Nat.le_of_ble_eq_true rfl) rfl (by decide) dX6_wireStatement_49 (fun c17 hc17 fc17 => ?_)
  have k18 := bd_e k16 (st_c fc17)
  refine gi_getF (pc := 52) (q := c17 + 13) hv15 fL_X6_71 (by rcases hc17 with rfl | rfl <;> rfl) (Nat.le_of_ble_eq_true rfl) rfl (by rcases hc17 with rfl | rfl <;> exact hv15.rf (by decide)) dX6_wireStatement_52 ?_
  refine go_iload (pc := 55) rfl dX6_wireStatement_55 ?_
  refine go_iload_n (pc := 57) rfl dX6_wireStatement_57 ?_
  refine gf_if_ge (pc := 58) (tgt := 66) (ti_rfl a4) (by decide) dX6_wireStatement_58 (fun q19 => ?_) (fun q19 => ?_)
  ·
    have k20 := if_t k18 q19
    refine go_aload_n (pc := 66) rfl dX6_wireStatement_66 ?_
    refine gi_getF (pc := 67) (q := 36) hv15 fL_X6_9 rfl (Nat.le_of_ble_eq_true rfl) rfl (hv15.rf (by decide)) dX6_wireStatement_67 ?_
    refine gi_getF (pc := 70) (q := 42) hv15 fL_X6_53 rfl (Nat.le_of_ble_eq_true rfl) rfl (hv15.rf (by decide)) dX6_wireStatement_70 ?_
    refine go_iload_n (pc := 73) rfl dX6_wireStatement_73 ?_
    refine gi_iald (pc := 74) (lo := 0) (hi := 44) (len := 128) hv15 (ti_rfl a4) rfl (by omega) (by omega) (fun _ => rfl) dX6_wireStatement_74 (fun v21 v21l v21u v21w => ?_)
    have k22 := bd_e k20 (congrArg Int32.toInt v21w.symm)
    refine gi_iast (pc := 75) (lo := 0) (hi := 44) (len := 40) hv15 (ti_rfl v1) (ti_rfl v21) (by rcases hc17 with rfl | rfl <;> rfl) (by omega) (by omega) (fun _ => by rcases hc17 with rfl | rfl <;> rfl) (by omega) (by omega) (by rcases hc17 with rfl | rfl <;> decide) dX6_wireStatement_75 (fun h23 hv23 hv23e => ?_)
    have fx23 : FX KC0 h h23 := FX.pI fx15 hv23e (by unfold KC0; omega)
    have k24 := bd_e k22 (st_I hv23e (ti_rfl v21))
    refine go_aload_n (pc := 76) rfl dX6_wireStatement_76 ?_
    refine gi_getC (pc := 77) hv23 fL_X6_15 rfl (Nat.le_of_ble_eq_true rfl) rfl (by decide) dX6_wireStatement_77 (fun c25 hc25 fc25 => ?_)
    have k26 := bd_e k24 (st_c fc25)
    refine gi_getF (pc := 80) (q := c25 + 14) hv23 fL_X6_74 (by rcases hc25 with rfl | rfl <;> rfl) (Nat.le_of_ble_eq_true rfl) rfl (by rcases hc25 with rfl | rfl <;> exact hv23.rf (by decide)) dX6_wireStatement_80 ?_
    refine go_iload (pc := 83) rfl dX6_wireStatement_83 ?_
    refine go_iload_n (pc := 85) rfl dX6_wireStatement_85 ?_
    refine gf_if_ge (pc := 86) (tgt := 93) (ti_rfl a4) (by decide) dX6_wireStatement_86 (fun q27 => ?_) (fun q27 => False.elim (by omega))
    refine go_aload_n (pc := 93) rfl dX6_wireStatement_93 ?_
    refine gi_getF (pc := 94) (q := 36) hv23 fL_X6_9 rfl (Nat.le_of_ble_eq_true rfl) rfl (hv23.rf (by decide)) dX6_wireStatement_94 ?_
    refine gi_getF (pc := 97) (q := 41) hv23 fL_X6_77 rfl (Nat.le_of_ble_eq_true rfl) rfl (hv23.rf (by decide)) dX6_wireStatement_97 ?_
    refine go_iload_n (pc := 100) rfl dX6_wireStatement_100 ?_
    refine gi_iald (pc := 101) (lo := -1) (hi := 5) (len := 128) hv23 (ti_rfl a4) rfl (by omega) (by omega) (fun _ => rfl) dX6_wireStatement_101 (fun v28 v28l v28u v28w => ?_)
    have k29 := bd_e k26 (congrArg Int32.toInt v28w.symm)
    refine gi_iast (pc := 102) (lo := -1) (hi := 5) (len := 40) hv23 (ti_rfl v1) (ti_rfl v28) (by rcases hc25 with rfl | rfl <;> rfl) (by omega) (by omega) (fun _ => by rcases hc25 with rfl | rfl <;> rfl) (by omega) (by omega) (by rcases hc25 with rfl | rfl <;> decide) dX6_wireStatement_102 (fun h30 hv30 hv30e => ?_)
    have fx30 : FX KC0 h h30 := FX.pI fx23 hv30e (by unfold KC0; omega)
    have k31 := bd_e k29 (st_I hv30e (ti_rfl v28))
    refine go_aload_n (pc := 103) rfl dX6_wireStatement_103 ?_
    refine gi_getC (pc := 104) hv30 fL_X6_15 rfl (Nat.le_of_ble_eq_true rfl) rfl (by decide) dX6_wireStatement_104 (fun c32 hc32 fc32 => ?_)
    have k33 := bd_e k31 (st_c fc32)
    refine gi_getF (pc := 107) (q := c32 + 15) hv30 fL_X6_80 (by rcases hc32 with rfl | rfl <;> rfl) (Nat.le_of_ble_eq_true rfl) rfl (by rcases hc32 with rfl | rfl <;> exact hv30.rf (by decide)) dX6_wireStatement_107 ?_
    refine go_iload (pc := 110) rfl dX6_wireStatement_110 ?_
    refine go_iload_n (pc := 112) rfl dX6_wireStatement_112 ?_
    refine gf_if_ge (pc := 113) (tgt := 121) (ti_rfl a4) (by decide) dX6_wireStatement_113 (fun q34 => ?_) (fun q34 => False.elim (by omega))
    refine go_aload_n (pc := 121) rfl dX6_wireStatement_121 ?_
    refine gi_getF (pc := 122) (q := 36) hv30 fL_X6_9 rfl (Nat.le_of_ble_eq_true rfl) rfl (hv30.rf (by decide)) dX6_wireStatement_122 ?_
    refine gi_getF (pc := 125) (q := 43) hv30 fL_X6_56 rfl (Nat.le_of_ble_eq_true rfl) rfl (hv30.rf (by decide)) dX6_wireStatement_125 ?_
    refine go_iload_n (pc := 128) rfl dX6_wireStatement_128 ?_
    refine gi_iald (pc := 129) (lo := -2) (hi := 44) (len := 128) hv30 (ti_rfl a4) rfl (by omega) (by omega) (fun _ => rfl) dX6_wireStatement_129 (fun v35 v35l v35u v35w => ?_)
    have k36 := bd_e k33 (congrArg Int32.toInt v35w.symm)
    refine gi_iast (pc := 130) (lo := -2) (hi := 44) (len := 40) hv30 (ti_rfl v1) (ti_rfl v35) (by rcases hc32 with rfl | rfl <;> rfl) (by omega) (by omega) (fun _ => by rcases hc32 with rfl | rfl <;> rfl) (by omega) (by omega) (by rcases hc32 with rfl | rfl <;> decide) dX6_wireStatement_130 (fun h37 hv37 hv37e => ?_)
    have fx37 : FX KC0 h h37 := FX.pI fx30 hv37e (by unfold KC0; omega)
    have k38 := bd_e k36 (st_I hv37e (ti_rfl v35))
    refine go_aload_n (pc := 131) rfl dX6_wireStatement_131 ?_
    refine gi_getC (pc := 132) hv37 fL_X6_15 rfl (Nat.le_of_ble_eq_true rfl) rfl (by decide) dX6_wireStatement_132 (fun c39 hc39 fc39 => ?_)
    have k40 := bd_e k38 (st_c fc39)
    refine gi_getF (pc := 135) (q := c39 + 2) hv37 fL_X6_81 (by rcases hc39 with rfl | rfl <;> rfl) (Nat.le_of_ble_eq_true rfl) rfl (by rcases hc39 with rfl | rfl <;> exact hv37.rf (by decide)) dX6_wireStatement_135 ?_
    refine go_iload (pc := 138) rfl dX6_wireStatement_138 ?_
    refine gi_iald (pc := 140) (lo := 0) (hi := 5) (len := 40) hv37 (ti_rfl v1) (by rcases hc39 with rfl | rfl <;> rfl) (by omega) (by omega) (fun _ => by rcases hc39 with rfl | rfl <;> rfl) dX6_wireStatement_140 (fun v41 v41l v41u v41w => ?_)
    have k42 := bd_e k40 (congrArg Int32.toInt v41w.symm)
    refine go_iconst (pc := 141) (v := 5) (by decide) dX6_wireStatement_141 ?_
    refine gf_icmp_ne (pc := 142) (tgt := 160) (ti_rfl v41) (ti_c (v := 5) (a := 5) (by decide)) (by decide) dX6_wireStatement_142 (fun q43 => ?_) (fun q43 => ?_)
    ·
      have k44 := if_t k42 q43
      refine go_aload_n (pc := 160) rfl dX6_wireStatement_160 ?_
      refine gi_getC (pc := 161) hv37 fL_X6_15 rfl (Nat.le_of_ble_eq_true rfl) rfl (by decide) dX6_wireStatement_161 (fun c45 hc45 fc45 => ?_)
      have k46 := bd_e k44 (st_c fc45)
      refine gi_getF (pc := 164) (q := c45 + 2) hv37 fL_X6_81 (by rcases hc45 with rfl | rfl <;> rfl) (Nat.le_of_ble_eq_true rfl) rfl (by rcases hc45 with rfl | rfl <;> exact hv37.rf (by decide)) dX6_wireStatement_164 ?_
      refine go_iload (pc := 167) rfl dX6_wireStatement_167 ?_
      refine gi_iald (pc := 169) (lo := 0) (hi := 5) (len := 40) hv37 (ti_rfl v1) (by rcases hc45 with rfl | rfl <;> rfl) (by omega) (by omega) (fun _ => by rcases hc45 with rfl | rfl <;> rfl) dX6_wireStatement_169 (fun v47 v47l v47u v47w => ?_)
      have k48 := bd_e k46 (congrArg Int32.toInt v47w.symm)
      refine go_iconst (pc := 170) (v := 3) (by decide) dX6_wireStatement_170 ?_
      refine gf_icmp_ne (pc := 171) (tgt := 207) (ti_rfl v47) (ti_c (v := 3) (a := 3) (by decide)) (by decide) dX6_wireStatement_171 (fun q49 => ?_) (fun q49 => ?_)
      ·
        have k50 := if_t k48 q49
        refine go_aload_n (pc := 207) rfl dX6_wireStatement_207 ?_
        refine gi_getC (pc := 208) hv37 fL_X6_15 rfl (Nat.le_of_ble_eq_true rfl) rfl (by decide) dX6_wireStatement_208 (fun c51 hc51 fc51 => ?_)
        have k52 := bd_e k50 (st_c fc51)
        refine gi_getF (pc := 211) (q := c51 + 2) hv37 fL_X6_81 (by rcases hc51 with rfl | rfl <;> rfl) (Nat.le_of_ble_eq_true rfl) rfl (by rcases hc51 with rfl | rfl <;> exact hv37.rf (by decide)) dX6_wireStatement_211 ?_
        refine go_iload (pc := 214) rfl dX6_wireStatement_214 ?_
        refine gi_iald (pc := 216) (lo := 0) (hi := 5) (len := 40) hv37 (ti_rfl v1) (by rcases hc51 with rfl | rfl <;> rfl) (by omega) (by omega) (fun _ => by rcases hc51 with rfl | rfl <;> rfl) dX6_wireStatement_216 (fun v53 v53l v53u v53w => ?_)
        have k54 := bd_e k52 (congrArg Int32.toInt v53w.symm)
        refine go_iconst (pc := 217) (v := 2) (by decide) dX6_wireStatement_217 ?_
        refine gf_icmp_ne (pc := 218) (tgt := 279) (ti_rfl v53) (ti_c (v := 2) (a := 2) (by decide)) (by decide) dX6_wireStatement_218 (fun q55 => ?_) (fun q55 => ?_)
        ·
          have k56 := if_t k54 q55
          refine go_iload (pc := 279) rfl dX6_wireStatement_279 ?_
          exact gi_iret (pc := 281) (ti_rfl v1) ⟨_, rfl, (by rw [show (v1 : Int32).toInt = v1.toInt from (ti_rfl v1)]; omega), (by rw [show (v1 : Int32).toInt = v1.toInt from (ti_rfl v1)]; omega), hv37, (k56.symm.trans kf), fx37⟩ hv37 dX6_wireStatement_281
        ·
          have k57 := if_f k54 (fun z => z q55)
          refine go_aload_n (pc := 221) rfl dX6_wireStatement_221 ?_
          refine gi_getC (pc := 222) hv37 fL_X6_15 rfl (Nat.le_of_ble_eq_true rfl) rfl (by decide) dX6_wireStatement_222 (fun c58 hc58 fc58 => ?_)
          have k59 := bd_e k57 (st_c fc58)
          refine gi_getF (pc := 225) (q := c58 + 13) hv37 fL_X6_71 (by rcases hc58 with rfl | rfl <;> rfl) (Nat.le_of_ble_eq_true rfl) rfl (by rcases hc58 with rfl | rfl <;> exact hv37.rf (by decide)) dX6_wireStatement_225 ?_
          refine go_iload (pc := 228) rfl dX6_wireStatement_228 ?_
          refine go_aload_n (pc := 230) rfl dX6_wireStatement_230 ?_
          refine go_aload_n (pc := 231) rfl dX6_wireStatement_231 ?_
          refine gi_getF (pc := 232) (q := 36) hv37 fL_X6_9 rfl (Nat.le_of_ble_eq_true rfl) rfl (hv37.rf (by decide)) dX6_wireStatement_232 ?_
          refine gi_getF (pc := 235) (q := 39) hv37 fL_X6_59 rfl (Nat.le_of_ble_eq_true rfl) rfl (hv37.rf (by decide)) dX6_wireStatement_235 ?_
          refine go_iload_n (pc := 238) rfl dX6_wireStatement_238 ?_
          refine gi_iald (pc := 239) (lo := -1) (hi := 127) (len := 128) hv37 (ti_rfl a2) rfl (by omega) (by omega) (fun _ => rfl) dX6_wireStatement_239 (fun v60 v60l v60u v60w => ?_)
          have k61 := bd_e k59 (congrArg Int32.toInt v60w.symm)
          refine go_iload_n (pc := 240) rfl dX6_wireStatement_240 ?_
          refine go_iload_n (pc := 241) rfl dX6_wireStatement_241 ?_
          refine go_iload (pc := 242) rfl dX6_wireStatement_242 ?_
          refine go_iconst (pc := 244) (v := 1) (by decide) dX6_wireStatement_244 ?_
          refine gf_iadd (pc := 245) (ti_rfl a5) (ti_c (v := 1) (a := 1) (by decide)) (by omega) (by omega) dX6_wireStatement_245 (fun v62 e63 => ?_)
          refine go_invV (pc := 246) (sl := 0) (s_X6_wireBlock_lv1_f l (d + 0) hv37 v60 (by rw [show (v60 : Int32).toInt = v60.toInt from (ti_rfl v60)]; omega) (by rw [show (v60 : Int32).toInt = v60.toInt from (ti_rfl v60)]; omega) a3 (by rw [show (a3 : Int32).toInt = a3.toInt from (ti_rfl a3)]; omega) (by rw [show (a3 : Int32).toInt = a3.toInt from (ti_rfl a3)]; omega) a4 (by rw [show (a4 : Int32).toInt = a4.toInt from (ti_rfl a4)]; omega) (by rw [show (a4 : Int32).toInt = a4.toInt from (ti_rfl a4)]; omega) v62 (by rw [show (v62 : Int32).toInt = (a5.toInt + 1) from e63]; omega) (by rw [show (v62 : Int32).toInt = (a5.toInt + 1) from e63]; omega)) mL_X6_34 iM_X6_wireBlock sM_X6_wireBlock (hv37.sh rfl) rfl rfl rfl (Nat.le_of_ble_eq_true rfl) (show d + 0 + 13 + 1 ≤ d + 14 by omega) (show 8 + (8 + 11) + 40 * (d + 0 + 13) ≤ 40 * (d + 14) by omega) (g_c0 hv37.ln) (Nat.le_of_ble_eq_true rfl) dX6_wireStatement_246 ?_
          intro r h64 hq _
          obtain ⟨v67, rfl, v67l, v67u, hv64, f65, f66⟩ := hq
          try rw [show (v62 : Int32).toInt = (a5.toInt + 1) from e63] at f65
          try rw [show (v62 : Int32).toInt = (a5.toInt + 1) from e63] at f66
          have fx64 : FX KC0 h h64 := FX.tr fx37 f66
          have k68 := bd2_e k61 f65
          refine gi_iast (pc := 249) (lo := 0) (hi := 44) (len := 40) hv64 (ti_rfl v1) (ti_rfl v67) (by rcases hc58 with rfl | rfl <;> rfl) (by omega) (by omega) (fun _ => by rcases hc58 with rfl | rfl <;> rfl) (by omega) (by omega) (by rcases hc58 with rfl | rfl <;> decide) dX6_wireStatement_249 (fun h69 hv69 hv69e => ?_)
          have fx69 : FX KC0 h h69 := FX.pI fx64 hv69e (by unfold KC0; omega)
          have k70 := bd_e k68 (st_I hv69e (ti_rfl v67))
          refine go_aload_n (pc := 250) rfl dX6_wireStatement_250 ?_
          refine gi_getC (pc := 251) hv69 fL_X6_15 rfl (Nat.le_of_ble_eq_true rfl) rfl (by decide) dX6_wireStatement_251 (fun c71 hc71 fc71 => ?_)
          have k72 := bd_e k70 (st_c fc71)
          refine gi_getF (pc := 254) (q := c71 + 12) hv69 fL_X6_68 (by rcases hc71 with rfl | rfl <;> rfl) (Nat.le_of_ble_eq_true rfl) rfl (by rcases hc71 with rfl | rfl <;> exact hv69.rf (by decide)) dX6_wireStatement_254 ?_
          refine go_iload (pc := 257) rfl dX6_wireStatement_257 ?_
          refine go_aload_n (pc := 259) rfl dX6_wireStatement_259 ?_
          refine go_aload_n (pc := 260) rfl dX6_wireStatement_260 ?_
          refine gi_getF (pc := 261) (q := 36) hv69 fL_X6_9 rfl (Nat.le_of_ble_eq_true rfl) rfl (hv69.rf (by decide)) dX6_wireStatement_261 ?_
          refine gi_getF (pc := 264) (q := 40) hv69 fL_X6_50 rfl (Nat.le_of_ble_eq_true rfl) rfl (hv69.rf (by decide)) dX6_wireStatement_264 ?_
          refine go_iload_n (pc := 267) rfl dX6_wireStatement_267 ?_
          refine gi_iald (pc := 268) (lo := -1) (hi := 127) (len := 128) hv69 (ti_rfl a2) rfl (by omega) (by omega) (fun _ => rfl) dX6_wireStatement_268 (fun v73 v73l v73u v73w => ?_)
          have k74 := bd_e k72 (congrArg Int32.toInt v73w.symm)
          refine go_iload_n (pc := 269) rfl dX6_wireStatement_269 ?_
          refine go_iload_n (pc := 270) rfl dX6_wireStatement_270 ?_
          refine go_iload (pc := 271) rfl dX6_wireStatement_271 ?_
          refine go_iconst (pc := 273) (v := 1) (by decide) dX6_wireStatement_273 ?_
          refine gf_iadd (pc := 274) (ti_rfl a5) (ti_c (v := 1) (a := 1) (by decide)) (by omega) (by omega) dX6_wireStatement_274 (fun v75 e76 => ?_)
          refine go_invV (pc := 275) (sl := 0) (s_X6_wireBlock_lv1_f l (d + 0) hv69 v73 (by rw [show (v73 : Int32).toInt = v73.toInt from (ti_rfl v73)]; omega) (by rw [show (v73 : Int32).toInt = v73.toInt from (ti_rfl v73)]; omega) a3 (by rw [show (a3 : Int32).toInt = a3.toInt from (ti_rfl a3)]; omega) (by rw [show (a3 : Int32).toInt = a3.toInt from (ti_rfl a3)]; omega) a4 (by rw [show (a4 : Int32).toInt = a4.toInt from (ti_rfl a4)]; omega) (by rw [show (a4 : Int32).toInt = a4.toInt from (ti_rfl a4)]; omega) v75 (by rw [show (v75 : Int32).toInt = (a5.toInt + 1) from e76]; omega) (by rw [show (v75 : Int32).toInt = (a5.toInt + 1) from e76]; omega)) mL_X6_34 iM_X6_wireBlock sM_X6_wireBlock (hv69.sh rfl) rfl rfl rfl (Nat.le_of_ble_eq_true rfl) (show d + 0 + 13 + 1 ≤ d + 14 by omega) (show 8 + (8 + 11) + 40 * (d + 0 + 13) ≤ 40 * (d + 14) by omega) (g_c0 hv69.ln) (Nat.le_of_ble_eq_true rfl) dX6_wireStatement_275 ?_
          intro r h77 hq _
          obtain ⟨v80, rfl, v80l, v80u, hv77, f78, f79⟩ := hq
          try rw [show (v75 : Int32).toInt = (a5.toInt + 1) from e76] at f78
          try rw [show (v75 : Int32).toInt = (a5.toInt + 1) from e76] at f79
          have fx77 : FX KC0 h h77 := FX.tr fx69 f79
          have k81 := bd2_e k74 f78
          refine gi_iast (pc := 278) (lo := 0) (hi := 44) (len := 40) hv77 (ti_rfl v1) (ti_rfl v80) (by rcases hc71 with rfl | rfl <;> rfl) (by omega) (by omega) (fun _ => by rcases hc71 with rfl | rfl <;> rfl) (by omega) (by omega) (by rcases hc71 with rfl | rfl <;> decide) dX6_wireStatement_278 (fun h82 hv82 hv82e => ?_)
          have fx82 : FX KC0 h h82 := FX.pI fx77 hv82e (by unfold KC0; omega)
          have k83 := bd_e k81 (st_I hv82e (ti_rfl v80))
          refine go_iload (pc := 279) rfl dX6_wireStatement_279 ?_
          exact gi_iret (pc := 281) (ti_rfl v1) ⟨_, rfl, (by rw [show (v1 : Int32).toInt = v1.toInt from (ti_rfl v1)]; omega), (by rw [show (v1 : Int32).toInt = v1.toInt from (ti_rfl v1)]; omega), hv82, (k83.symm.trans kf), fx82⟩ hv82 dX6_wireStatement_281
      ·
        have k84 := if_f k48 (fun z => z q49)
        refine go_aload_n (pc := 174) rfl dX6_wireStatement_174 ?_
        refine gi_getC (pc := 175) hv37 fL_X6_15 rfl (Nat.le_of_ble_eq_true rfl) rfl (by decide) dX6_wireStatement_175 (fun c85 hc85 fc85 => ?_)
        have k86 := bd_e k84 (st_c fc85)
        refine gi_getF (pc := 178) (q := c85 + 13) hv37 fL_X6_71 (by rcases hc85 with rfl | rfl <;> rfl) (Nat.le_of_ble_eq_true rfl) rfl (by rcases hc85 with rfl | rfl <;> exact hv37.rf (by decide)) dX6_wireStatement_178 ?_
        refine go_iload (pc := 181) rfl dX6_wireStatement_181 ?_
        refine go_aload_n (pc := 183) rfl dX6_wireStatement_183 ?_
        refine go_aload_n (pc := 184) rfl dX6_wireStatement_184 ?_
        refine gi_getF (pc := 185) (q := 36) hv37 fL_X6_9 rfl (Nat.le_of_ble_eq_true rfl) rfl (hv37.rf (by decide)) dX6_wireStatement_185 ?_
        refine gi_getF (pc := 188) (q := 39) hv37 fL_X6_59 rfl (Nat.le_of_ble_eq_true rfl) rfl (hv37.rf (by decide)) dX6_wireStatement_188 ?_
        refine go_iload_n (pc := 191) rfl dX6_wireStatement_191 ?_
        refine gi_iald (pc := 192) (lo := -1) (hi := 127) (len := 128) hv37 (ti_rfl a2) rfl (by omega) (by omega) (fun _ => rfl) dX6_wireStatement_192 (fun v87 v87l v87u v87w => ?_)
        have k88 := bd_e k86 (congrArg Int32.toInt v87w.symm)
        refine go_iload (pc := 193) rfl dX6_wireStatement_193 ?_
        refine go_iload_n (pc := 195) rfl dX6_wireStatement_195 ?_
        refine go_iload (pc := 196) rfl dX6_wireStatement_196 ?_
        refine go_iconst (pc := 198) (v := 1) (by decide) dX6_wireStatement_198 ?_
        refine gf_iadd (pc := 199) (ti_rfl a5) (ti_c (v := 1) (a := 1) (by decide)) (by omega) (by omega) dX6_wireStatement_199 (fun v89 e90 => ?_)
        refine go_invV (pc := 200) (sl := 0) (s_X6_wireBlock_lv1_f l (d + 0) hv37 v87 (by rw [show (v87 : Int32).toInt = v87.toInt from (ti_rfl v87)]; omega) (by rw [show (v87 : Int32).toInt = v87.toInt from (ti_rfl v87)]; omega) v1 (by rw [show (v1 : Int32).toInt = v1.toInt from (ti_rfl v1)]; omega) (by rw [show (v1 : Int32).toInt = v1.toInt from (ti_rfl v1)]; omega) a4 (by rw [show (a4 : Int32).toInt = a4.toInt from (ti_rfl a4)]; omega) (by rw [show (a4 : Int32).toInt = a4.toInt from (ti_rfl a4)]; omega) v89 (by rw [show (v89 : Int32).toInt = (a5.toInt + 1) from e90]; omega) (by rw [show (v89 : Int32).toInt = (a5.toInt + 1) from e90]; omega)) mL_X6_34 iM_X6_wireBlock sM_X6_wireBlock (hv37.sh rfl) rfl rfl rfl (Nat.le_of_ble_eq_true rfl) (show d + 0 + 13 + 1 ≤ d + 14 by omega) (show 8 + (8 + 11) + 40 * (d + 0 + 13) ≤ 40 * (d + 14) by omega) (g_c0 hv37.ln) (Nat.le_of_ble_eq_true rfl) dX6_wireStatement_200 ?_
        intro r h91 hq _
        obtain ⟨v94, rfl, v94l, v94u, hv91, f92, f93⟩ := hq
        try rw [show (v89 : Int32).toInt = (a5.toInt + 1) from e90] at f92
        try rw [show (v89 : Int32).toInt = (a5.toInt + 1) from e90] at f93
        have fx91 : FX KC0 h h91 := FX.tr fx37 f93
        have k95 := bd2_e k88 f92
        refine gi_iast (pc := 203) (lo := 0) (hi := 44) (len := 40) hv91 (ti_rfl v1) (ti_rfl v94) (by rcases hc85 with rfl | rfl <;> rfl) (by omega) (by omega) (fun _ => by rcases hc85 with rfl | rfl <;> rfl) (by omega) (by omega) (by rcases hc85 with rfl | rfl <;> decide) dX6_wireStatement_203 (fun h96 hv96 hv96e => ?_)
        have fx96 : FX KC0 h h96 := FX.pI fx91 hv96e (by unfold KC0; omega)
        have k97 := bd_e k95 (st_I hv96e (ti_rfl v94))
        refine go_goto (pc := 204) (tgt := 279) (by decide) dX6_wireStatement_204 ?_
        refine go_iload (pc := 279) rfl dX6_wireStatement_279 ?_
        exact gi_iret (pc := 281) (ti_rfl v1) ⟨_, rfl, (by rw [show (v1 : Int32).toInt = v1.toInt from (ti_rfl v1)]; omega), (by rw [show (v1 : Int32).toInt = v1.toInt from (ti_rfl v1)]; omega), hv96, (k97.symm.trans kf), fx96⟩ hv96 dX6_wireStatement_281
    ·
      have k98 := if_f k42 (fun z => z q43)
      refine go_aload_n (pc := 145) rfl dX6_wireStatement_145 ?_
      refine gi_getC (pc := 146) hv37 fL_X6_15 rfl (Nat.le_of_ble_eq_true rfl) rfl (by decide) dX6_wireStatement_146 (fun c99 hc99 fc99 => ?_)
      have k100 := bd_e k98 (st_c fc99)
      refine gi_getF (pc := 149) (q := c99 + 13) hv37 fL_X6_71 (by rcases hc99 with rfl | rfl <;> rfl) (Nat.le_of_ble_eq_true rfl) rfl (by rcases hc99 with rfl | rfl <;> exact hv37.rf (by decide)) dX6_wireStatement_149 ?_
      refine go_iload (pc := 152) rfl dX6_wireStatement_152 ?_
      refine go_iload (pc := 154) rfl dX6_wireStatement_154 ?_
      refine gi_iast (pc := 156) (lo := 0) (hi := 44) (len := 40) hv37 (ti_rfl v1) e8 (by rcases hc99 with rfl | rfl <;> rfl) (by omega) (by omega) (fun _ => by rcases hc99 with rfl | rfl <;> rfl) (by omega) (by omega) (by rcases hc99 with rfl | rfl <;> decide) dX6_wireStatement_156 (fun h101 hv101 hv101e => ?_)
      have fx101 : FX KC0 h h101 := FX.pI fx37 hv101e (by unfold KC0; omega)
      have k102 := bd_e k100 (st_I hv101e e8)
      refine go_goto (pc := 157) (tgt := 279) (by decide) dX6_wireStatement_157 ?_
      refine go_iload (pc := 279) rfl dX6_wireStatement_279 ?_
      exact gi_iret (pc := 281) (ti_rfl v1) ⟨_, rfl, (by rw [show (v1 : Int32).toInt = v1.toInt from (ti_rfl v1)]; omega), (by rw [show (v1 : Int32).toInt = v1.toInt from (ti_rfl v1)]; omega), hv101, (k102.symm.trans kf), fx101⟩ hv101 dX6_wireStatement_281
  ·
    have k103 := if_f k18 (Int.not_le.mpr q19)
    refine go_iload (pc := 61) rfl dX6_wireStatement_61 ?_
    refine go_goto (pc := 63) (tgt := 75) (by decide) dX6_wireStatement_63 ?_
    refine gi_iast (pc := 75) (lo := 0) (hi := 44) (len := 40) hv15 (ti_rfl v1) e8 (by rcases hc17 with rfl | rfl <;> rfl) (by omega) (by omega) (fun _ => by rcases hc17 with rfl | rfl <;> rfl) (by omega) (by omega) (by rcases hc17 with rfl | rfl <;> decide) dX6_wireStatement_75 (fun h104 hv104 hv104e => ?_)
    have fx104 : FX KC0 h h104 := FX.pI fx15 hv104e (by unfold KC0; omega)
    have k105 := bd_e k103 (st_I hv104e e8)
    refine go_aload_n (pc := 76) rfl dX6_wireStatement_76 ?_
    refine gi_getC (pc := 77) hv104 fL_X6_15 rfl (Nat.le_of_ble_eq_true rfl) rfl (by decide) dX6_wireStatement_77 (fun c106 hc106 fc106 => ?_)
    have k107 := bd_e k105 (st_c fc106)
    refine gi_getF (pc := 80) (q := c106 + 14) hv104 fL_X6_74 (by rcases hc106 with rfl | rfl <;> rfl) (Nat.le_of_ble_eq_true rfl) rfl (by rcases hc106 with rfl | rfl <;> exact hv104.rf (by decide)) dX6_wireStatement_80 ?_
    refine go_iload (pc := 83) rfl dX6_wireStatement_83 ?_
    refine go_iload_n (pc := 85) rfl dX6_wireStatement_85 ?_
    refine gf_if_ge (pc := 86) (tgt := 93) (ti_rfl a4) (by decide) dX6_wireStatement_86 (fun q108 => False.elim (by omega)) (fun q108 => ?_)
    refine go_iconst (pc := 89) (v := (-1)) (by decide) dX6_wireStatement_89 ?_
    refine go_goto (pc := 90) (tgt := 102) (by decide) dX6_wireStatement_90 ?_
    refine gi_iast (pc := 102) (lo := -1) (hi := 5) (len := 40) hv104 (ti_rfl v1) (ti_c (v := (-1)) (a := (-1)) (by decide)) (by rcases hc106 with rfl | rfl <;> rfl) (by omega) (by omega) (fun _ => by rcases hc106 with rfl | rfl <;> rfl) (by omega) (by omega) (by rcases hc106 with rfl | rfl <;> decide) dX6_wireStatement_102 (fun h109 hv109 hv109e => ?_)
    have fx109 : FX KC0 h h109 := FX.pI fx104 hv109e (by unfold KC0; omega)
    have k110 := bd_e k107 (st_I hv109e (ti_c (v := (-1)) (a := (-1)) (by decide)))
    refine go_aload_n (pc := 103) rfl dX6_wireStatement_103 ?_
    refine gi_getC (pc := 104) hv109 fL_X6_15 rfl (Nat.le_of_ble_eq_true rfl) rfl (by decide) dX6_wireStatement_104 (fun c111 hc111 fc111 => ?_)
    have k112 := bd_e k110 (st_c fc111)
    refine gi_getF (pc := 107) (q := c111 + 15) hv109 fL_X6_80 (by rcases hc111 with rfl | rfl <;> rfl) (Nat.le_of_ble_eq_true rfl) rfl (by rcases hc111 with rfl | rfl <;> exact hv109.rf (by decide)) dX6_wireStatement_107 ?_
    refine go_iload (pc := 110) rfl dX6_wireStatement_110 ?_
    refine go_iload_n (pc := 112) rfl dX6_wireStatement_112 ?_
    refine gf_if_ge (pc := 113) (tgt := 121) (ti_rfl a4) (by decide) dX6_wireStatement_113 (fun q113 => False.elim (by omega)) (fun q113 => ?_)
    refine go_bipush (pc := 116) (v := (-2)) (by decide) dX6_wireStatement_116 ?_
    refine go_goto (pc := 118) (tgt := 130) (by decide) dX6_wireStatement_118 ?_
    refine gi_iast (pc := 130) (lo := -2) (hi := 44) (len := 40) hv109 (ti_rfl v1) (ti_c (v := (-2)) (a := (-2)) (by decide)) (by rcases hc111 with rfl | rfl <;> rfl) (by omega) (by omega) (fun _ => by rcases hc111 with rfl | rfl <;> rfl) (by omega) (by omega) (by rcases hc111 with rfl | rfl <;> decide) dX6_wireStatement_130 (fun h114 hv114 hv114e => ?_)
    have fx114 : FX KC0 h h114 := FX.pI fx109 hv114e (by unfold KC0; omega)
    have k115 := bd_e k112 (st_I hv114e (ti_c (v := (-2)) (a := (-2)) (by decide)))
    refine go_aload_n (pc := 131) rfl dX6_wireStatement_131 ?_
    refine gi_getC (pc := 132) hv114 fL_X6_15 rfl (Nat.le_of_ble_eq_true rfl) rfl (by decide) dX6_wireStatement_132 (fun c116 hc116 fc116 => ?_)
    have k117 := bd_e k115 (st_c fc116)
    refine gi_getF (pc := 135) (q := c116 + 2) hv114 fL_X6_81 (by rcases hc116 with rfl | rfl <;> rfl) (Nat.le_of_ble_eq_true rfl) rfl (by rcases hc116 with rfl | rfl <;> exact hv114.rf (by decide)) dX6_wireStatement_135 ?_
    refine go_iload (pc := 138) rfl dX6_wireStatement_138 ?_
    refine gi_iald (pc := 140) (lo := 0) (hi := 5) (len := 40) hv114 (ti_rfl v1) (by rcases hc116 with rfl | rfl <;> rfl) (by omega) (by omega) (fun _ => by rcases hc116 with rfl | rfl <;> rfl) dX6_wireStatement_140 (fun v118 v118l v118u v118w => ?_)
    have k119 := bd_e k117 (congrArg Int32.toInt v118w.symm)
    refine go_iconst (pc := 141) (v := 5) (by decide) dX6_wireStatement_141 ?_
    refine gf_icmp_ne (pc := 142) (tgt := 160) (ti_rfl v118) (ti_c (v := 5) (a := 5) (by decide)) (by decide) dX6_wireStatement_142 (fun q120 => ?_) (fun q120 => ?_)
    ·
      have k121 := if_t k119 q120
      refine go_aload_n (pc := 160) rfl dX6_wireStatement_160 ?_
      refine gi_getC (pc := 161) hv114 fL_X6_15 rfl (Nat.le_of_ble_eq_true rfl) rfl (by decide) dX6_wireStatement_161 (fun c122 hc122 fc122 => ?_)
      have k123 := bd_e k121 (st_c fc122)
      refine gi_getF (pc := 164) (q := c122 + 2) hv114 fL_X6_81 (by rcases hc122 with rfl | rfl <;> rfl) (Nat.le_of_ble_eq_true rfl) rfl (by rcases hc122 with rfl | rfl <;> exact hv114.rf (by decide)) dX6_wireStatement_164 ?_
      refine go_iload (pc := 167) rfl dX6_wireStatement_167 ?_
      refine gi_iald (pc := 169) (lo := 0) (hi := 5) (len := 40) hv114 (ti_rfl v1) (by rcases hc122 with rfl | rfl <;> rfl) (by omega) (by omega) (fun _ => by rcases hc122 with rfl | rfl <;> rfl) dX6_wireStatement_169 (fun v124 v124l v124u v124w => ?_)
      have k125 := bd_e k123 (congrArg Int32.toInt v124w.symm)
      refine go_iconst (pc := 170) (v := 3) (by decide) dX6_wireStatement_170 ?_
      refine gf_icmp_ne (pc := 171) (tgt := 207) (ti_rfl v124) (ti_c (v := 3) (a := 3) (by decide)) (by decide) dX6_wireStatement_171 (fun q126 => ?_) (fun q126 => ?_)
      ·
        have k127 := if_t k125 q126
        refine go_aload_n (pc := 207) rfl dX6_wireStatement_207 ?_
        refine gi_getC (pc := 208) hv114 fL_X6_15 rfl (Nat.le_of_ble_eq_true rfl) rfl (by decide) dX6_wireStatement_208 (fun c128 hc128 fc128 => ?_)
        have k129 := bd_e k127 (st_c fc128)
        refine gi_getF (pc := 211) (q := c128 + 2) hv114 fL_X6_81 (by rcases hc128 with rfl | rfl <;> rfl) (Nat.le_of_ble_eq_true rfl) rfl (by rcases hc128 with rfl | rfl <;> exact hv114.rf (by decide)) dX6_wireStatement_211 ?_
        refine go_iload (pc := 214) rfl dX6_wireStatement_214 ?_
        refine gi_iald (pc := 216) (lo := 0) (hi := 5) (len := 40) hv114 (ti_rfl v1) (by rcases hc128 with rfl | rfl <;> rfl) (by omega) (by omega) (fun _ => by rcases hc128 with rfl | rfl <;> rfl) dX6_wireStatement_216 (fun v130 v130l v130u v130w => ?_)
        have k131 := bd_e k129 (congrArg Int32.toInt v130w.symm)
        refine go_iconst (pc := 217) (v := 2) (by decide) dX6_wireStatement_217 ?_
        refine gf_icmp_ne (pc := 218) (tgt := 279) (ti_rfl v130) (ti_c (v := 2) (a := 2) (by decide)) (by decide) dX6_wireStatement_218 (fun q132 => ?_) (fun q132 => ?_)
        ·
          have k133 := if_t k131 q132
          refine go_iload (pc := 279) rfl dX6_wireStatement_279 ?_
          exact gi_iret (pc := 281) (ti_rfl v1) ⟨_, rfl, (by rw [show (v1 : Int32).toInt = v1.toInt from (ti_rfl v1)]; omega), (by rw [show (v1 : Int32).toInt = v1.toInt from (ti_rfl v1)]; omega), hv114, (k133.symm.trans kf), fx114⟩ hv114 dX6_wireStatement_281
        ·
          have k134 := if_f k131 (fun z => z q132)
          refine go_aload_n (pc := 221) rfl dX6_wireStatement_221 ?_
          refine gi_getC (pc := 222) hv114 fL_X6_15 rfl (Nat.le_of_ble_eq_true rfl) rfl (by decide) dX6_wireStatement_222 (fun c135 hc135 fc135 => ?_)
          have k136 := bd_e k134 (st_c fc135)
          refine gi_getF (pc := 225) (q := c135 + 13) hv114 fL_X6_71 (by rcases hc135 with rfl | rfl <;> rfl) (Nat.le_of_ble_eq_true rfl) rfl (by rcases hc135 with rfl | rfl <;> exact hv114.rf (by decide)) dX6_wireStatement_225 ?_
          refine go_iload (pc := 228) rfl dX6_wireStatement_228 ?_
          refine go_aload_n (pc := 230) rfl dX6_wireStatement_230 ?_
          refine go_aload_n (pc := 231) rfl dX6_wireStatement_231 ?_
          refine gi_getF (pc := 232) (q := 36) hv114 fL_X6_9 rfl (Nat.le_of_ble_eq_true rfl) rfl (hv114.rf (by decide)) dX6_wireStatement_232 ?_
          refine gi_getF (pc := 235) (q := 39) hv114 fL_X6_59 rfl (Nat.le_of_ble_eq_true rfl) rfl (hv114.rf (by decide)) dX6_wireStatement_235 ?_
          refine go_iload_n (pc := 238) rfl dX6_wireStatement_238 ?_
          refine gi_iald (pc := 239) (lo := -1) (hi := 127) (len := 128) hv114 (ti_rfl a2) rfl (by omega) (by omega) (fun _ => rfl) dX6_wireStatement_239 (fun v137 v137l v137u v137w => ?_)
          have k138 := bd_e k136 (congrArg Int32.toInt v137w.symm)
          refine go_iload_n (pc := 240) rfl dX6_wireStatement_240 ?_
          refine go_iload_n (pc := 241) rfl dX6_wireStatement_241 ?_
          refine go_iload (pc := 242) rfl dX6_wireStatement_242 ?_
          refine go_iconst (pc := 244) (v := 1) (by decide) dX6_wireStatement_244 ?_
          refine gf_iadd (pc := 245) (ti_rfl a5) (ti_c (v := 1) (a := 1) (by decide)) (by omega) (by omega) dX6_wireStatement_245 (fun v139 e140 => ?_)
          refine go_invV (pc := 246) (sl := 0) (s_X6_wireBlock_lv1_f l (d + 0) hv114 v137 (by rw [show (v137 : Int32).toInt = v137.toInt from (ti_rfl v137)]; omega) (by rw [show (v137 : Int32).toInt = v137.toInt from (ti_rfl v137)]; omega) a3 (by rw [show (a3 : Int32).toInt = a3.toInt from (ti_rfl a3)]; omega) (by rw [show (a3 : Int32).toInt = a3.toInt from (ti_rfl a3)]; omega) a4 (by rw [show (a4 : Int32).toInt = a4.toInt from (ti_rfl a4)]; omega) (by rw [show (a4 : Int32).toInt = a4.toInt from (ti_rfl a4)]; omega) v139 (by rw [show (v139 : Int32).toInt = (a5.toInt + 1) from e140]; omega) (by rw [show (v139 : Int32).toInt = (a5.toInt + 1) from e140]; omega)) mL_X6_34 iM_X6_wireBlock sM_X6_wireBlock (hv114.sh rfl) rfl rfl rfl (Nat.le_of_ble_eq_true rfl) (show d + 0 + 13 + 1 ≤ d + 14 by omega) (show 8 + (8 + 11) + 40 * (d + 0 + 13) ≤ 40 * (d + 14) by omega) (g_c0 hv114.ln) (Nat.le_of_ble_eq_true rfl) dX6_wireStatement_246 ?_
          intro r h141 hq _
          obtain ⟨v144, rfl, v144l, v144u, hv141, f142, f143⟩ := hq
          try rw [show (v139 : Int32).toInt = (a5.toInt + 1) from e140] at f142
          try rw [show (v139 : Int32).toInt = (a5.toInt + 1) from e140] at f143
          have fx141 : FX KC0 h h141 := FX.tr fx114 f143
          have k145 := bd2_e k138 f142
          refine gi_iast (pc := 249) (lo := 0) (hi := 44) (len := 40) hv141 (ti_rfl v1) (ti_rfl v144) (by rcases hc135 with rfl | rfl <;> rfl) (by omega) (by omega) (fun _ => by rcases hc135 with rfl | rfl <;> rfl) (by omega) (by omega) (by rcases hc135 with rfl | rfl <;> decide) dX6_wireStatement_249 (fun h146 hv146 hv146e => ?_)
          have fx146 : FX KC0 h h146 := FX.pI fx141 hv146e (by unfold KC0; omega)
          have k147 := bd_e k145 (st_I hv146e (ti_rfl v144))
          refine go_aload_n (pc := 250) rfl dX6_wireStatement_250 ?_
          refine gi_getC (pc := 251) hv146 fL_X6_15 rfl (Nat.le_of_ble_eq_true rfl) rfl (by decide) dX6_wireStatement_251 (fun c148 hc148 fc148 => ?_)
          have k149 := bd_e k147 (st_c fc148)
          refine gi_getF (pc := 254) (q := c148 + 12) hv146 fL_X6_68 (by rcases hc148 with rfl | rfl <;> rfl) (Nat.le_of_ble_eq_true rfl) rfl (by rcases hc148 with rfl | rfl <;> exact hv146.rf (by decide)) dX6_wireStatement_254 ?_
          refine go_iload (pc := 257) rfl dX6_wireStatement_257 ?_
          refine go_aload_n (pc := 259) rfl dX6_wireStatement_259 ?_
          refine go_aload_n (pc := 260) rfl dX6_wireStatement_260 ?_
          refine gi_getF (pc := 261) (q := 36) hv146 fL_X6_9 rfl (Nat.le_of_ble_eq_true rfl) rfl (hv146.rf (by decide)) dX6_wireStatement_261 ?_
          refine gi_getF (pc := 264) (q := 40) hv146 fL_X6_50 rfl (Nat.le_of_ble_eq_true rfl) rfl (hv146.rf (by decide)) dX6_wireStatement_264 ?_
          refine go_iload_n (pc := 267) rfl dX6_wireStatement_267 ?_
          refine gi_iald (pc := 268) (lo := -1) (hi := 127) (len := 128) hv146 (ti_rfl a2) rfl (by omega) (by omega) (fun _ => rfl) dX6_wireStatement_268 (fun v150 v150l v150u v150w => ?_)
          have k151 := bd_e k149 (congrArg Int32.toInt v150w.symm)
          refine go_iload_n (pc := 269) rfl dX6_wireStatement_269 ?_
          refine go_iload_n (pc := 270) rfl dX6_wireStatement_270 ?_
          refine go_iload (pc := 271) rfl dX6_wireStatement_271 ?_
          refine go_iconst (pc := 273) (v := 1) (by decide) dX6_wireStatement_273 ?_
          refine gf_iadd (pc := 274) (ti_rfl a5) (ti_c (v := 1) (a := 1) (by decide)) (by omega) (by omega) dX6_wireStatement_274 (fun v152 e153 => ?_)
          refine go_invV (pc := 275) (sl := 0) (s_X6_wireBlock_lv1_f l (d + 0) hv146 v150 (by rw [show (v150 : Int32).toInt = v150.toInt from (ti_rfl v150)]; omega) (by rw [show (v150 : Int32).toInt = v150.toInt from (ti_rfl v150)]; omega) a3 (by rw [show (a3 : Int32).toInt = a3.toInt from (ti_rfl a3)]; omega) (by rw [show (a3 : Int32).toInt = a3.toInt from (ti_rfl a3)]; omega) a4 (by rw [show (a4 : Int32).toInt = a4.toInt from (ti_rfl a4)]; omega) (by rw [show (a4 : Int32).toInt = a4.toInt from (ti_rfl a4)]; omega) v152 (by rw [show (v152 : Int32).toInt = (a5.toInt + 1) from e153]; omega) (by rw [show (v152 : Int32).toInt = (a5.toInt + 1) from e153]; omega)) mL_X6_34 iM_X6_wireBlock sM_X6_wireBlock (hv146.sh rfl) rfl rfl rfl (Nat.le_of_ble_eq_true rfl) (show d + 0 + 13 + 1 ≤ d + 14 by omega) (show 8 + (8 + 11) + 40 * (d + 0 + 13) ≤ 40 * (d + 14) by omega) (g_c0 hv146.ln) (Nat.le_of_ble_eq_true rfl) dX6_wireStatement_275 ?_
          intro r h154 hq _
          obtain ⟨v157, rfl, v157l, v157u, hv154, f155, f156⟩ := hq
          try rw [show (v152 : Int32).toInt = (a5.toInt + 1) from e153] at f155
          try rw [show (v152 : Int32).toInt = (a5.toInt + 1) from e153] at f156
          have fx154 : FX KC0 h h154 := FX.tr fx146 f156
          have k158 := bd2_e k151 f155
          refine gi_iast (pc := 278) (lo := 0) (hi := 44) (len := 40) hv154 (ti_rfl v1) (ti_rfl v157) (by rcases hc148 with rfl | rfl <;> rfl) (by omega) (by omega) (fun _ => by rcases hc148 with rfl | rfl <;> rfl) (by omega) (by omega) (by rcases hc148 with rfl | rfl <;> decide) dX6_wireStatement_278 (fun h159 hv159 hv159e => ?_)
          have fx159 : FX KC0 h h159 := FX.pI fx154 hv159e (by unfold KC0; omega)
          have k160 := bd_e k158 (st_I hv159e (ti_rfl v157))
          refine go_iload (pc := 279) rfl dX6_wireStatement_279 ?_
          exact gi_iret (pc := 281) (ti_rfl v1) ⟨_, rfl, (by rw [show (v1 : Int32).toInt = v1.toInt from (ti_rfl v1)]; omega), (by rw [show (v1 : Int32).toInt = v1.toInt from (ti_rfl v1)]; omega), hv159, (k160.symm.trans kf), fx159⟩ hv159 dX6_wireStatement_281
      ·
        have k161 := if_f k125 (fun z => z q126)
        refine go_aload_n (pc := 174) rfl dX6_wireStatement_174 ?_
        refine gi_getC (pc := 175) hv114 fL_X6_15 rfl (Nat.le_of_ble_eq_true rfl) rfl (by decide) dX6_wireStatement_175 (fun c162 hc162 fc162 => ?_)
        have k163 := bd_e k161 (st_c fc162)
        refine gi_getF (pc := 178) (q := c162 + 13) hv114 fL_X6_71 (by rcases hc162 with rfl | rfl <;> rfl) (Nat.le_of_ble_eq_true rfl) rfl (by rcases hc162 with rfl | rfl <;> exact hv114.rf (by decide)) dX6_wireStatement_178 ?_
        refine go_iload (pc := 181) rfl dX6_wireStatement_181 ?_
        refine go_aload_n (pc := 183) rfl dX6_wireStatement_183 ?_
        refine go_aload_n (pc := 184) rfl dX6_wireStatement_184 ?_
        refine gi_getF (pc := 185) (q := 36) hv114 fL_X6_9 rfl (Nat.le_of_ble_eq_true rfl) rfl (hv114.rf (by decide)) dX6_wireStatement_185 ?_
        refine gi_getF (pc := 188) (q := 39) hv114 fL_X6_59 rfl (Nat.le_of_ble_eq_true rfl) rfl (hv114.rf (by decide)) dX6_wireStatement_188 ?_
        refine go_iload_n (pc := 191) rfl dX6_wireStatement_191 ?_
        refine gi_iald (pc := 192) (lo := -1) (hi := 127) (len := 128) hv114 (ti_rfl a2) rfl (by omega) (by omega) (fun _ => rfl) dX6_wireStatement_192 (fun v164 v164l v164u v164w => ?_)
        have k165 := bd_e k163 (congrArg Int32.toInt v164w.symm)
        refine go_iload (pc := 193) rfl dX6_wireStatement_193 ?_
        refine go_iload_n (pc := 195) rfl dX6_wireStatement_195 ?_
        refine go_iload (pc := 196) rfl dX6_wireStatement_196 ?_
        refine go_iconst (pc := 198) (v := 1) (by decide) dX6_wireStatement_198 ?_
        refine gf_iadd (pc := 199) (ti_rfl a5) (ti_c (v := 1) (a := 1) (by decide)) (by omega) (by omega) dX6_wireStatement_199 (fun v166 e167 => ?_)
        refine go_invV (pc := 200) (sl := 0) (s_X6_wireBlock_lv1_f l (d + 0) hv114 v164 (by rw [show (v164 : Int32).toInt = v164.toInt from (ti_rfl v164)]; omega) (by rw [show (v164 : Int32).toInt = v164.toInt from (ti_rfl v164)]; omega) v1 (by rw [show (v1 : Int32).toInt = v1.toInt from (ti_rfl v1)]; omega) (by rw [show (v1 : Int32).toInt = v1.toInt from (ti_rfl v1)]; omega) a4 (by rw [show (a4 : Int32).toInt = a4.toInt from (ti_rfl a4)]; omega) (by rw [show (a4 : Int32).toInt = a4.toInt from (ti_rfl a4)]; omega) v166 (by rw [show (v166 : Int32).toInt = (a5.toInt + 1) from e167]; omega) (by rw [show (v166 : Int32).toInt = (a5.toInt + 1) from e167]; omega)) mL_X6_34 iM_X6_wireBlock sM_X6_wireBlock (hv114.sh rfl) rfl rfl rfl (Nat.le_of_ble_eq_true rfl) (show d + 0 + 13 + 1 ≤ d + 14 by omega) (show 8 + (8 + 11) + 40 * (d + 0 + 13) ≤ 40 * (d + 14) by omega) (g_c0 hv114.ln) (Nat.le_of_ble_eq_true rfl) dX6_wireStatement_200 ?_
        intro r h168 hq _
        obtain ⟨v171, rfl, v171l, v171u, hv168, f169, f170⟩ := hq
        try rw [show (v166 : Int32).toInt = (a5.toInt + 1) from e167] at f169
        try rw [show (v166 : Int32).toInt = (a5.toInt + 1) from e167] at f170
        have fx168 : FX KC0 h h168 := FX.tr fx114 f170
        have k172 := bd2_e k165 f169
        refine gi_iast (pc := 203) (lo := 0) (hi := 44) (len := 40) hv168 (ti_rfl v1) (ti_rfl v171) (by rcases hc162 with rfl | rfl <;> rfl) (by omega) (by omega) (fun _ => by rcases hc162 with rfl | rfl <;> rfl) (by omega) (by omega) (by rcases hc162 with rfl | rfl <;> decide) dX6_wireStatement_203 (fun h173 hv173 hv173e => ?_)
        have fx173 : FX KC0 h h173 := FX.pI fx168 hv173e (by unfold KC0; omega)
        have k174 := bd_e k172 (st_I hv173e (ti_rfl v171))
        refine go_goto (pc := 204) (tgt := 279) (by decide) dX6_wireStatement_204 ?_
        refine go_iload (pc := 279) rfl dX6_wireStatement_279 ?_
        exact gi_iret (pc := 281) (ti_rfl v1) ⟨_, rfl, (by rw [show (v1 : Int32).toInt = v1.toInt from (ti_rfl v1)]; omega), (by rw [show (v1 : Int32).toInt = v1.toInt from (ti_rfl v1)]; omega), hv173, (k174.symm.trans kf), fx173⟩ hv173 dX6_wireStatement_281
    ·
      have k175 := if_f k119 (fun z => z q120)
      refine go_aload_n (pc := 145) rfl dX6_wireStatement_145 ?_
      refine gi_getC (pc := 146) hv114 fL_X6_15 rfl (Nat.le_of_ble_eq_true rfl) rfl (by decide) dX6_wireStatement_146 (fun c176 hc176 fc176 => ?_)
      have k177 := bd_e k175 (st_c fc176)
      refine gi_getF (pc := 149) (q := c176 + 13) hv114 fL_X6_71 (by rcases hc176 with rfl | rfl <;> rfl) (Nat.le_of_ble_eq_true rfl) rfl (by rcases hc176 with rfl | rfl <;> exact hv114.rf (by decide)) dX6_wireStatement_149 ?_
      refine go_iload (pc := 152) rfl dX6_wireStatement_152 ?_
      refine go_iload (pc := 154) rfl dX6_wireStatement_154 ?_
      refine gi_iast (pc := 156) (lo := 0) (hi := 44) (len := 40) hv114 (ti_rfl v1) e8 (by rcases hc176 with rfl | rfl <;> rfl) (by omega) (by omega) (fun _ => by rcases hc176 with rfl | rfl <;> rfl) (by omega) (by omega) (by rcases hc176 with rfl | rfl <;> decide) dX6_wireStatement_156 (fun h178 hv178 hv178e => ?_)
      have fx178 : FX KC0 h h178 := FX.pI fx114 hv178e (by unfold KC0; omega)
      have k179 := bd_e k177 (st_I hv178e e8)
      refine go_goto (pc := 157) (tgt := 279) (by decide) dX6_wireStatement_157 ?_
      refine go_iload (pc := 279) rfl dX6_wireStatement_279 ?_
      exact gi_iret (pc := 281) (ti_rfl v1) ⟨_, rfl, (by rw [show (v1 : Int32).toInt = v1.toInt from (ti_rfl v1)]; omega), (by rw [show (v1 : Int32).toInt = v1.toInt from (ti_rfl v1)]; omega), hv178, (k179.symm.trans kf), fx178⟩ hv178 dX6_wireStatement_281
def f_X6_wireBlock_lv0_ : Nat → Nat → Int → Int → Int → Int → Int → ST → ST × Int
  | 0, _, _, _, _, _, _, sx => (sx, 0)
  | n + 1, _, l3, l4, l5, l6, l7, sx => if 128 ≤ l7 then ((sx, l5)) else (if l6 < 0 then ((sx, l5)) else (bd (sx.1 37 (l6).toNat) fun v7 => if ¬ v7 = (-1) then (bd2 (f_X6_wireStatement_lv0 sx l6 l5 l3 l4) fun s11 v14 => bd (s11.1 38 (l6).toNat) fun v16 => f_X6_wireBlock_lv0_ n 20 l3 l4 v14 v16 ((l7 + 1)) s11) else (bd2 (f_X6_wireTry_lv0 sx l6 l5 l3 l4) fun s22 v25 => bd (s22.1 38 (l6).toNat) fun v27 => f_X6_wireBlock_lv0_ n 20 l3 l4 v25 v27 ((l7 + 1)) s22)))
def f_X6_wireBlock_lv0 (s : ST) (a2 : Int) (a3 : Int) (a4 : Int) (a5 : Int) : ST × Int :=
  f_X6_wireBlock_lv0_ 403 20 a4 a5 a3 a2 0 s
set_option maxHeartbeats 4000000 in
set_option maxRecDepth 100000 in
theorem s_X6_wireBlock_lv0_f (l : Launch) (d : Nat) {P : PP} {h : HP} (hv : Iv P h) (a2 : Int32) (a2l : -1 ≤ a2.toInt) (a2u : a2.toInt ≤ 127) (a3 : Int32) (a3l : 0 ≤ a3.toInt) (a3u : a3.toInt ≤ 44) (a4 : Int32) (a4l : -1 ≤ a4.toInt) (a4u : a4.toInt ≤ 127) (a5 : Int32) (a5l : 0 ≤ a5.toInt) (a5u : a5.toInt ≤ 0) : Mt l yX6_wireBlock cX6_wireBlock 8 (some .int) (d + 15) [.ref 48, .int a2, .int a3, .int a4, .int a5] h 0 0 (fun r h' => ∃ v : Int32, r = some (.int v) ∧ 0 ≤ v.toInt ∧ v.toInt ≤ 44 ∧ Iv P h' ∧ ((st h', v.toInt) = f_X6_wireBlock_lv0 (st h) a2.toInt a3.toInt a4.toInt a5.toInt) ∧ (FX KC0 h h')) := by
  refine Mt_iv hv (by decide) (Nat.le_of_ble_eq_true rfl) ?_
  show Go l RX6 cX6_wireBlock 8 (g_rm (d + 15) 0 0) "wireBlock" (some .int) 117 0 0 (fun _ _ => True) (fun r h' => ∃ v : Int32, r = some (.int v) ∧ 0 ≤ v.toInt ∧ v.toInt ≤ 44 ∧ Iv P h' ∧ ((st h', v.toInt) = f_X6_wireBlock_lv0 (st h) a2.toInt a3.toInt a4.toInt a5.toInt) ∧ (FX KC0 h h')) 0 0 [(0, .ref 48), (1, .int a2), (2, .int a3), (3, .int a4), (4, .int a5)] [] h
  have fx : FX KC0 h h := FX.rfl
  obtain ⟨fin, kf⟩ : ∃ z, z = f_X6_wireBlock_lv0 (st h) a2.toInt a3.toInt a4.toInt a5.toInt := ⟨_, _root_.rfl⟩
  have k0 := kf
  unfold f_X6_wireBlock_lv0 at k0
  have key : ∀ n : Nat, (∀ (l3 : Int32) (l4 : Int32) (l5 : Int32) (l6 : Int32) (l7 : Int32) (hx : HP), Iv P hx → -1 ≤ l3.toInt → l3.toInt ≤ 127 → 0 ≤ l4.toInt → l4.toInt ≤ 0 → 0 ≤ l5.toInt → l5.toInt ≤ 44 → -1 ≤ l6.toInt → l6.toInt ≤ 127 → 0 ≤ l7.toInt → l7.toInt ≤ 128 → FX KC0 h hx → fin = f_X6_wireBlock_lv0_ n 20 l3.toInt l4.toInt l5.toInt l6.toInt l7.toInt (st hx) → (3 * (128 - l7.toInt) + 2 : Int) < n → Go l RX6 cX6_wireBlock 8 (g_rm (d + 15) 0 0) "wireBlock" (some .int) 117 0 0 (fun _ _ => True) (fun r h' => ∃ v : Int32, r = some (.int v) ∧ 0 ≤ v.toInt ∧ v.toInt ≤ 44 ∧ Iv P h' ∧ ((st h', v.toInt) = f_X6_wireBlock_lv0 (st h) a2.toInt a3.toInt a4.toInt a5.toInt) ∧ (FX KC0 h h')) 0 20 [(0, .ref 48), (3, .int l3), (4, .int l4), (5, .int l5), (6, .int l6), (7, .int l7)] [] hx) := by
    intro n
    induction n with
    | zero => exact (by intros; omega)
    | succ n ih =>
      refine ?_
      ·
        intro l3 l4 l5 l6 l7 hx hvx l3l l3u l4l l4u l5l l5u l6l l6u l7l l7u fxx kL hm
        rw [f_X6_wireBlock_lv0_] at kL
        refine go_iload (pc := 20) rfl dX6_wireBlock_20 ?_
        refine go_sipush (pc := 22) (v := 128) (by decide) dX6_wireBlock_22 ?_
        refine gf_icmp_ge (pc := 25) (tgt := 94) (ti_rfl l7) (ti_c (v := 128) (a := 128) (by decide)) (by decide) dX6_wireBlock_25 (fun q1 => ?_) (fun q1 => ?_)
        ·
          have k2 := if_t kL q1
          refine go_iload (pc := 94) rfl dX6_wireBlock_94 ?_
          exact gi_iret (pc := 96) (ti_rfl l5) ⟨_, rfl, (by rw [show (l5 : Int32).toInt = l5.toInt from (ti_rfl l5)]; omega), (by rw [show (l5 : Int32).toInt = l5.toInt from (ti_rfl l5)]; omega), hvx, (k2.symm.trans kf), fxx⟩ hvx dX6_wireBlock_96
        ·
          have k3 := if_f kL (Int.not_le.mpr q1)
          refine go_iload (pc := 28) rfl dX6_wireBlock_28 ?_
          refine gf_if_lt (pc := 30) (tgt := 94) (ti_rfl l6) (by decide) dX6_wireBlock_30 (fun q4 => ?_) (fun q4 => ?_)
          ·
            have k5 := if_t k3 q4
            refine go_iload (pc := 94) rfl dX6_wireBlock_94 ?_
            exact gi_iret (pc := 96) (ti_rfl l5) ⟨_, rfl, (by rw [show (l5 : Int32).toInt = l5.toInt from (ti_rfl l5)]; omega), (by rw [show (l5 : Int32).toInt = l5.toInt from (ti_rfl l5)]; omega), hvx, (k5.symm.trans kf), fxx⟩ hvx dX6_wireBlock_96
          ·
            have k6 := if_f k3 (Int.not_lt.mpr q4)
            refine go_aload_n (pc := 33) rfl dX6_wireBlock_33 ?_
            refine gi_getF (pc := 34) (q := 36) hvx fL_X6_9 rfl (Nat.le_of_ble_eq_true rfl) rfl (hvx.rf (by decide)) dX6_wireBlock_34 ?_
            refine gi_getF (pc := 37) (q := 37) hvx fL_X6_38 rfl (Nat.le_of_ble_eq_true rfl) rfl (hvx.rf (by decide)) dX6_wireBlock_37 ?_
            refine go_iload (pc := 40) rfl dX6_wireBlock_40 ?_
            refine gi_iald (pc := 42) (lo := -1) (hi := 39) (len := 128) hvx (ti_rfl l6) rfl (by omega) (by omega) (fun _ => rfl) dX6_wireBlock_42 (fun v7 v7l v7u v7w => ?_)
            have k8 := bd_e k6 (congrArg Int32.toInt v7w.symm)
            refine go_iconst (pc := 43) (v := (-1)) (by decide) dX6_wireBlock_43 ?_
            refine gf_icmp_ne (pc := 44) (tgt := 63) (ti_rfl v7) (ti_c (v := (-1)) (a := (-1)) (by decide)) (by decide) dX6_wireBlock_44 (fun q9 => ?_) (fun q9 => ?_)
            ·
              have k10 := if_t k8 q9
              refine go_aload_n (pc := 63) rfl dX6_wireBlock_63 ?_
              refine go_iload (pc := 64) rfl dX6_wireBlock_64 ?_
              refine go_iload (pc := 66) rfl dX6_wireBlock_66 ?_
              refine go_iload_n (pc := 68) rfl dX6_wireBlock_68 ?_
              refine go_iload (pc := 69) rfl dX6_wireBlock_69 ?_
              refine go_invV (pc := 71) (sl := 0) (s_X6_wireStatement_lv0_f l (d + 0) hvx l6 (by rw [show (l6 : Int32).toInt = l6.toInt from (ti_rfl l6)]; omega) (by rw [show (l6 : Int32).toInt = l6.toInt from (ti_rfl l6)]; omega) l5 (by rw [show (l5 : Int32).toInt = l5.toInt from (ti_rfl l5)]; omega) (by rw [show (l5 : Int32).toInt = l5.toInt from (ti_rfl l5)]; omega) l3 (by rw [show (l3 : Int32).toInt = l3.toInt from (ti_rfl l3)]; omega) (by rw [show (l3 : Int32).toInt = l3.toInt from (ti_rfl l3)]; omega) l4 (by rw [show (l4 : Int32).toInt = l4.toInt from (ti_rfl l4)]; omega) (by rw [show (l4 : Int32).toInt = l4.toInt from (ti_rfl l4)]; omega) (by rw [← v7w]; omega)) mL_X6_44 iM_X6_wireStatement sM_X6_wireStatement (hvx.sh rfl) rfl rfl rfl (Nat.le_of_ble_eq_true rfl) (show d + 0 + 14 + 1 ≤ d + 15 by omega) (show 8 + (7 + 11) + 40 * (d + 0 + 14) ≤ 40 * (d + 15) by omega) (g_c0 hvx.ln) (Nat.le_of_ble_eq_true rfl) dX6_wireBlock_71 ?_
              intro r h11 hq _
              obtain ⟨v14, rfl, v14l, v14u, hv11, f12, f13⟩ := hq
              have fx11 : FX KC0 h h11 := FX.tr fxx f13
              have k15 := bd2_e k10 f12
              refine go_istore (pc := 74) (Nat.le_of_ble_eq_true rfl) dX6_wireBlock_74 (go_lv (lv2 := [(0, .ref 48), (3, .int l3), (4, .int l4), (5, .int v14), (6, .int l6), (7, .int l7)]) rfl ?_)
              refine go_aload_n (pc := 76) rfl dX6_wireBlock_76 ?_
              refine gi_getF (pc := 77) (q := 36) hv11 fL_X6_9 rfl (Nat.le_of_ble_eq_true rfl) rfl (hv11.rf (by decide)) dX6_wireBlock_77 ?_
              refine gi_getF (pc := 80) (q := 38) hv11 fL_X6_47 rfl (Nat.le_of_ble_eq_true rfl) rfl (hv11.rf (by decide)) dX6_wireBlock_80 ?_
              refine go_iload (pc := 83) rfl dX6_wireBlock_83 ?_
              refine gi_iald (pc := 85) (lo := -1) (hi := 127) (len := 128) hv11 (ti_rfl l6) rfl (by omega) (by omega) (fun _ => rfl) dX6_wireBlock_85 (fun v16 v16l v16u v16w => ?_)
              have k17 := bd_e k15 (congrArg Int32.toInt v16w.symm)
              refine go_istore (pc := 86) (Nat.le_of_ble_eq_true rfl) dX6_wireBlock_86 (go_lv (lv2 := [(0, .ref 48), (3, .int l3), (4, .int l4), (5, .int v14), (6, .int v16), (7, .int l7)]) rfl ?_)
              refine gf_iinc (pc := 88) (Nat.le_of_ble_eq_true rfl) rfl (ti_rfl l7) (ti_c (by decide)) (by omega) (by omega) dX6_wireBlock_88 (fun v18 e19 => ?_)
              refine go_lv (lv2 := [(0, .ref 48), (3, .int l3), (4, .int l4), (5, .int v14), (6, .int v16), (7, .int v18)]) rfl ?_
              refine go_goto (pc := 91) (tgt := 20) (by decide) dX6_wireBlock_91 ?_
              have z20 : (v18 : Int32).toInt = (l7.toInt + 1) := e19
              exact go_lv rfl (ih l3 l4 v14 v16 v18 h11 hv11 (by omega) (by omega) (by omega) (by omega) (by omega) (by omega) (by omega) (by omega) (by omega) (by omega) fx11 (by rw [show (v18 : Int32).toInt = (l7.toInt + 1) from e19]; exact k17) (by omega))
            ·
              have k21 := if_f k8 (fun z => z q9)
              refine go_aload_n (pc := 47) rfl dX6_wireBlock_47 ?_
              refine go_iload (pc := 48) rfl dX6_wireBlock_48 ?_
              refine go_iload (pc := 50) rfl dX6_wireBlock_50 ?_
              refine go_iload_n (pc := 52) rfl dX6_wireBlock_52 ?_
              refine go_iload (pc := 53) rfl dX6_wireBlock_53 ?_
              refine go_invV (pc := 55) (sl := 0) (s_X6_wireTry_lv0_f l (d + 0) hvx l6 (by rw [show (l6 : Int32).toInt = l6.toInt from (ti_rfl l6)]; omega) (by rw [show (l6 : Int32).toInt = l6.toInt from (ti_rfl l6)]; omega) l5 (by rw [show (l5 : Int32).toInt = l5.toInt from (ti_rfl l5)]; omega) (by rw [show (l5 : Int32).toInt = l5.toInt from (ti_rfl l5)]; omega) l3 (by rw [show (l3 : Int32).toInt = l3.toInt from (ti_rfl l3)]; omega) (by rw [show (l3 : Int32).toInt = l3.toInt from (ti_rfl l3)]; omega) l4 (by rw [show (l4 : Int32).toInt = l4.toInt from (ti_rfl l4)]; omega) (by rw [show (l4 : Int32).toInt = l4.toInt from (ti_rfl l4)]; omega)) mL_X6_41 iM_X6_wireTry sM_X6_wireTry (hvx.sh rfl) rfl rfl rfl (Nat.le_of_ble_eq_true rfl) (show d + 0 + 14 + 1 ≤ d + 15 by omega) (show 8 + (6 + 11) + 40 * (d + 0 + 14) ≤ 40 * (d + 15) by omega) (g_c0 hvx.ln) (Nat.le_of_ble_eq_true rfl) dX6_wireBlock_55 ?_
              intro r h22 hq _
              obtain ⟨v25, rfl, v25l, v25u, hv22, f23, f24⟩ := hq
              have fx22 : FX KC0 h h22 := FX.tr fxx f24
              have k26 := bd2_e k21 f23
              refine go_istore (pc := 58) (Nat.le_of_ble_eq_true rfl) dX6_wireBlock_58 (go_lv (lv2 := [(0, .ref 48), (3, .int l3), (4, .int l4), (5, .int v25), (6, .int l6), (7, .int l7)]) rfl ?_)
              refine go_goto (pc := 60) (tgt := 76) (by decide) dX6_wireBlock_60 ?_
              refine go_aload_n (pc := 76) rfl dX6_wireBlock_76 ?_
              refine gi_getF (pc := 77) (q := 36) hv22 fL_X6_9 rfl (Nat.le_of_ble_eq_true rfl) rfl (hv22.rf (by decide)) dX6_wireBlock_77 ?_
              refine gi_getF (pc := 80) (q := 38) hv22 fL_X6_47 rfl (Nat.le_of_ble_eq_true rfl) rfl (hv22.rf (by decide)) dX6_wireBlock_80 ?_
              refine go_iload (pc := 83) rfl dX6_wireBlock_83 ?_
              refine gi_iald (pc := 85) (lo := -1) (hi := 127) (len := 128) hv22 (ti_rfl l6) rfl (by omega) (by omega) (fun _ => rfl) dX6_wireBlock_85 (fun v27 v27l v27u v27w => ?_)
              have k28 := bd_e k26 (congrArg Int32.toInt v27w.symm)
              refine go_istore (pc := 86) (Nat.le_of_ble_eq_true rfl) dX6_wireBlock_86 (go_lv (lv2 := [(0, .ref 48), (3, .int l3), (4, .int l4), (5, .int v25), (6, .int v27), (7, .int l7)]) rfl ?_)
              refine gf_iinc (pc := 88) (Nat.le_of_ble_eq_true rfl) rfl (ti_rfl l7) (ti_c (by decide)) (by omega) (by omega) dX6_wireBlock_88 (fun v29 e30 => ?_)
              refine go_lv (lv2 := [(0, .ref 48), (3, .int l3), (4, .int l4), (5, .int v25), (6, .int v27), (7, .int v29)]) rfl ?_
              refine go_goto (pc := 91) (tgt := 20) (by decide) dX6_wireBlock_91 ?_
              have z31 : (v29 : Int32).toInt = (l7.toInt + 1) := e30
              exact go_lv rfl (ih l3 l4 v25 v27 v29 h22 hv22 (by omega) (by omega) (by omega) (by omega) (by omega) (by omega) (by omega) (by omega) (by omega) (by omega) fx22 (by rw [show (v29 : Int32).toInt = (l7.toInt + 1) from e30]; exact k28) (by omega))
  refine go_iload_n (pc := 0) rfl dX6_wireBlock_0 ?_
  refine go_istore (pc := 1) (Nat.le_of_ble_eq_true rfl) dX6_wireBlock_1 (go_lv (lv2 := [(0, .ref 48), (1, .int a2), (2, .int a3), (3, .int a4), (4, .int a5), (5, .int a3)]) rfl ?_)
  refine go_iload (pc := 3) rfl dX6_wireBlock_3 ?_
  refine go_bipush (pc := 5) (v := 6) (by decide) dX6_wireBlock_5 ?_
  refine gf_icmp_le (pc := 7) (tgt := 14) (ti_rfl a5) (ti_c (v := 6) (a := 6) (by decide)) (by decide) dX6_wireBlock_7 (fun q32 => ?_) (fun q32 => False.elim (by omega))
  refine go_iload_n (pc := 14) rfl dX6_wireBlock_14 ?_
  refine go_istore (pc := 15) (Nat.le_of_ble_eq_true rfl) dX6_wireBlock_15 (go_lv (lv2 := [(0, .ref 48), (1, .int a2), (2, .int a3), (3, .int a4), (4, .int a5), (5, .int a3), (6, .int a2)]) rfl ?_)
  refine go_iconst (pc := 17) (v := 0) (by decide) dX6_wireBlock_17 ?_
  refine go_istore (pc := 18) (Nat.le_of_ble_eq_true rfl) dX6_wireBlock_18 (go_lv (lv2 := [(0, .ref 48), (1, .int a2), (2, .int a3), (3, .int a4), (4, .int a5), (5, .int a3), (6, .int a2), (7, .int 0)]) rfl ?_)
  have z33 : (0 : Int32).toInt = 0 := (ti_c (v := 0) (a := 0) (by decide))
  exact go_lv rfl ((key 403) a4 a5 a3 a2 0 h hv (by omega) (by omega) (by omega) (by omega) (by omega) (by omega) (by omega) (by omega) (by omega) (by omega) fx (by rw [show (0 : Int32).toInt = 0 from (ti_c (v := 0) (a := 0) (by decide))]; exact k0) (by omega))
def f_X6_wire_ : Nat → Nat → Int → ST → ST
  | 0, _, _, sx => sx
  | n + 1, _, l2, sx => bd (sx.2.2 48 1) fun c1 => bd (sx.1 c1 1) fun v3 => if v3 ≤ l2 then (sx) else (bd (sx.1 44 (l2).toNat) fun v8 => bd (sx.2.2 48 1) fun c10 => bd2 (f_X6_wireBlock_lv0 sx v8 ((40 + l2)) (-1) 0) fun s14 v17 => bd (sI s14 (c10 + 1) (l2).toNat v17) fun s19 => f_X6_wire_ n 7 ((l2 + 1)) s19)
def f_X6_wire (s : ST) (c2 : Nat) : ST :=
  bd (sR s 48 1 c2) fun s24 => f_X6_wire_ 34 7 0 s24
set_option maxHeartbeats 4000000 in
set_option maxRecDepth 100000 in
theorem s_X6_wire_f (l : Launch) (d : Nat) {P : PP} {h : HP} (hv : Iv P h) (c2 : Nat) (hc2 : c2 = 2 ∨ c2 = 18) : Mt l yX6_wire cX6_wire 4 none (d + 16) [.ref 48, .ref c2] h 0 0 (fun r h' => r = none ∧ Iv P h' ∧ (st h' = f_X6_wire (st h) c2) ∧ (FX KC0 h h')) := by
  refine Mt_iv hv (by decide) (Nat.le_of_ble_eq_true rfl) ?_
  show Go l RX6 cX6_wire 4 (g_rm (d + 16) 0 0) "wire" none 117 0 0 (fun _ _ => True) (fun r h' => r = none ∧ Iv P h' ∧ (st h' = f_X6_wire (st h) c2) ∧ (FX KC0 h h')) 0 0 [(0, .ref 48), (1, .ref c2)] [] h
  have fx : FX KC0 h h := FX.rfl
  obtain ⟨fin, kf⟩ : ∃ z, z = f_X6_wire (st h) c2 := ⟨_, _root_.rfl⟩
  have k0 := kf
  unfold f_X6_wire at k0
  have key : ∀ n : Nat, (∀ (l2 : Int32) (hx : HP), Iv P hx → 0 ≤ l2.toInt → l2.toInt ≤ 5 → FX KC0 h hx → fin = f_X6_wire_ n 7 l2.toInt (st hx) → (3 * (5 - l2.toInt) + 2 : Int) < n → Go l RX6 cX6_wire 4 (g_rm (d + 16) 0 0) "wire" none 117 0 0 (fun _ _ => True) (fun r h' => r = none ∧ Iv P h' ∧ (st h' = f_X6_wire (st h) c2) ∧ (FX KC0 h h')) 0 7 [(0, .ref 48), (2, .int l2)] [] hx) := by
    intro n
    induction n with
    | zero => exact (by intros; omega)
    | succ n ih =>
      refine ?_
      ·
        intro l2 hx hvx l2l l2u fxx kL hm
        rw [f_X6_wire_] at kL
        refine go_iload_n (pc := 7) rfl dX6_wire_7 ?_
        refine go_aload_n (pc := 8) rfl dX6_wire_8 ?_
        refine gi_getC (pc := 9) hvx fL_X6_15 rfl (Nat.le_of_ble_eq_true rfl) rfl (by decide) dX6_wire_9 (fun c1 hc1 fc1 => ?_)
        have k2 := bd_e kL (st_c fc1)
        refine gi_get (pc := 12) (lo := 0) (hi := 5) hvx fL_X6_19 (by rcases hc1 with rfl | rfl <;> rfl) (Nat.le_of_ble_eq_true rfl) rfl (by rcases hc1 with rfl | rfl <;> rfl) dX6_wire_12 (fun v3 v3l v3u v3w => ?_)
        have k4 := bd_e k2 (congrArg Int32.toInt v3w.symm)
        refine gf_icmp_ge (pc := 15) (tgt := 54) (ti_rfl l2) (ti_rfl v3) (by decide) dX6_wire_15 (fun q5 => ?_) (fun q5 => ?_)
        ·
          have k6 := if_t k4 q5
          exact gi_vret (pc := 54) ⟨rfl, hvx, (k6.symm.trans kf), fxx⟩ hvx dX6_wire_54
        ·
          have k7 := if_f k4 (Int.not_le.mpr q5)
          refine go_aload_n (pc := 18) rfl dX6_wire_18 ?_
          refine gi_getF (pc := 19) (q := 36) hvx fL_X6_9 rfl (Nat.le_of_ble_eq_true rfl) rfl (hvx.rf (by decide)) dX6_wire_19 ?_
          refine gi_getF (pc := 22) (q := 44) hvx fL_X6_25 rfl (Nat.le_of_ble_eq_true rfl) rfl (hvx.rf (by decide)) dX6_wire_22 ?_
          refine go_iload_n (pc := 25) rfl dX6_wire_25 ?_
          refine gi_iald (pc := 26) (lo := -1) (hi := 127) (len := 5) hvx (ti_rfl l2) rfl (by omega) (by omega) (fun _ => rfl) dX6_wire_26 (fun v8 v8l v8u v8w => ?_)
          have k9 := bd_e k7 (congrArg Int32.toInt v8w.symm)
          refine go_istore_n (pc := 27) (Nat.le_of_ble_eq_true rfl) dX6_wire_27 (go_lv (lv2 := [(0, .ref 48), (2, .int l2), (3, .int v8)]) rfl ?_)
          refine go_aload_n (pc := 28) rfl dX6_wire_28 ?_
          refine gi_getC (pc := 29) hvx fL_X6_15 rfl (Nat.le_of_ble_eq_true rfl) rfl (by decide) dX6_wire_29 (fun c10 hc10 fc10 => ?_)
          have k11 := bd_e k9 (st_c fc10)
          refine gi_getF (pc := 32) (q := c10 + 1) hvx fL_X6_31 (by rcases hc10 with rfl | rfl <;> rfl) (Nat.le_of_ble_eq_true rfl) rfl (by rcases hc10 with rfl | rfl <;> exact hvx.rf (by decide)) dX6_wire_32 ?_
          refine go_iload_n (pc := 35) rfl dX6_wire_35 ?_
          refine go_aload_n (pc := 36) rfl dX6_wire_36 ?_
          refine go_iload_n (pc := 37) rfl dX6_wire_37 ?_
          refine go_bipush (pc := 38) (v := 40) (by decide) dX6_wire_38 ?_
          refine go_iload_n (pc := 40) rfl dX6_wire_40 ?_
          refine gf_iadd (pc := 41) (ti_c (v := 40) (a := 40) (by decide)) (ti_rfl l2) (by omega) (by omega) dX6_wire_41 (fun v12 e13 => ?_)
          refine go_iconst (pc := 42) (v := (-1)) (by decide) dX6_wire_42 ?_
          refine go_iconst (pc := 43) (v := 0) (by decide) dX6_wire_43 ?_
          refine go_invV (pc := 44) (sl := 0) (s_X6_wireBlock_lv0_f l (d + 0) hvx v8 (by rw [show (v8 : Int32).toInt = v8.toInt from (ti_rfl v8)]; omega) (by rw [show (v8 : Int32).toInt = v8.toInt from (ti_rfl v8)]; omega) v12 (by rw [show (v12 : Int32).toInt = (40 + l2.toInt) from e13]; omega) (by rw [show (v12 : Int32).toInt = (40 + l2.toInt) from e13]; omega) (-1) (by rw [show ((-1) : Int32).toInt = (-1) from (ti_c (v := (-1)) (a := (-1)) (by decide))]; omega) (by rw [show ((-1) : Int32).toInt = (-1) from (ti_c (v := (-1)) (a := (-1)) (by decide))]; omega) 0 (by rw [show (0 : Int32).toInt = 0 from (ti_c (v := 0) (a := 0) (by decide))]; omega) (by rw [show (0 : Int32).toInt = 0 from (ti_c (v := 0) (a := 0) (by decide))]; omega)) mL_X6_34 iM_X6_wireBlock sM_X6_wireBlock (hvx.sh rfl) rfl rfl rfl (Nat.le_of_ble_eq_true rfl) (show d + 0 + 15 + 1 ≤ d + 16 by omega) (show 8 + (8 + 11) + 40 * (d + 0 + 15) ≤ 40 * (d + 16) by omega) (g_c0 hvx.ln) (Nat.le_of_ble_eq_true rfl) dX6_wire_44 ?_
          intro r h14 hq _
          obtain ⟨v17, rfl, v17l, v17u, hv14, f15, f16⟩ := hq
          try rw [show (v12 : Int32).toInt = (40 + l2.toInt) from e13] at f15
          try rw [show ((-1) : Int32).toInt = (-1) from (ti_c (v := (-1)) (a := (-1)) (by decide))] at f15
          try rw [show (0 : Int32).toInt = 0 from (ti_c (v := 0) (a := 0) (by decide))] at f15
          try rw [show (v12 : Int32).toInt = (40 + l2.toInt) from e13] at f16
          try rw [show ((-1) : Int32).toInt = (-1) from (ti_c (v := (-1)) (a := (-1)) (by decide))] at f16
          try rw [show (0 : Int32).toInt = 0 from (ti_c (v := 0) (a := 0) (by decide))] at f16
          have fx14 : FX KC0 h h14 := FX.tr fxx f16
          have k18 := bd2_e k11 f15
          refine gi_iast (pc := 47) (lo := 0) (hi := 44) (len := 5) hv14 (ti_rfl l2) (ti_rfl v17) (by rcases hc10 with rfl | rfl <;> rfl) (by omega) (by omega) (fun _ => by rcases hc10 with rfl | rfl <;> rfl) (by omega) (by omega) (by rcases hc10 with rfl | rfl <;> decide) dX6_wire_47 (fun h19 hv19 hv19e => ?_)
          have fx19 : FX KC0 h h19 := FX.pI fx14 hv19e (by unfold KC0; omega)
          have k20 := bd_e k18 (st_I hv19e (ti_rfl v17))
          refine gf_iinc (pc := 48) (Nat.le_of_ble_eq_true rfl) rfl (ti_rfl l2) (ti_c (by decide)) (by omega) (by omega) dX6_wire_48 (fun v21 e22 => ?_)
          refine go_lv (lv2 := [(0, .ref 48), (2, .int v21), (3, .int v8)]) rfl ?_
          refine go_goto (pc := 51) (tgt := 7) (by decide) dX6_wire_51 ?_
          have z23 : (v21 : Int32).toInt = (l2.toInt + 1) := e22
          exact go_lv rfl (ih v21 h19 hv19 (by omega) (by omega) fx19 (by rw [show (v21 : Int32).toInt = (l2.toInt + 1) from e22]; exact k20) (by omega))
  refine go_aload_n (pc := 0) rfl dX6_wire_0 ?_
  refine go_aload_n (pc := 1) rfl dX6_wire_1 ?_
  refine gi_putC (pc := 2) hv hc2 (fP_X6_15 _) rfl (Nat.le_of_ble_eq_true rfl) rfl (fun _ => rfl) (fun _ => rfl) (by decide) (by decide) (by decide) (by decide) dX6_wire_2 (fun h24 hv24 hv24e => ?_)
  have fx24 : FX KC0 h h24 := FX.pR fx hv24e (by unfold KC0; omega)
  have k25 := bd_e k0 (st_R hv24e)
  refine go_iconst (pc := 5) (v := 0) (by decide) dX6_wire_5 ?_
  refine go_istore_n (pc := 6) (Nat.le_of_ble_eq_true rfl) dX6_wire_6 (go_lv (lv2 := [(0, .ref 48), (1, .ref c2), (2, .int 0)]) rfl ?_)
  have z26 : (0 : Int32).toInt = 0 := (ti_c (v := 0) (a := 0) (by decide))
  exact go_lv rfl ((key 34) 0 h24 hv24 (by omega) (by omega) fx24 (by rw [show (0 : Int32).toInt = 0 from (ti_c (v := 0) (a := 0) (by decide))]; exact k25) (by omega))

