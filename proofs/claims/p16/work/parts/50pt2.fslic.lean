def f_X0_callsOf2_ : Nat → Nat → Nat → Int → Int64 → Int → ST → Int64
  | 0, _, _, _, _, _, _ => 0
  | n + 1, _, l0, l1, l2, l4, s => bd (s.1 l0 0) fun v1 => if v1 ≤ l4 then (l2) else (bd (s.1 (l0 + 7) (l4).toNat) fun v6 => if ¬ v6 = l1 then (f_X0_callsOf2_ n 5 l0 l1 l2 ((l4 + 1)) s) else (bd (f_X7_bit s l4) fun v16 => bd (o_lor l2 v16) fun v18 => f_X0_callsOf2_ n 5 l0 l1 v18 ((l4 + 1)) s))
def f_X0_callsOf2 (s : ST) (c1 : Nat) (a2 : Int) : Int64 :=
  f_X0_callsOf2_ 139 5 c1 a2 (0 : Int64) 0 s
set_option maxHeartbeats 4000000 in
set_option maxRecDepth 100000 in
theorem s_X0_callsOf2_f (l : Launch) (d : Nat) {P : PP} {h : HP} (hv : Iv P h) (c1 : Nat) (hc1 : c1 = 2 ∨ c1 = 18) (a2 : Int32) : Mt l yX0_callsOf cX0_callsOf 5 (some .long) (d + 2) [.ref c1, .int a2] h 0 0 (fun r h' => ∃ v : Int64, r = some (.long v) ∧ h = h' ∧ (v = f_X0_callsOf2 (st h) c1 a2.toInt)) := by
  refine Mt_iv hv (by decide) (Nat.le_of_ble_eq_true rfl) ?_
  show Go l RX0 cX0_callsOf 5 (g_rm (d + 2) 0 0) "callsOf" (some .long) 117 0 0 (fun _ _ => True) (fun r h' => ∃ v : Int64, r = some (.long v) ∧ h = h' ∧ (v = f_X0_callsOf2 (st h) c1 a2.toInt)) 0 0 [(0, .ref c1), (1, .int a2)] [] h
  obtain ⟨fin, kf⟩ : ∃ z, z = f_X0_callsOf2 (st h) c1 a2.toInt := ⟨_, _root_.rfl⟩
  have k0 := kf
  unfold f_X0_callsOf2 at k0
  have key : ∀ n : Nat, (∀ (l0 : Nat) (l1 : Int32) (l2 : Int64) (l4 : Int32), (l0 = 2 ∨ l0 = 18) → 0 ≤ l4.toInt → l4.toInt ≤ 40 → fin = f_X0_callsOf2_ n 5 l0 l1.toInt l2 l4.toInt (st h) → (3 * (40 - l4.toInt) + 2 : Int) < n → Go l RX0 cX0_callsOf 5 (g_rm (d + 2) 0 0) "callsOf" (some .long) 117 0 0 (fun _ _ => True) (fun r h' => ∃ v : Int64, r = some (.long v) ∧ h = h' ∧ (v = f_X0_callsOf2 (st h) c1 a2.toInt)) 0 5 [(0, .ref l0), (1, .int l1), (2, .long l2), (4, .int l4)] [] h) := by
    intro n
    induction n with
    | zero => exact (by intros; omega)
    | succ n ih =>
      refine ?_
      ·
        intro l0 l1 l2 l4 hl0 l4l l4u kL hm
        rw [f_X0_callsOf2_] at kL
        refine go_iload (pc := 5) rfl dX0_callsOf_5 ?_
        refine go_aload_n (pc := 7) rfl dX0_callsOf_7 ?_
        refine gi_get (pc := 8) (lo := 0) (hi := 40) hv fL_X0_9 (by rcases hl0 with rfl | rfl <;> rfl) (Nat.le_of_ble_eq_true rfl) rfl (by rcases hl0 with rfl | rfl <;> rfl) dX0_callsOf_8 (fun v1 v1l v1u v1w => ?_)
        have k2 := bd_e kL (congrArg Int32.toInt v1w.symm)
        refine gf_icmp_ge (pc := 11) (tgt := 39) (ti_rfl l4) (ti_rfl v1) (by decide) dX0_callsOf_11 (fun q3 => ?_) (fun q3 => ?_)
        ·
          have k4 := if_t k2 q3
          refine go_lload_n (pc := 39) rfl dX0_callsOf_39 ?_
          exact gi_lret (pc := 40) ⟨_, rfl, rfl, (k4.symm.trans kf)⟩ hv dX0_callsOf_40
        ·
          have k5 := if_f k2 (Int.not_le.mpr q3)
          refine go_aload_n (pc := 14) rfl dX0_callsOf_14 ?_
          refine gi_getF (pc := 15) (q := l0 + 7) hv fL_X0_47 (by rcases hl0 with rfl | rfl <;> rfl) (Nat.le_of_ble_eq_true rfl) rfl (by rcases hl0 with rfl | rfl <;> exact hv.rf (by decide)) dX0_callsOf_15 ?_
          refine go_iload (pc := 18) rfl dX0_callsOf_18 ?_
          refine gi_iald (pc := 20) (lo := -2) (hi := 4) (len := 40) hv (ti_rfl l4) (by rcases hl0 with rfl | rfl <;> rfl) (by omega) (by omega) (fun _ => by rcases hl0 with rfl | rfl <;> rfl) dX0_callsOf_20 (fun v6 v6l v6u v6w => ?_)
          have k7 := bd_e k5 (congrArg Int32.toInt v6w.symm)
          refine go_iload_n (pc := 21) rfl dX0_callsOf_21 ?_
          refine gf_icmp_ne (pc := 22) (tgt := 33) (ti_rfl v6) (ti_rfl l1) (by decide) dX0_callsOf_22 (fun q8 => ?_) (fun q8 => ?_)
          ·
            have k9 := if_t k7 q8
            refine gf_iinc (pc := 33) (Nat.le_of_ble_eq_true rfl) rfl (ti_rfl l4) (ti_c (by decide)) (by omega) (by omega) dX0_callsOf_33 (fun v10 e11 => ?_)
            refine go_lv (lv2 := [(0, .ref l0), (1, .int l1), (2, .long l2), (4, .int v10)]) rfl ?_
            refine go_goto (pc := 36) (tgt := 5) (by decide) dX0_callsOf_36 ?_
            have z12 : (v10 : Int32).toInt = (l4.toInt + 1) := e11
            exact go_lv rfl (ih l0 l1 l2 v10  hl0 (by omega) (by omega) (by rw [show (v10 : Int32).toInt = (l4.toInt + 1) from e11]; exact k9) (by omega))
          ·
            have k13 := if_f k7 (fun z => z q8)
            refine go_lload_n (pc := 25) rfl dX0_callsOf_25 ?_
            refine go_iload (pc := 26) rfl dX0_callsOf_26 ?_
            refine go_invS (pc := 28) (sl := 0) (s_X7_bit_f l (d + 0) hv l4) mL_X0_86 iM_X7_bit rfl rfl (Nat.le_of_ble_eq_true rfl) (show d + 0 + 1 + 1 ≤ d + 2 by omega) (show 8 + (1 + 11) + 40 * (d + 0 + 1) ≤ 40 * (d + 2) by omega) (g_c0 hv.ln) (Nat.le_of_ble_eq_true rfl) dX0_callsOf_28 ?_
            intro r h14 hq _
            obtain ⟨v16, rfl, rfl, f15⟩ := hq
            have k17 := bd_e k13 f15.symm
            refine gx_lor (pc := 31) dX0_callsOf_31 (fun v18 v18x => ?_)
            have k19 := bd_e k17 (so_lor v18x)
            refine go_lstore_n (pc := 32) (Nat.le_of_ble_eq_true rfl) dX0_callsOf_32 (go_lv (lv2 := [(0, .ref l0), (1, .int l1), (2, .long v18), (4, .int l4)]) rfl ?_)
            refine gf_iinc (pc := 33) (Nat.le_of_ble_eq_true rfl) rfl (ti_rfl l4) (ti_c (by decide)) (by omega) (by omega) dX0_callsOf_33 (fun v20 e21 => ?_)
            refine go_lv (lv2 := [(0, .ref l0), (1, .int l1), (2, .long v18), (4, .int v20)]) rfl ?_
            refine go_goto (pc := 36) (tgt := 5) (by decide) dX0_callsOf_36 ?_
            have z22 : (v20 : Int32).toInt = (l4.toInt + 1) := e21
            exact go_lv rfl (ih l0 l1 v18 v20  hl0 (by omega) (by omega) (by rw [show (v20 : Int32).toInt = (l4.toInt + 1) from e21]; exact k19) (by omega))
  refine go_lconst (pc := 0) (v := 0) (by decide) dX0_callsOf_0 ?_
  refine go_lstore_n (pc := 1) (Nat.le_of_ble_eq_true rfl) dX0_callsOf_1 (go_lv (lv2 := [(0, .ref c1), (1, .int a2), (2, .long 0)]) rfl ?_)
  refine go_iconst (pc := 2) (v := 0) (by decide) dX0_callsOf_2 ?_
  refine go_istore (pc := 3) (Nat.le_of_ble_eq_true rfl) dX0_callsOf_3 (go_lv (lv2 := [(0, .ref c1), (1, .int a2), (2, .long 0), (4, .int 0)]) rfl ?_)
  have z23 : (0 : Int32).toInt = 0 := (ti_c (v := 0) (a := 0) (by decide))
  exact go_lv rfl ((key 139) c1 a2 0 0  hc1 (by omega) (by omega) (by rw [show (0 : Int32).toInt = 0 from (ti_c (v := 0) (a := 0) (by decide))]; exact k0) (by omega))
def f_X4_clearFound2 (s : ST) : ST :=
  bd (f_J7_fill_d0a16_at522 s (0 : Int64)) fun s1 => bd (f_J7_fill_d0a16_at532 s1 (0 : Int64)) fun s5 => bd (sI s5 49 8 0) fun s9 => s9
set_option maxHeartbeats 4000000 in
set_option maxRecDepth 100000 in
theorem s_X4_clearFound2_f (l : Launch) (d : Nat) {P : PP} {h : HP} (hv : Iv P h)  : Mt l yX4_clearFound cX4_clearFound 1 none (d + 2) [.ref 49] h 0 0 (fun r h' => r = none ∧ Iv P h' ∧ (st h' = f_X4_clearFound2 (st h)) ∧ (FX KQ h h')) := by
  refine Mt_iv hv (by decide) (Nat.le_of_ble_eq_true rfl) ?_
  show Go l RX4 cX4_clearFound 1 (g_rm (d + 2) 0 0) "clearFound" none 117 0 0 (fun _ _ => True) (fun r h' => r = none ∧ Iv P h' ∧ (st h' = f_X4_clearFound2 (st h)) ∧ (FX KQ h h')) 0 0 [(0, .ref 49)] [] h
  have fx : FX KQ h h := FX.rfl
  obtain ⟨fin, kf⟩ : ∃ z, z = f_X4_clearFound2 (st h) := ⟨_, _root_.rfl⟩
  have k0 := kf
  unfold f_X4_clearFound2 at k0
  refine go_aload_n (pc := 0) rfl dX4_clearFound_0 ?_
  refine gi_getF (pc := 1) (q := 52) hv fL_X4_23 rfl (Nat.le_of_ble_eq_true rfl) rfl (hv.rf (by decide)) dX4_clearFound_1 ?_
  refine go_lconst (pc := 4) (v := 0) (by decide) dX4_clearFound_4 ?_
  refine go_invS (pc := 5) (sl := 0) (s_J7_fill_d0a16_at522_f l (d + 0) hv (0 : Int64)) mL_X4_106 iM_J7_fill_d0a16 rfl rfl (Nat.le_of_ble_eq_true rfl) (show d + 0 + 1 + 1 ≤ d + 2 by omega) (show 8 + (5 + 11) + 40 * (d + 0 + 1) ≤ 40 * (d + 2) by omega) (g_c0 hv.ln) (Nat.le_of_ble_eq_true rfl) dX4_clearFound_5 ?_
  intro r h1 hq _
  obtain ⟨rfl, hv1, f2, f3⟩ := hq
  have fx1 : FX KQ h h1 := FX.tr fx f3
  have k4 := bd_e k0 f2.symm
  refine go_aload_n (pc := 8) rfl dX4_clearFound_8 ?_
  refine gi_getF (pc := 9) (q := 53) hv1 fL_X4_26 rfl (Nat.le_of_ble_eq_true rfl) rfl (hv1.rf (by decide)) dX4_clearFound_9 ?_
  refine go_lconst (pc := 12) (v := 0) (by decide) dX4_clearFound_12 ?_
  refine go_invS (pc := 13) (sl := 0) (s_J7_fill_d0a16_at532_f l (d + 0) hv1 (0 : Int64)) mL_X4_106 iM_J7_fill_d0a16 rfl rfl (Nat.le_of_ble_eq_true rfl) (show d + 0 + 1 + 1 ≤ d + 2 by omega) (show 8 + (5 + 11) + 40 * (d + 0 + 1) ≤ 40 * (d + 2) by omega) (g_c0 hv1.ln) (Nat.le_of_ble_eq_true rfl) dX4_clearFound_13 ?_
  intro r h5 hq _
  obtain ⟨rfl, hv5, f6, f7⟩ := hq
  have fx5 : FX KQ h h5 := FX.tr fx1 f7
  have k8 := bd_e k4 f6.symm
  refine go_aload_n (pc := 16) rfl dX4_clearFound_16 ?_
  refine go_iconst (pc := 17) (v := 0) (by decide) dX4_clearFound_17 ?_
  refine gi_put (pc := 18) (lo := 0) (hi := 585) hv5 (ti_c (v := 0) (a := 0) (by decide)) (fP_X4_32 _) rfl (Nat.le_of_ble_eq_true rfl) rfl rfl (by omega) (by omega) rfl rfl (by decide) (by decide) (by decide) (by decide) dX4_clearFound_18 (fun h9 hv9 hv9e => ?_)
  have fx9 : FX KQ h h9 := FX.pI fx5 hv9e (by unfold KQ; omega)
  have k10 := bd_e k8 (st_I hv9e (ti_c (v := 0) (a := 0) (by decide)))
  exact gi_vret (pc := 21) ⟨rfl, hv9, (k10.symm.trans kf), fx9⟩ hv9 dX4_clearFound_21
def f_X4_add2_ : Nat → Nat → Int → Int64 → Int → ST → ST
  | 0, _, _, _, _, sx => sx
  | n + 1, _, l2, l5, l7, sx => if 45 ≤ l7 then (sx) else (bd (o_lushr l5 l7) fun v4 => bd (o_lcmp v4 (0 : Int64)) fun v6 => if v6 = 0 then (sx) else (bd (o_lushr l5 l7) fun v11 => bd (o_land v11 (1 : Int64)) fun v13 => bd (o_lcmp v13 (0 : Int64)) fun v15 => if v15 = 0 then (f_X4_add2_ n 30 l2 l5 ((l7 + 1)) sx) else (bd (sx.1 49 8) fun v23 => if 585 ≤ v23 then (f_X4_add2_ n 30 l2 l5 ((l7 + 1)) sx) else (bd (sI sx 54 (v23).toNat (((l7 * 13) + l2))) fun s36 => bd (sI s36 49 8 ((v23 + 1))) fun s41 => f_X4_add2_ n 30 l2 l5 ((l7 + 1)) s41))))
def f_X4_add2 (s : ST) (c2 : Nat) (a3 : Int) (a4 : Int64) : ST :=
  bd (s.2.1 c2 (a3).toNat) fun v46 => bd (o_lxor v46 ((-1) : Int64)) fun v48 => bd (o_land a4 v48) fun v50 => bd (o_lcmp v50 (0 : Int64)) fun v52 => if ¬ v52 = 0 then (bd (s.2.1 c2 (a3).toNat) fun v56 => bd (o_lor v56 v50) fun v58 => bd (sL s c2 (a3).toNat v58) fun s60 => f_X4_add2_ 154 30 a3 v50 0 s60) else (s)
set_option maxHeartbeats 4000000 in
set_option maxRecDepth 100000 in
theorem s_X4_add2_f (l : Launch) (d : Nat) {P : PP} {h : HP} (hv : Iv P h) (c2 : Nat) (hc2 : c2 = 52 ∨ c2 = 53) (a3 : Int32) (a3l : 0 ≤ a3.toInt) (a3u : a3.toInt ≤ 12) (a4 : Int64) : Mt l yX4_add cX4_add 8 none (d + 1) [.ref 49, .ref c2, .int a3, .long a4] h 0 0 (fun r h' => r = none ∧ Iv P h' ∧ (st h' = f_X4_add2 (st h) c2 a3.toInt a4) ∧ (FX KQ h h')) := by
  refine Mt_iv hv (by decide) (Nat.le_of_ble_eq_true rfl) ?_
  show Go l RX4 cX4_add 8 (g_rm (d + 1) 0 0) "add" none 117 0 0 (fun _ _ => True) (fun r h' => r = none ∧ Iv P h' ∧ (st h' = f_X4_add2 (st h) c2 a3.toInt a4) ∧ (FX KQ h h')) 0 0 [(0, .ref 49), (1, .ref c2), (2, .int a3), (3, .long a4)] [] h
  have fx : FX KQ h h := FX.rfl
  obtain ⟨fin, kf⟩ : ∃ z, z = f_X4_add2 (st h) c2 a3.toInt a4 := ⟨_, _root_.rfl⟩
  have k0 := kf
  unfold f_X4_add2 at k0
  have key : ∀ n : Nat, (∀ (l2 : Int32) (l5 : Int64) (l7 : Int32) (hx : HP), Iv P hx → 0 ≤ l2.toInt → l2.toInt ≤ 12 → 0 ≤ l7.toInt → l7.toInt ≤ 45 → FX KQ h hx → fin = f_X4_add2_ n 30 l2.toInt l5 l7.toInt (st hx) → (3 * (45 - l7.toInt) + 2 : Int) < n → Go l RX4 cX4_add 8 (g_rm (d + 1) 0 0) "add" none 117 0 0 (fun _ _ => True) (fun r h' => r = none ∧ Iv P h' ∧ (st h' = f_X4_add2 (st h) c2 a3.toInt a4) ∧ (FX KQ h h')) 0 30 [(0, .ref 49), (2, .int l2), (5, .long l5), (7, .int l7)] [] hx) := by
    intro n
    induction n with
    | zero => exact (by intros; omega)
    | succ n ih =>
      refine ?_
      ·
        intro l2 l5 l7 hx hvx l2l l2u l7l l7u fxx kL hm
        rw [f_X4_add2_] at kL
        refine go_iload (pc := 30) rfl dX4_add_30 ?_
        refine go_bipush (pc := 32) (v := 45) (by decide) dX4_add_32 ?_
        refine gf_icmp_ge (pc := 34) (tgt := 103) (ti_rfl l7) (ti_c (v := 45) (a := 45) (by decide)) (by decide) dX4_add_34 (fun q1 => ?_) (fun q1 => ?_)
        ·
          have k2 := if_t kL q1
          exact gi_vret (pc := 103) ⟨rfl, hvx, (k2.symm.trans kf), fxx⟩ hvx dX4_add_103
        ·
          have k3 := if_f kL (Int.not_le.mpr q1)
          refine go_lload (pc := 37) rfl dX4_add_37 ?_
          refine go_iload (pc := 39) rfl dX4_add_39 ?_
          refine gx_lushr (pc := 41) dX4_add_41 (fun v4 v4x => ?_)
          have k5 := bd_e k3 (so_lushr (ti_rfl l7) v4x)
          refine go_lconst (pc := 42) (v := 0) (by decide) dX4_add_42 ?_
          refine gx_lcmp (pc := 43) dX4_add_43 (fun v6 v6x => ?_)
          have k7 := bd_e k5 (so_lcmp v6x)
          refine gf_if_eq (pc := 44) (tgt := 103) (ti_rfl v6) (by decide) dX4_add_44 (fun q8 => ?_) (fun q8 => ?_)
          ·
            have k9 := if_t k7 q8
            exact gi_vret (pc := 103) ⟨rfl, hvx, (k9.symm.trans kf), fxx⟩ hvx dX4_add_103
          ·
            have k10 := if_f k7 q8
            refine go_lload (pc := 47) rfl dX4_add_47 ?_
            refine go_iload (pc := 49) rfl dX4_add_49 ?_
            refine gx_lushr (pc := 51) dX4_add_51 (fun v11 v11x => ?_)
            have k12 := bd_e k10 (so_lushr (ti_rfl l7) v11x)
            refine go_lconst (pc := 52) (v := 1) (by decide) dX4_add_52 ?_
            refine gx_land (pc := 53) dX4_add_53 (fun v13 v13x => ?_)
            have k14 := bd_e k12 (so_land v13x)
            refine go_lconst (pc := 54) (v := 0) (by decide) dX4_add_54 ?_
            refine gx_lcmp (pc := 55) dX4_add_55 (fun v15 v15x => ?_)
            have k16 := bd_e k14 (so_lcmp v15x)
            refine gf_if_eq (pc := 56) (tgt := 97) (ti_rfl v15) (by decide) dX4_add_56 (fun q17 => ?_) (fun q17 => ?_)
            ·
              have k18 := if_t k16 q17
              refine gf_iinc (pc := 97) (Nat.le_of_ble_eq_true rfl) rfl (ti_rfl l7) (ti_c (by decide)) (by omega) (by omega) dX4_add_97 (fun v19 e20 => ?_)
              refine go_lv (lv2 := [(0, .ref 49), (2, .int l2), (5, .long l5), (7, .int v19)]) rfl ?_
              refine go_goto (pc := 100) (tgt := 30) (by decide) dX4_add_100 ?_
              have z21 : (v19 : Int32).toInt = (l7.toInt + 1) := e20
              exact go_lv rfl (ih l2 l5 v19 hx hvx (by omega) (by omega) (by omega) (by omega) fxx (by rw [show (v19 : Int32).toInt = (l7.toInt + 1) from e20]; exact k18) (by omega))
            ·
              have k22 := if_f k16 q17
              refine go_aload_n (pc := 59) rfl dX4_add_59 ?_
              refine gi_get (pc := 60) (lo := 0) (hi := 585) hvx fL_X4_32 rfl (Nat.le_of_ble_eq_true rfl) rfl rfl dX4_add_60 (fun v23 v23l v23u v23w => ?_)
              have k24 := bd_e k22 (congrArg Int32.toInt v23w.symm)
              refine go_aload_n (pc := 63) rfl dX4_add_63 ?_
              refine gi_getF (pc := 64) (q := 54) hvx fL_X4_29 rfl (Nat.le_of_ble_eq_true rfl) rfl (hvx.rf (by decide)) dX4_add_64 ?_
              refine go_alen (pc := 67) (v := 585) (hvx.sh rfl) (by decide) (by decide) dX4_add_67 ?_
              refine gf_icmp_ge (pc := 68) (tgt := 97) (ti_rfl v23) (ti_c (v := 585) (a := 585) (by decide)) (by decide) dX4_add_68 (fun q25 => ?_) (fun q25 => ?_)
              ·
                have k26 := if_t k24 q25
                refine gf_iinc (pc := 97) (Nat.le_of_ble_eq_true rfl) rfl (ti_rfl l7) (ti_c (by decide)) (by omega) (by omega) dX4_add_97 (fun v27 e28 => ?_)
                refine go_lv (lv2 := [(0, .ref 49), (2, .int l2), (5, .long l5), (7, .int v27)]) rfl ?_
                refine go_goto (pc := 100) (tgt := 30) (by decide) dX4_add_100 ?_
                have z29 : (v27 : Int32).toInt = (l7.toInt + 1) := e28
                exact go_lv rfl (ih l2 l5 v27 hx hvx (by omega) (by omega) (by omega) (by omega) fxx (by rw [show (v27 : Int32).toInt = (l7.toInt + 1) from e28]; exact k26) (by omega))
              ·
                have k30 := if_f k24 (Int.not_le.mpr q25)
                refine go_aload_n (pc := 71) rfl dX4_add_71 ?_
                refine gi_getF (pc := 72) (q := 54) hvx fL_X4_29 rfl (Nat.le_of_ble_eq_true rfl) rfl (hvx.rf (by decide)) dX4_add_72 ?_
                refine go_aload_n (pc := 75) rfl dX4_add_75 ?_
                refine gi_get (pc := 76) (lo := 0) (hi := 585) hvx fL_X4_32 rfl (Nat.le_of_ble_eq_true rfl) rfl rfl dX4_add_76 (fun v31 v31l v31u v31w => ?_)
                have v31r : v23 = hx.2.1 49 8 := v23w
                have v31q : TI v31 v23.toInt := by rw [v31w.trans v31r.symm]; exact (ti_rfl v23)
                refine go_iload (pc := 79) rfl dX4_add_79 ?_
                refine go_bipush (pc := 81) (v := 13) (by decide) dX4_add_81 ?_
                refine gf_imul (pc := 83) (ti_rfl l7) (ti_c (v := 13) (a := 13) (by decide)) (by omega) (by omega) dX4_add_83 (fun v32 e33 => ?_)
                refine go_iload_n (pc := 84) rfl dX4_add_84 ?_
                refine gf_iadd (pc := 85) e33 (ti_rfl l2) (by omega) (by omega) dX4_add_85 (fun v34 e35 => ?_)
                refine gi_iast (pc := 86) (lo := 0) (hi := 584) (len := 585) hvx v31q e35 rfl (by omega) (by omega) (fun _ => rfl) (by omega) (by omega) (by decide) dX4_add_86 (fun h36 hv36 hv36e => ?_)
                have fx36 : FX KQ h h36 := FX.pI fxx hv36e (by unfold KQ; omega)
                have k37 := bd_e k30 (st_I hv36e e35)
                refine go_aload_n (pc := 87) rfl dX4_add_87 ?_
                refine go_dup (pc := 88) rfl dX4_add_88 ?_
                refine gi_get (pc := 89) (lo := 0) (hi := 585) hv36 fL_X4_32 rfl (Nat.le_of_ble_eq_true rfl) rfl rfl dX4_add_89 (fun v38 v38l v38u v38w => ?_)
                have v38r : v23 = h36.2.1 49 8 := (show v23 = h36.2.1 49 8 from by rw [hv36e]; exact (g_iI rfl v23w.symm).symm)
                have v38q : TI v38 v23.toInt := by rw [v38w.trans v38r.symm]; exact (ti_rfl v23)
                refine go_iconst (pc := 92) (v := 1) (by decide) dX4_add_92 ?_
                refine gf_iadd (pc := 93) v38q (ti_c (v := 1) (a := 1) (by decide)) (by omega) (by omega) dX4_add_93 (fun v39 e40 => ?_)
                refine gi_put (pc := 94) (lo := 0) (hi := 585) hv36 e40 (fP_X4_32 _) rfl (Nat.le_of_ble_eq_true rfl) rfl rfl (by omega) (by omega) rfl rfl (by decide) (by decide) (by decide) (by decide) dX4_add_94 (fun h41 hv41 hv41e => ?_)
                have fx41 : FX KQ h h41 := FX.pI fx36 hv41e (by unfold KQ; omega)
                have k42 := bd_e k37 (st_I hv41e e40)
                refine gf_iinc (pc := 97) (Nat.le_of_ble_eq_true rfl) rfl (ti_rfl l7) (ti_c (by decide)) (by omega) (by omega) dX4_add_97 (fun v43 e44 => ?_)
                refine go_lv (lv2 := [(0, .ref 49), (2, .int l2), (5, .long l5), (7, .int v43)]) rfl ?_
                refine go_goto (pc := 100) (tgt := 30) (by decide) dX4_add_100 ?_
                have z45 : (v43 : Int32).toInt = (l7.toInt + 1) := e44
                exact go_lv rfl (ih l2 l5 v43 h41 hv41 (by omega) (by omega) (by omega) (by omega) fx41 (by rw [show (v43 : Int32).toInt = (l7.toInt + 1) from e44]; exact k42) (by omega))
  refine go_lload_n (pc := 0) rfl dX4_add_0 ?_
  refine go_aload_n (pc := 1) rfl dX4_add_1 ?_
  refine go_iload_n (pc := 2) rfl dX4_add_2 ?_
  refine gi_lald (pc := 3) (len := 13) hv (ti_rfl a3) (by rcases hc2 with rfl | rfl <;> rfl) (by omega) (by omega) dX4_add_3 (fun v46 v46w => ?_)
  have k47 := bd_e k0 v46w.symm
  refine go_ldc2 (pc := 4) kL_X4_109 dX4_add_4 ?_
  refine gx_lxor (pc := 7) dX4_add_7 (fun v48 v48x => ?_)
  have k49 := bd_e k47 (so_lxor v48x)
  refine gx_land (pc := 8) dX4_add_8 (fun v50 v50x => ?_)
  have k51 := bd_e k49 (so_land v50x)
  refine go_lstore (pc := 9) (Nat.le_of_ble_eq_true rfl) dX4_add_9 (go_lv (lv2 := [(0, .ref 49), (1, .ref c2), (2, .int a3), (3, .long a4), (5, .long v50)]) rfl ?_)
  refine go_lload (pc := 11) rfl dX4_add_11 ?_
  refine go_lconst (pc := 13) (v := 0) (by decide) dX4_add_13 ?_
  refine gx_lcmp (pc := 14) dX4_add_14 (fun v52 v52x => ?_)
  have k53 := bd_e k51 (so_lcmp v52x)
  refine gf_if_ne (pc := 15) (tgt := 19) (ti_rfl v52) (by decide) dX4_add_15 (fun q54 => ?_) (fun q54 => ?_)
  ·
    have k55 := if_t k53 q54
    refine go_aload_n (pc := 19) rfl dX4_add_19 ?_
    refine go_iload_n (pc := 20) rfl dX4_add_20 ?_
    refine go_dup2 (pc := 21) rfl rfl dX4_add_21 ?_
    refine gi_lald (pc := 22) (len := 13) hv (ti_rfl a3) (by rcases hc2 with rfl | rfl <;> rfl) (by omega) (by omega) dX4_add_22 (fun v56 v56w => ?_)
    have k57 := bd_e k55 v56w.symm
    refine go_lload (pc := 23) rfl dX4_add_23 ?_
    refine gx_lor (pc := 25) dX4_add_25 (fun v58 v58x => ?_)
    have k59 := bd_e k57 (so_lor v58x)
    refine gi_last (pc := 26) (len := 13) hv (ti_rfl a3) (by rcases hc2 with rfl | rfl <;> rfl) (by omega) (by omega) dX4_add_26 (fun h60 hv60 hv60e => ?_)
    have fx60 : FX KQ h h60 := FX.pL fx hv60e (by unfold KQ; omega)
    have k61 := bd_e k59 (st_L hv60e)
    refine go_iconst (pc := 27) (v := 0) (by decide) dX4_add_27 ?_
    refine go_istore (pc := 28) (Nat.le_of_ble_eq_true rfl) dX4_add_28 (go_lv (lv2 := [(0, .ref 49), (1, .ref c2), (2, .int a3), (3, .long a4), (5, .long v50), (7, .int 0)]) rfl ?_)
    have z62 : (0 : Int32).toInt = 0 := (ti_c (v := 0) (a := 0) (by decide))
    exact go_lv rfl ((key 154) a3 v50 0 h60 hv60 (by omega) (by omega) (by omega) (by omega) fx60 (by rw [show (0 : Int32).toInt = 0 from (ti_c (v := 0) (a := 0) (by decide))]; exact k61) (by omega))
  ·
    have k63 := if_f k53 (fun z => z q54)
    exact gi_vret (pc := 18) ⟨rfl, hv, (k63.symm.trans kf), fx⟩ hv dX4_add_18
def f_X4_followRow2_ : Nat → Nat → Nat → Int → Int → ST → ST
  | 0, _, _, _, _, sx => sx
  | n + 1, _, l1, l3, l4, sx => if 13 ≤ l4 then (sx) else (bd (sx.2.1 58 ((l3 + l4)).toNat) fun v6 => bd (o_lcmp v6 (0 : Int64)) fun v8 => if v8 = 0 then (f_X4_followRow2_ n 8 l1 l3 ((l4 + 1)) sx) else (bd (f_X4_add2 sx l1 l4 v6) fun s16 => f_X4_followRow2_ n 8 l1 l3 ((l4 + 1)) s16))
def f_X4_followRow2 (s : ST) (c2 : Nat) (a3 : Int) : ST :=
  f_X4_followRow2_ 58 8 c2 ((a3 * 13)) 0 s
set_option maxHeartbeats 4000000 in
set_option maxRecDepth 100000 in
theorem s_X4_followRow2_f (l : Launch) (d : Nat) {P : PP} {h : HP} (hv : Iv P h) (c2 : Nat) (hc2 : c2 = 52 ∨ c2 = 53) (a3 : Int32) (a3l : 0 ≤ a3.toInt) (a3u : a3.toInt ≤ 584) : Mt l yX4_followRow cX4_followRow 7 none (d + 2) [.ref 49, .ref c2, .int a3] h 0 0 (fun r h' => r = none ∧ Iv P h' ∧ (st h' = f_X4_followRow2 (st h) c2 a3.toInt) ∧ (FX KQ h h')) := by
  refine Mt_iv hv (by decide) (Nat.le_of_ble_eq_true rfl) ?_
  show Go l RX4 cX4_followRow 7 (g_rm (d + 2) 0 0) "followRow" none 117 0 0 (fun _ _ => True) (fun r h' => r = none ∧ Iv P h' ∧ (st h' = f_X4_followRow2 (st h) c2 a3.toInt) ∧ (FX KQ h h')) 0 0 [(0, .ref 49), (1, .ref c2), (2, .int a3)] [] h
  have fx : FX KQ h h := FX.rfl
  obtain ⟨fin, kf⟩ : ∃ z, z = f_X4_followRow2 (st h) c2 a3.toInt := ⟨_, _root_.rfl⟩
  have k0 := kf
  unfold f_X4_followRow2 at k0
  have key : ∀ n : Nat, (∀ (l1 : Nat) (l3 : Int32) (l4 : Int32) (hx : HP), Iv P hx → (l1 = 52 ∨ l1 = 53) → 0 ≤ l3.toInt → l3.toInt ≤ 7592 → 0 ≤ l4.toInt → l4.toInt ≤ 13 → FX KQ h hx → fin = f_X4_followRow2_ n 8 l1 l3.toInt l4.toInt (st hx) → (3 * (13 - l4.toInt) + 2 : Int) < n → Go l RX4 cX4_followRow 7 (g_rm (d + 2) 0 0) "followRow" none 117 0 0 (fun _ _ => True) (fun r h' => r = none ∧ Iv P h' ∧ (st h' = f_X4_followRow2 (st h) c2 a3.toInt) ∧ (FX KQ h h')) 0 8 [(0, .ref 49), (1, .ref l1), (3, .int l3), (4, .int l4)] [] hx) := by
    intro n
    induction n with
    | zero => exact (by intros; omega)
    | succ n ih =>
      refine ?_
      ·
        intro l1 l3 l4 hx hvx hl1 l3l l3u l4l l4u fxx kL hm
        rw [f_X4_followRow2_] at kL
        refine go_iload (pc := 8) rfl dX4_followRow_8 ?_
        refine go_bipush (pc := 10) (v := 13) (by decide) dX4_followRow_10 ?_
        refine gf_icmp_ge (pc := 12) (tgt := 51) (ti_rfl l4) (ti_c (v := 13) (a := 13) (by decide)) (by decide) dX4_followRow_12 (fun q1 => ?_) (fun q1 => ?_)
        ·
          have k2 := if_t kL q1
          exact gi_vret (pc := 51) ⟨rfl, hvx, (k2.symm.trans kf), fxx⟩ hvx dX4_followRow_51
        ·
          have k3 := if_f kL (Int.not_le.mpr q1)
          refine go_aload_n (pc := 15) rfl dX4_followRow_15 ?_
          refine gi_getF (pc := 16) (q := 57) hvx fL_X4_54 rfl (Nat.le_of_ble_eq_true rfl) rfl (hvx.rf (by decide)) dX4_followRow_16 ?_
          refine gi_getF (pc := 19) (q := 58) hvx fL_X4_118 rfl (Nat.le_of_ble_eq_true rfl) rfl (hvx.rf (by decide)) dX4_followRow_19 ?_
          refine go_iload_n (pc := 22) rfl dX4_followRow_22 ?_
          refine go_iload (pc := 23) rfl dX4_followRow_23 ?_
          refine gf_iadd (pc := 25) (ti_rfl l3) (ti_rfl l4) (by omega) (by omega) dX4_followRow_25 (fun v4 e5 => ?_)
          refine gi_lald (pc := 26) (len := 7605) hvx e5 rfl (by omega) (by omega) dX4_followRow_26 (fun v6 v6w => ?_)
          have k7 := bd_e k3 v6w.symm
          refine go_lstore (pc := 27) (Nat.le_of_ble_eq_true rfl) dX4_followRow_27 (go_lv (lv2 := [(0, .ref 49), (1, .ref l1), (3, .int l3), (4, .int l4), (5, .long v6)]) rfl ?_)
          refine go_lload (pc := 29) rfl dX4_followRow_29 ?_
          refine go_lconst (pc := 31) (v := 0) (by decide) dX4_followRow_31 ?_
          refine gx_lcmp (pc := 32) dX4_followRow_32 (fun v8 v8x => ?_)
          have k9 := bd_e k7 (so_lcmp v8x)
          refine gf_if_eq (pc := 33) (tgt := 45) (ti_rfl v8) (by decide) dX4_followRow_33 (fun q10 => ?_) (fun q10 => ?_)
          ·
            have k11 := if_t k9 q10
            refine gf_iinc (pc := 45) (Nat.le_of_ble_eq_true rfl) rfl (ti_rfl l4) (ti_c (by decide)) (by omega) (by omega) dX4_followRow_45 (fun v12 e13 => ?_)
            refine go_lv (lv2 := [(0, .ref 49), (1, .ref l1), (3, .int l3), (4, .int v12), (5, .long v6)]) rfl ?_
            refine go_goto (pc := 48) (tgt := 8) (by decide) dX4_followRow_48 ?_
            have z14 : (v12 : Int32).toInt = (l4.toInt + 1) := e13
            exact go_lv rfl (ih l1 l3 v12 hx hvx hl1 (by omega) (by omega) (by omega) (by omega) fxx (by rw [show (v12 : Int32).toInt = (l4.toInt + 1) from e13]; exact k11) (by omega))
          ·
            have k15 := if_f k9 q10
            refine go_aload_n (pc := 36) rfl dX4_followRow_36 ?_
            refine go_aload_n (pc := 37) rfl dX4_followRow_37 ?_
            refine go_iload (pc := 38) rfl dX4_followRow_38 ?_
            refine go_lload (pc := 40) rfl dX4_followRow_40 ?_
            refine go_invV (pc := 42) (sl := 0) (s_X4_add2_f l (d + 0) hvx l1 hl1 l4 (by rw [show (l4 : Int32).toInt = l4.toInt from (ti_rfl l4)]; omega) (by rw [show (l4 : Int32).toInt = l4.toInt from (ti_rfl l4)]; omega) v6) mL_X4_94 iM_X4_add sM_X4_add (hvx.sh rfl) rfl rfl rfl (Nat.le_of_ble_eq_true rfl) (show d + 0 + 1 + 1 ≤ d + 2 by omega) (show 8 + (8 + 11) + 40 * (d + 0 + 1) ≤ 40 * (d + 2) by omega) (g_c0 hvx.ln) (Nat.le_of_ble_eq_true rfl) dX4_followRow_42 ?_
            intro r h16 hq _
            obtain ⟨rfl, hv16, f17, f18⟩ := hq
            have fx16 : FX KQ h h16 := FX.tr fxx f18
            have k19 := bd_e k15 f17.symm
            refine gf_iinc (pc := 45) (Nat.le_of_ble_eq_true rfl) rfl (ti_rfl l4) (ti_c (by decide)) (by omega) (by omega) dX4_followRow_45 (fun v20 e21 => ?_)
            refine go_lv (lv2 := [(0, .ref 49), (1, .ref l1), (3, .int l3), (4, .int v20), (5, .long v6)]) rfl ?_
            refine go_goto (pc := 48) (tgt := 8) (by decide) dX4_followRow_48 ?_
            have z22 : (v20 : Int32).toInt = (l4.toInt + 1) := e21
            exact go_lv rfl (ih l1 l3 v20 h16 hv16 hl1 (by omega) (by omega) (by omega) (by omega) fx16 (by rw [show (v20 : Int32).toInt = (l4.toInt + 1) from e21]; exact k19) (by omega))
  refine go_iload_n (pc := 0) rfl dX4_followRow_0 ?_
  refine go_bipush (pc := 1) (v := 13) (by decide) dX4_followRow_1 ?_
  refine gf_imul (pc := 3) (ti_rfl a3) (ti_c (v := 13) (a := 13) (by decide)) (by omega) (by omega) dX4_followRow_3 (fun v23 e24 => ?_)
  refine go_istore_n (pc := 4) (Nat.le_of_ble_eq_true rfl) dX4_followRow_4 (go_lv (lv2 := [(0, .ref 49), (1, .ref c2), (2, .int a3), (3, .int v23)]) rfl ?_)
  refine go_iconst (pc := 5) (v := 0) (by decide) dX4_followRow_5 ?_
  refine go_istore (pc := 6) (Nat.le_of_ble_eq_true rfl) dX4_followRow_6 (go_lv (lv2 := [(0, .ref 49), (1, .ref c2), (2, .int a3), (3, .int v23), (4, .int 0)]) rfl ?_)
  have z25 : (v23 : Int32).toInt = (a3.toInt * 13) := e24
  have z26 : (0 : Int32).toInt = 0 := (ti_c (v := 0) (a := 0) (by decide))
  exact go_lv rfl ((key 58) c2 v23 0 h hv hc2 (by omega) (by omega) (by omega) (by omega) fx (by rw [show (v23 : Int32).toInt = (a3.toInt * 13) from e24, show (0 : Int32).toInt = 0 from (ti_c (v := 0) (a := 0) (by decide))]; exact k0) (by omega))
def f_X4_followCall2_ : Nat → Nat → Nat → Int → Int → Int → Int → Int → Int → ST → ST
  | 0, _, _, _, _, _, _, _, _, sx => sx
  | n + 1, _, l1, l2, l3, l4, l5, l6, l7, sx => if 6 ≤ l7 then (if ¬ l4 = 2 then (sx) else (bd (o_lshl (1 : Int64) ((40 + l5))) fun v8 => bd (f_X4_add2 sx l1 l3 v8) fun s10 => s10)) else (bd (o_iushr l6 l7) fun v15 => bd (o_iand v15 1) fun v17 => if v17 = 0 then (f_X4_followCall2_ n 37 l1 l2 l3 l4 l5 l6 ((l7 + 1)) sx) else (bd (o_lshl (1 : Int64) l2) fun v27 => bd (f_X4_add2 sx l1 ((1 + l7)) v27) fun s29 => f_X4_followCall2_ n 37 l1 l2 l3 l4 l5 l6 ((l7 + 1)) s29))
def f_X4_followCall2 (s : ST) (c2 : Nat) (a3 : Int) (a4 : Int) (a5 : Int) : ST :=
  bd (s.2.2 49 1) fun c36 => bd (s.1 (c36 + 7) (a3).toNat) fun v38 => if 0 ≤ v38 then (bd (s.1 51 ((((v38 * 6) + a4) - 7)).toNat) fun v48 => f_X4_followCall2_ 37 37 c2 a3 a4 a5 v38 v48 0 s) else (s)
set_option maxHeartbeats 4000000 in
set_option maxRecDepth 100000 in
theorem s_X4_followCall2_f (l : Launch) (d : Nat) {P : PP} {h : HP} (hv : Iv P h) (c2 : Nat) (hc2 : c2 = 52 ∨ c2 = 53) (a3 : Int32) (a3l : 0 ≤ a3.toInt) (a3u : a3.toInt ≤ 39) (a4 : Int32) (a4l : 7 ≤ a4.toInt) (a4u : a4.toInt ≤ 12) (a5 : Int32) : Mt l yX4_followCall cX4_followCall 8 none (d + 2) [.ref 49, .ref c2, .int a3, .int a4, .int a5] h 0 0 (fun r h' => r = none ∧ Iv P h' ∧ (st h' = f_X4_followCall2 (st h) c2 a3.toInt a4.toInt a5.toInt) ∧ (FX KQ h h')) := by
  refine Mt_iv hv (by decide) (Nat.le_of_ble_eq_true rfl) ?_
  show Go l RX4 cX4_followCall 8 (g_rm (d + 2) 0 0) "followCall" none 117 0 0 (fun _ _ => True) (fun r h' => r = none ∧ Iv P h' ∧ (st h' = f_X4_followCall2 (st h) c2 a3.toInt a4.toInt a5.toInt) ∧ (FX KQ h h')) 0 0 [(0, .ref 49), (1, .ref c2), (2, .int a3), (3, .int a4), (4, .int a5)] [] h
  have fx : FX KQ h h := FX.rfl
  obtain ⟨fin, kf⟩ : ∃ z, z = f_X4_followCall2 (st h) c2 a3.toInt a4.toInt a5.toInt := ⟨_, _root_.rfl⟩
  have k0 := kf
  unfold f_X4_followCall2 at k0
  have key : ∀ n : Nat, (∀ (l1 : Nat) (l2 : Int32) (l3 : Int32) (l4 : Int32) (l5 : Int32) (l6 : Int32) (l7 : Int32) (hx : HP), Iv P hx → (l1 = 52 ∨ l1 = 53) → 0 ≤ l2.toInt → l2.toInt ≤ 39 → 7 ≤ l3.toInt → l3.toInt ≤ 12 → 0 ≤ l5.toInt → l5.toInt ≤ 4 → 0 ≤ l7.toInt → l7.toInt ≤ 6 → FX KQ h hx → fin = f_X4_followCall2_ n 37 l1 l2.toInt l3.toInt l4.toInt l5.toInt l6.toInt l7.toInt (st hx) → (3 * (6 - l7.toInt) + 2 : Int) < n → Go l RX4 cX4_followCall 8 (g_rm (d + 2) 0 0) "followCall" none 117 0 0 (fun _ _ => True) (fun r h' => r = none ∧ Iv P h' ∧ (st h' = f_X4_followCall2 (st h) c2 a3.toInt a4.toInt a5.toInt) ∧ (FX KQ h h')) 0 37 [(0, .ref 49), (1, .ref l1), (2, .int l2), (3, .int l3), (4, .int l4), (5, .int l5), (6, .int l6), (7, .int l7)] [] hx) := by
    intro n
    induction n with
    | zero => exact (by intros; omega)
    | succ n ih =>
      refine ?_
      ·
        intro l1 l2 l3 l4 l5 l6 l7 hx hvx hl1 l2l l2u l3l l3u l5l l5u l7l l7u fxx kL hm
        rw [f_X4_followCall2_] at kL
        refine go_iload (pc := 37) rfl dX4_followCall_37 ?_
        refine go_bipush (pc := 39) (v := 6) (by decide) dX4_followCall_39 ?_
        refine gf_icmp_ge (pc := 41) (tgt := 72) (ti_rfl l7) (ti_c (v := 6) (a := 6) (by decide)) (by decide) dX4_followCall_41 (fun q1 => ?_) (fun q1 => ?_)
        ·
          have k2 := if_t kL q1
          refine go_iload (pc := 72) rfl dX4_followCall_72 ?_
          refine go_iconst (pc := 74) (v := 2) (by decide) dX4_followCall_74 ?_
          refine gf_icmp_ne (pc := 75) (tgt := 91) (ti_rfl l4) (ti_c (v := 2) (a := 2) (by decide)) (by decide) dX4_followCall_75 (fun q3 => ?_) (fun q3 => ?_)
          ·
            have k4 := if_t k2 q3
            exact gi_vret (pc := 91) ⟨rfl, hvx, (k4.symm.trans kf), fxx⟩ hvx dX4_followCall_91
          ·
            have k5 := if_f k2 (fun z => z q3)
            refine go_aload_n (pc := 78) rfl dX4_followCall_78 ?_
            refine go_aload_n (pc := 79) rfl dX4_followCall_79 ?_
            refine go_iload_n (pc := 80) rfl dX4_followCall_80 ?_
            refine go_lconst (pc := 81) (v := 1) (by decide) dX4_followCall_81 ?_
            refine go_bipush (pc := 82) (v := 40) (by decide) dX4_followCall_82 ?_
            refine go_iload (pc := 84) rfl dX4_followCall_84 ?_
            refine gf_iadd (pc := 86) (ti_c (v := 40) (a := 40) (by decide)) (ti_rfl l5) (by omega) (by omega) dX4_followCall_86 (fun v6 e7 => ?_)
            refine gx_lshl (pc := 87) dX4_followCall_87 (fun v8 v8x => ?_)
            have k9 := bd_e k5 (so_lshl e7 v8x)
            refine go_invV (pc := 88) (sl := 0) (s_X4_add2_f l (d + 0) hvx l1 hl1 l3 (by rw [show (l3 : Int32).toInt = l3.toInt from (ti_rfl l3)]; omega) (by rw [show (l3 : Int32).toInt = l3.toInt from (ti_rfl l3)]; omega) v8) mL_X4_94 iM_X4_add sM_X4_add (hvx.sh rfl) rfl rfl rfl (Nat.le_of_ble_eq_true rfl) (show d + 0 + 1 + 1 ≤ d + 2 by omega) (show 8 + (8 + 11) + 40 * (d + 0 + 1) ≤ 40 * (d + 2) by omega) (g_c0 hvx.ln) (Nat.le_of_ble_eq_true rfl) dX4_followCall_88 ?_
            intro r h10 hq _
            obtain ⟨rfl, hv10, f11, f12⟩ := hq
            have fx10 : FX KQ h h10 := FX.tr fxx f12
            have k13 := bd_e k9 f11.symm
            exact gi_vret (pc := 91) ⟨rfl, hv10, (k13.symm.trans kf), fx10⟩ hv10 dX4_followCall_91
        ·
          have k14 := if_f kL (Int.not_le.mpr q1)
          refine go_iload (pc := 44) rfl dX4_followCall_44 ?_
          refine go_iload (pc := 46) rfl dX4_followCall_46 ?_
          refine gx_iushr (pc := 48) dX4_followCall_48 (fun v15 v15x => ?_)
          have k16 := bd_e k14 (so_iushr (ti_rfl l6) (ti_rfl l7) v15x)
          refine go_iconst (pc := 49) (v := 1) (by decide) dX4_followCall_49 ?_
          refine gx_iand (pc := 50) dX4_followCall_50 (fun v17 v17x => ?_)
          have v17l : 0 ≤ v17.toInt := by rw [v17x]; exact (ti_mask (ti_c (v := 1) (a := 1) (by decide)) (by omega)).1
          have v17u : v17.toInt ≤ 1 := by rw [v17x]; exact (ti_mask (ti_c (v := 1) (a := 1) (by decide)) (by omega)).2
          have k18 := bd_e k16 (so_iand (ti_rfl v15) (ti_c (v := 1) (a := 1) (by decide)) v17x)
          refine gf_if_eq (pc := 51) (tgt := 66) (ti_rfl v17) (by decide) dX4_followCall_51 (fun q19 => ?_) (fun q19 => ?_)
          ·
            have k20 := if_t k18 q19
            refine gf_iinc (pc := 66) (Nat.le_of_ble_eq_true rfl) rfl (ti_rfl l7) (ti_c (by decide)) (by omega) (by omega) dX4_followCall_66 (fun v21 e22 => ?_)
            refine go_lv (lv2 := [(0, .ref 49), (1, .ref l1), (2, .int l2), (3, .int l3), (4, .int l4), (5, .int l5), (6, .int l6), (7, .int v21)]) rfl ?_
            refine go_goto (pc := 69) (tgt := 37) (by decide) dX4_followCall_69 ?_
            have z23 : (v21 : Int32).toInt = (l7.toInt + 1) := e22
            exact go_lv rfl (ih l1 l2 l3 l4 l5 l6 v21 hx hvx hl1 (by omega) (by omega) (by omega) (by omega) (by omega) (by omega) (by omega) (by omega) fxx (by rw [show (v21 : Int32).toInt = (l7.toInt + 1) from e22]; exact k20) (by omega))
          ·
            have k24 := if_f k18 q19
            refine go_aload_n (pc := 54) rfl dX4_followCall_54 ?_
            refine go_aload_n (pc := 55) rfl dX4_followCall_55 ?_
            refine go_iconst (pc := 56) (v := 1) (by decide) dX4_followCall_56 ?_
            refine go_iload (pc := 57) rfl dX4_followCall_57 ?_
            refine gf_iadd (pc := 59) (ti_c (v := 1) (a := 1) (by decide)) (ti_rfl l7) (by omega) (by omega) dX4_followCall_59 (fun v25 e26 => ?_)
            refine go_lconst (pc := 60) (v := 1) (by decide) dX4_followCall_60 ?_
            refine go_iload_n (pc := 61) rfl dX4_followCall_61 ?_
            refine gx_lshl (pc := 62) dX4_followCall_62 (fun v27 v27x => ?_)
            have k28 := bd_e k24 (so_lshl (ti_rfl l2) v27x)
            refine go_invV (pc := 63) (sl := 0) (s_X4_add2_f l (d + 0) hvx l1 hl1 v25 (by rw [show (v25 : Int32).toInt = (1 + l7.toInt) from e26]; omega) (by rw [show (v25 : Int32).toInt = (1 + l7.toInt) from e26]; omega) v27) mL_X4_94 iM_X4_add sM_X4_add (hvx.sh rfl) rfl rfl rfl (Nat.le_of_ble_eq_true rfl) (show d + 0 + 1 + 1 ≤ d + 2 by omega) (show 8 + (8 + 11) + 40 * (d + 0 + 1) ≤ 40 * (d + 2) by omega) (g_c0 hvx.ln) (Nat.le_of_ble_eq_true rfl) dX4_followCall_63 ?_
            intro r h29 hq _
            obtain ⟨rfl, hv29, f30, f31⟩ := hq
            try rw [show (v25 : Int32).toInt = (1 + l7.toInt) from e26] at f30
            try rw [show (v25 : Int32).toInt = (1 + l7.toInt) from e26] at f31
            have fx29 : FX KQ h h29 := FX.tr fxx f31
            have k32 := bd_e k28 f30.symm
            refine gf_iinc (pc := 66) (Nat.le_of_ble_eq_true rfl) rfl (ti_rfl l7) (ti_c (by decide)) (by omega) (by omega) dX4_followCall_66 (fun v33 e34 => ?_)
            refine go_lv (lv2 := [(0, .ref 49), (1, .ref l1), (2, .int l2), (3, .int l3), (4, .int l4), (5, .int l5), (6, .int l6), (7, .int v33)]) rfl ?_
            refine go_goto (pc := 69) (tgt := 37) (by decide) dX4_followCall_69 ?_
            have z35 : (v33 : Int32).toInt = (l7.toInt + 1) := e34
            exact go_lv rfl (ih l1 l2 l3 l4 l5 l6 v33 h29 hv29 hl1 (by omega) (by omega) (by omega) (by omega) (by omega) (by omega) (by omega) (by omega) fx29 (by rw [show (v33 : Int32).toInt = (l7.toInt + 1) from e34]; exact k32) (by omega))
  refine go_aload_n (pc := 0) rfl dX4_followCall_0 ?_
  refine gi_getC (pc := 1) hv fL_X4_58 rfl (Nat.le_of_ble_eq_true rfl) rfl (by decide) dX4_followCall_1 (fun c36 hc36 fc36 => ?_)
  have k37 := bd_e k0 (st_c fc36)
  refine gi_getF (pc := 4) (q := c36 + 7) hv fL_X4_121 (by rcases hc36 with rfl | rfl <;> rfl) (Nat.le_of_ble_eq_true rfl) rfl (by rcases hc36 with rfl | rfl <;> exact hv.rf (by decide)) dX4_followCall_4 ?_
  refine go_iload_n (pc := 7) rfl dX4_followCall_7 ?_
  refine gi_iald (pc := 8) (lo := -2) (hi := 4) (len := 40) hv (ti_rfl a3) (by rcases hc36 with rfl | rfl <;> rfl) (by omega) (by omega) (fun _ => by rcases hc36 with rfl | rfl <;> rfl) dX4_followCall_8 (fun v38 v38l v38u v38w => ?_)
  have k39 := bd_e k37 (congrArg Int32.toInt v38w.symm)
  refine go_istore (pc := 9) (Nat.le_of_ble_eq_true rfl) dX4_followCall_9 (go_lv (lv2 := [(0, .ref 49), (1, .ref c2), (2, .int a3), (3, .int a4), (4, .int a5), (5, .int v38)]) rfl ?_)
  refine go_iload (pc := 11) rfl dX4_followCall_11 ?_
  refine gf_if_ge (pc := 13) (tgt := 17) (ti_rfl v38) (by decide) dX4_followCall_13 (fun q40 => ?_) (fun q40 => ?_)
  ·
    have k41 := if_t k39 q40
    refine go_aload_n (pc := 17) rfl dX4_followCall_17 ?_
    refine gi_getF (pc := 18) (q := 51) hv fL_X4_19 rfl (Nat.le_of_ble_eq_true rfl) rfl (hv.rf (by decide)) dX4_followCall_18 ?_
    refine go_iload (pc := 21) rfl dX4_followCall_21 ?_
    refine go_bipush (pc := 23) (v := 6) (by decide) dX4_followCall_23 ?_
    refine gf_imul (pc := 25) (ti_rfl v38) (ti_c (v := 6) (a := 6) (by decide)) (by omega) (by omega) dX4_followCall_25 (fun v42 e43 => ?_)
    refine go_iload_n (pc := 26) rfl dX4_followCall_26 ?_
    refine gf_iadd (pc := 27) e43 (ti_rfl a4) (by omega) (by omega) dX4_followCall_27 (fun v44 e45 => ?_)
    refine go_bipush (pc := 28) (v := 7) (by decide) dX4_followCall_28 ?_
    refine gf_isub (pc := 30) e45 (ti_c (v := 7) (a := 7) (by decide)) (by omega) (by omega) dX4_followCall_30 (fun v46 e47 => ?_)
    refine gi_iald (pc := 31) (lo := -2147483648) (hi := 2147483647) (len := 30) hv e47 rfl (by omega) (by omega) (fun _ => rfl) dX4_followCall_31 (fun v48 v48l v48u v48w => ?_)
    have k49 := bd_e k41 (congrArg Int32.toInt v48w.symm)
    refine go_istore (pc := 32) (Nat.le_of_ble_eq_true rfl) dX4_followCall_32 (go_lv (lv2 := [(0, .ref 49), (1, .ref c2), (2, .int a3), (3, .int a4), (4, .int a5), (5, .int v38), (6, .int v48)]) rfl ?_)
    refine go_iconst (pc := 34) (v := 0) (by decide) dX4_followCall_34 ?_
    refine go_istore (pc := 35) (Nat.le_of_ble_eq_true rfl) dX4_followCall_35 (go_lv (lv2 := [(0, .ref 49), (1, .ref c2), (2, .int a3), (3, .int a4), (4, .int a5), (5, .int v38), (6, .int v48), (7, .int 0)]) rfl ?_)
    have z50 : (0 : Int32).toInt = 0 := (ti_c (v := 0) (a := 0) (by decide))
    exact go_lv rfl ((key 37) c2 a3 a4 a5 v38 v48 0 h hv hc2 (by omega) (by omega) (by omega) (by omega) (by omega) (by omega) (by omega) (by omega) fx (by rw [show (0 : Int32).toInt = 0 from (ti_c (v := 0) (a := 0) (by decide))]; exact k49) (by omega))
  ·
    have k51 := if_f k39 (Int.not_le.mpr q40)
    exact gi_vret (pc := 16) ⟨rfl, hv, (k51.symm.trans kf), fx⟩ hv dX4_followCall_16
def f_X4_spread2_ : Nat → Nat → Nat → Int → Int → ST → ST
  | 0, _, _, _, _, sx => sx
  | n + 1, _, l1, l2, l3, sx => if 585 ≤ l3 then (bd (sI sx 49 8 0) fun s3 => s3) else (bd (sx.1 49 8) fun v6 => if v6 ≤ l3 then (bd (sI sx 49 8 0) fun s10 => s10) else (bd (sx.1 54 (l3).toNat) fun v13 => bd (sx.1 54 (l3).toNat) fun v17 => bd (sx.1 54 (l3).toNat) fun v21 => bd (f_X4_followRow2 sx l1 v21) fun s23 => if 40 ≤ (v13 / 13) then (if 7 ≤ (v17 % 13) then (f_X4_spread2_ n 2 l1 l2 ((l3 + 1)) s23) else (if ¬ l2 = 1 then (f_X4_spread2_ n 2 l1 l2 ((l3 + 1)) s23) else (bd (s23.2.1 50 (((v13 / 13) - 40)).toNat) fun v44 => bd (f_X4_add2 s23 l1 ((v17 % 13)) v44) fun s46 => f_X4_spread2_ n 2 l1 l2 ((l3 + 1)) s46))) else (if (v17 % 13) < 7 then (f_X4_spread2_ n 2 l1 l2 ((l3 + 1)) s23) else (bd (f_X4_followCall2 s23 l1 ((v13 / 13)) ((v17 % 13)) l2) fun s61 => f_X4_spread2_ n 2 l1 l2 ((l3 + 1)) s61))))
def f_X4_spread2 (s : ST) (c2 : Nat) (a3 : Int) : ST :=
  f_X4_spread2_ 1774 2 c2 a3 0 s
set_option maxHeartbeats 4000000 in
set_option maxRecDepth 100000 in
theorem s_X4_spread2_f (l : Launch) (d : Nat) {P : PP} {h : HP} (hv : Iv P h) (c2 : Nat) (hc2 : c2 = 52 ∨ c2 = 53) (a3 : Int32) : Mt l yX4_spread cX4_spread 6 none (d + 3) [.ref 49, .ref c2, .int a3] h 0 0 (fun r h' => r = none ∧ Iv P h' ∧ (st h' = f_X4_spread2 (st h) c2 a3.toInt) ∧ (FX KQ h h')) := by
  refine Mt_iv hv (by decide) (Nat.le_of_ble_eq_true rfl) ?_
  show Go l RX4 cX4_spread 6 (g_rm (d + 3) 0 0) "spread" none 117 0 0 (fun _ _ => True) (fun r h' => r = none ∧ Iv P h' ∧ (st h' = f_X4_spread2 (st h) c2 a3.toInt) ∧ (FX KQ h h')) 0 0 [(0, .ref 49), (1, .ref c2), (2, .int a3)] [] h
  have fx : FX KQ h h := FX.rfl
  obtain ⟨fin, kf⟩ : ∃ z, z = f_X4_spread2 (st h) c2 a3.toInt := ⟨_, _root_.rfl⟩
  have k0 := kf
  unfold f_X4_spread2 at k0
  have key : ∀ n : Nat, (∀ (l1 : Nat) (l2 : Int32) (l3 : Int32) (hx : HP), Iv P hx → (l1 = 52 ∨ l1 = 53) → 0 ≤ l3.toInt → l3.toInt ≤ 585 → FX KQ h hx → fin = f_X4_spread2_ n 2 l1 l2.toInt l3.toInt (st hx) → (3 * (585 - l3.toInt) + 2 : Int) < n → Go l RX4 cX4_spread 6 (g_rm (d + 3) 0 0) "spread" none 117 0 0 (fun _ _ => True) (fun r h' => r = none ∧ Iv P h' ∧ (st h' = f_X4_spread2 (st h) c2 a3.toInt) ∧ (FX KQ h h')) 0 2 [(0, .ref 49), (1, .ref l1), (2, .int l2), (3, .int l3)] [] hx) := by
    intro n
    induction n with
    | zero => exact (by intros; omega)
    | succ n ih =>
      refine ?_
      ·
        intro l1 l2 l3 hx hvx hl1 l3l l3u fxx kL hm
        rw [f_X4_spread2_] at kL
        refine go_iload_n (pc := 2) rfl dX4_spread_2 ?_
        refine go_aload_n (pc := 3) rfl dX4_spread_3 ?_
        refine gi_getF (pc := 4) (q := 54) hvx fL_X4_29 rfl (Nat.le_of_ble_eq_true rfl) rfl (hvx.rf (by decide)) dX4_spread_4 ?_
        refine go_alen (pc := 7) (v := 585) (hvx.sh rfl) (by decide) (by decide) dX4_spread_7 ?_
        refine gf_icmp_ge (pc := 8) (tgt := 121) (ti_rfl l3) (ti_c (v := 585) (a := 585) (by decide)) (by decide) dX4_spread_8 (fun q1 => ?_) (fun q1 => ?_)
        ·
          have k2 := if_t kL q1
          refine go_aload_n (pc := 121) rfl dX4_spread_121 ?_
          refine go_iconst (pc := 122) (v := 0) (by decide) dX4_spread_122 ?_
          refine gi_put (pc := 123) (lo := 0) (hi := 585) hvx (ti_c (v := 0) (a := 0) (by decide)) (fP_X4_32 _) rfl (Nat.le_of_ble_eq_true rfl) rfl rfl (by omega) (by omega) rfl rfl (by decide) (by decide) (by decide) (by decide) dX4_spread_123 (fun h3 hv3 hv3e => ?_)
          have fx3 : FX KQ h h3 := FX.pI fxx hv3e (by unfold KQ; omega)
          have k4 := bd_e k2 (st_I hv3e (ti_c (v := 0) (a := 0) (by decide)))
          exact gi_vret (pc := 126) ⟨rfl, hv3, (k4.symm.trans kf), fx3⟩ hv3 dX4_spread_126
        ·
          have k5 := if_f kL (Int.not_le.mpr q1)
          refine go_iload_n (pc := 11) rfl dX4_spread_11 ?_
          refine go_aload_n (pc := 12) rfl dX4_spread_12 ?_
          refine gi_get (pc := 13) (lo := 0) (hi := 585) hvx fL_X4_32 rfl (Nat.le_of_ble_eq_true rfl) rfl rfl dX4_spread_13 (fun v6 v6l v6u v6w => ?_)
          have k7 := bd_e k5 (congrArg Int32.toInt v6w.symm)
          refine gf_icmp_ge (pc := 16) (tgt := 121) (ti_rfl l3) (ti_rfl v6) (by decide) dX4_spread_16 (fun q8 => ?_) (fun q8 => ?_)
          ·
            have k9 := if_t k7 q8
            refine go_aload_n (pc := 121) rfl dX4_spread_121 ?_
            refine go_iconst (pc := 122) (v := 0) (by decide) dX4_spread_122 ?_
            refine gi_put (pc := 123) (lo := 0) (hi := 585) hvx (ti_c (v := 0) (a := 0) (by decide)) (fP_X4_32 _) rfl (Nat.le_of_ble_eq_true rfl) rfl rfl (by omega) (by omega) rfl rfl (by decide) (by decide) (by decide) (by decide) dX4_spread_123 (fun h10 hv10 hv10e => ?_)
            have fx10 : FX KQ h h10 := FX.pI fxx hv10e (by unfold KQ; omega)
            have k11 := bd_e k9 (st_I hv10e (ti_c (v := 0) (a := 0) (by decide)))
            exact gi_vret (pc := 126) ⟨rfl, hv10, (k11.symm.trans kf), fx10⟩ hv10 dX4_spread_126
          ·
            have k12 := if_f k7 (Int.not_le.mpr q8)
            refine go_aload_n (pc := 19) rfl dX4_spread_19 ?_
            refine gi_getF (pc := 20) (q := 54) hvx fL_X4_29 rfl (Nat.le_of_ble_eq_true rfl) rfl (hvx.rf (by decide)) dX4_spread_20 ?_
            refine go_iload_n (pc := 23) rfl dX4_spread_23 ?_
            refine gi_iald (pc := 24) (lo := 0) (hi := 584) (len := 585) hvx (ti_rfl l3) rfl (by omega) (by omega) (fun _ => rfl) dX4_spread_24 (fun v13 v13l v13u v13w => ?_)
            have k14 := bd_e k12 (congrArg Int32.toInt v13w.symm)
            refine go_bipush (pc := 25) (v := 13) (by decide) dX4_spread_25 ?_
            refine gf_idiv (pc := 27) (ti_rfl v13) (ti_c (v := 13) (a := 13) (by decide)) (by omega) (by omega) dX4_spread_27 (fun v15 e16 => ?_)
            refine go_istore (pc := 28) (Nat.le_of_ble_eq_true rfl) dX4_spread_28 (go_lv (lv2 := [(0, .ref 49), (1, .ref l1), (2, .int l2), (3, .int l3), (4, .int v15)]) rfl ?_)
            refine go_aload_n (pc := 30) rfl dX4_spread_30 ?_
            refine gi_getF (pc := 31) (q := 54) hvx fL_X4_29 rfl (Nat.le_of_ble_eq_true rfl) rfl (hvx.rf (by decide)) dX4_spread_31 ?_
            refine go_iload_n (pc := 34) rfl dX4_spread_34 ?_
            refine gi_iald (pc := 35) (lo := 0) (hi := 584) (len := 585) hvx (ti_rfl l3) rfl (by omega) (by omega) (fun _ => rfl) dX4_spread_35 (fun v17 v17l v17u v17w => ?_)
            have k18 := bd_e k14 (congrArg Int32.toInt v17w.symm)
            refine go_bipush (pc := 36) (v := 13) (by decide) dX4_spread_36 ?_
            refine gf_irem (pc := 38) (ti_rfl v17) (ti_c (v := 13) (a := 13) (by decide)) (by omega) (by omega) dX4_spread_38 (fun v19 e20 => ?_)
            refine go_istore (pc := 39) (Nat.le_of_ble_eq_true rfl) dX4_spread_39 (go_lv (lv2 := [(0, .ref 49), (1, .ref l1), (2, .int l2), (3, .int l3), (4, .int v15), (5, .int v19)]) rfl ?_)
            refine go_aload_n (pc := 41) rfl dX4_spread_41 ?_
            refine go_aload_n (pc := 42) rfl dX4_spread_42 ?_
            refine go_aload_n (pc := 43) rfl dX4_spread_43 ?_
            refine gi_getF (pc := 44) (q := 54) hvx fL_X4_29 rfl (Nat.le_of_ble_eq_true rfl) rfl (hvx.rf (by decide)) dX4_spread_44 ?_
            refine go_iload_n (pc := 47) rfl dX4_spread_47 ?_
            refine gi_iald (pc := 48) (lo := 0) (hi := 584) (len := 585) hvx (ti_rfl l3) rfl (by omega) (by omega) (fun _ => rfl) dX4_spread_48 (fun v21 v21l v21u v21w => ?_)
            have k22 := bd_e k18 (congrArg Int32.toInt v21w.symm)
            refine go_invV (pc := 49) (sl := 0) (s_X4_followRow2_f l (d + 0) hvx l1 hl1 v21 (by rw [show (v21 : Int32).toInt = v21.toInt from (ti_rfl v21)]; omega) (by rw [show (v21 : Int32).toInt = v21.toInt from (ti_rfl v21)]; omega)) mL_X4_111 iM_X4_followRow sM_X4_followRow (hvx.sh rfl) rfl rfl rfl (Nat.le_of_ble_eq_true rfl) (show d + 0 + 2 + 1 ≤ d + 3 by omega) (show 8 + (7 + 11) + 40 * (d + 0 + 2) ≤ 40 * (d + 3) by omega) (g_c0 hvx.ln) (Nat.le_of_ble_eq_true rfl) dX4_spread_49 ?_
            intro r h23 hq _
            obtain ⟨rfl, hv23, f24, f25⟩ := hq
            have fx23 : FX KQ h h23 := FX.tr fxx f25
            have k26 := bd_e k22 f24.symm
            refine go_iload (pc := 52) rfl dX4_spread_52 ?_
            refine go_bipush (pc := 54) (v := 40) (by decide) dX4_spread_54 ?_
            refine gf_icmp_ge (pc := 56) (tgt := 79) e16 (ti_c (v := 40) (a := 40) (by decide)) (by decide) dX4_spread_56 (fun q27 => ?_) (fun q27 => ?_)
            ·
              have k28 := if_t k26 q27
              refine go_iload (pc := 79) rfl dX4_spread_79 ?_
              refine go_bipush (pc := 81) (v := 40) (by decide) dX4_spread_81 ?_
              refine gf_icmp_lt (pc := 83) (tgt := 115) e16 (ti_c (v := 40) (a := 40) (by decide)) (by decide) dX4_spread_83 (fun q29 => False.elim (by omega)) (fun q29 => ?_)
              refine go_iload (pc := 86) rfl dX4_spread_86 ?_
              refine go_bipush (pc := 88) (v := 7) (by decide) dX4_spread_88 ?_
              refine gf_icmp_ge (pc := 90) (tgt := 115) e20 (ti_c (v := 7) (a := 7) (by decide)) (by decide) dX4_spread_90 (fun q30 => ?_) (fun q30 => ?_)
              ·
                have k31 := if_t k28 q30
                refine gf_iinc (pc := 115) (Nat.le_of_ble_eq_true rfl) rfl (ti_rfl l3) (ti_c (by decide)) (by omega) (by omega) dX4_spread_115 (fun v32 e33 => ?_)
                refine go_lv (lv2 := [(0, .ref 49), (1, .ref l1), (2, .int l2), (3, .int v32), (4, .int v15), (5, .int v19)]) rfl ?_
                refine go_goto (pc := 118) (tgt := 2) (by decide) dX4_spread_118 ?_
                have z34 : (v32 : Int32).toInt = (l3.toInt + 1) := e33
                exact go_lv rfl (ih l1 l2 v32 h23 hv23 hl1 (by omega) (by omega) fx23 (by rw [show (v32 : Int32).toInt = (l3.toInt + 1) from e33]; exact k31) (by omega))
              ·
                have k35 := if_f k28 (Int.not_le.mpr q30)
                refine go_iload_n (pc := 93) rfl dX4_spread_93 ?_
                refine go_iconst (pc := 94) (v := 1) (by decide) dX4_spread_94 ?_
                refine gf_icmp_ne (pc := 95) (tgt := 115) (ti_rfl l2) (ti_c (v := 1) (a := 1) (by decide)) (by decide) dX4_spread_95 (fun q36 => ?_) (fun q36 => ?_)
                ·
                  have k37 := if_t k35 q36
                  refine gf_iinc (pc := 115) (Nat.le_of_ble_eq_true rfl) rfl (ti_rfl l3) (ti_c (by decide)) (by omega) (by omega) dX4_spread_115 (fun v38 e39 => ?_)
                  refine go_lv (lv2 := [(0, .ref 49), (1, .ref l1), (2, .int l2), (3, .int v38), (4, .int v15), (5, .int v19)]) rfl ?_
                  refine go_goto (pc := 118) (tgt := 2) (by decide) dX4_spread_118 ?_
                  have z40 : (v38 : Int32).toInt = (l3.toInt + 1) := e39
                  exact go_lv rfl (ih l1 l2 v38 h23 hv23 hl1 (by omega) (by omega) fx23 (by rw [show (v38 : Int32).toInt = (l3.toInt + 1) from e39]; exact k37) (by omega))
                ·
                  have k41 := if_f k35 (fun z => z q36)
                  refine go_aload_n (pc := 98) rfl dX4_spread_98 ?_
                  refine go_aload_n (pc := 99) rfl dX4_spread_99 ?_
                  refine go_iload (pc := 100) rfl dX4_spread_100 ?_
                  refine go_aload_n (pc := 102) rfl dX4_spread_102 ?_
                  refine gi_getF (pc := 103) (q := 50) hv23 fL_X4_15 rfl (Nat.le_of_ble_eq_true rfl) rfl (hv23.rf (by decide)) dX4_spread_103 ?_
                  refine go_iload (pc := 106) rfl dX4_spread_106 ?_
                  refine go_bipush (pc := 108) (v := 40) (by decide) dX4_spread_108 ?_
                  refine gf_isub (pc := 110) e16 (ti_c (v := 40) (a := 40) (by decide)) (by omega) (by omega) dX4_spread_110 (fun v42 e43 => ?_)
                  refine gi_lald (pc := 111) (len := 5) hv23 e43 rfl (by omega) (by omega) dX4_spread_111 (fun v44 v44w => ?_)
                  have k45 := bd_e k41 v44w.symm
                  refine go_invV (pc := 112) (sl := 0) (s_X4_add2_f l (d + 1) hv23 l1 hl1 v19 (by rw [show (v19 : Int32).toInt = (v17.toInt % 13) from e20]; omega) (by rw [show (v19 : Int32).toInt = (v17.toInt % 13) from e20]; omega) v44) mL_X4_94 iM_X4_add sM_X4_add (hv23.sh rfl) rfl rfl rfl (Nat.le_of_ble_eq_true rfl) (show d + 1 + 1 + 1 ≤ d + 3 by omega) (show 8 + (8 + 11) + 40 * (d + 1 + 1) ≤ 40 * (d + 3) by omega) (g_c0 hv23.ln) (Nat.le_of_ble_eq_true rfl) dX4_spread_112 ?_
                  intro r h46 hq _
                  obtain ⟨rfl, hv46, f47, f48⟩ := hq
                  try rw [show (v19 : Int32).toInt = (v17.toInt % 13) from e20] at f47
                  try rw [show (v19 : Int32).toInt = (v17.toInt % 13) from e20] at f48
                  have fx46 : FX KQ h h46 := FX.tr fx23 f48
                  have k49 := bd_e k45 f47.symm
                  refine gf_iinc (pc := 115) (Nat.le_of_ble_eq_true rfl) rfl (ti_rfl l3) (ti_c (by decide)) (by omega) (by omega) dX4_spread_115 (fun v50 e51 => ?_)
                  refine go_lv (lv2 := [(0, .ref 49), (1, .ref l1), (2, .int l2), (3, .int v50), (4, .int v15), (5, .int v19)]) rfl ?_
                  refine go_goto (pc := 118) (tgt := 2) (by decide) dX4_spread_118 ?_
                  have z52 : (v50 : Int32).toInt = (l3.toInt + 1) := e51
                  exact go_lv rfl (ih l1 l2 v50 h46 hv46 hl1 (by omega) (by omega) fx46 (by rw [show (v50 : Int32).toInt = (l3.toInt + 1) from e51]; exact k49) (by omega))
            ·
              have k53 := if_f k26 (Int.not_le.mpr q27)
              refine go_iload (pc := 59) rfl dX4_spread_59 ?_
              refine go_bipush (pc := 61) (v := 7) (by decide) dX4_spread_61 ?_
              refine gf_icmp_lt (pc := 63) (tgt := 79) e20 (ti_c (v := 7) (a := 7) (by decide)) (by decide) dX4_spread_63 (fun q54 => ?_) (fun q54 => ?_)
              ·
                have k55 := if_t k53 q54
                refine go_iload (pc := 79) rfl dX4_spread_79 ?_
                refine go_bipush (pc := 81) (v := 40) (by decide) dX4_spread_81 ?_
                refine gf_icmp_lt (pc := 83) (tgt := 115) e16 (ti_c (v := 40) (a := 40) (by decide)) (by decide) dX4_spread_83 (fun q56 => ?_) (fun q56 => False.elim (by omega))
                refine gf_iinc (pc := 115) (Nat.le_of_ble_eq_true rfl) rfl (ti_rfl l3) (ti_c (by decide)) (by omega) (by omega) dX4_spread_115 (fun v57 e58 => ?_)
                refine go_lv (lv2 := [(0, .ref 49), (1, .ref l1), (2, .int l2), (3, .int v57), (4, .int v15), (5, .int v19)]) rfl ?_
                refine go_goto (pc := 118) (tgt := 2) (by decide) dX4_spread_118 ?_
                have z59 : (v57 : Int32).toInt = (l3.toInt + 1) := e58
                exact go_lv rfl (ih l1 l2 v57 h23 hv23 hl1 (by omega) (by omega) fx23 (by rw [show (v57 : Int32).toInt = (l3.toInt + 1) from e58]; exact k55) (by omega))
              ·
                have k60 := if_f k53 (Int.not_lt.mpr q54)
                refine go_aload_n (pc := 66) rfl dX4_spread_66 ?_
                refine go_aload_n (pc := 67) rfl dX4_spread_67 ?_
                refine go_iload (pc := 68) rfl dX4_spread_68 ?_
                refine go_iload (pc := 70) rfl dX4_spread_70 ?_
                refine go_iload_n (pc := 72) rfl dX4_spread_72 ?_
                refine go_invV (pc := 73) (sl := 0) (s_X4_followCall2_f l (d + 0) hv23 l1 hl1 v15 (by rw [show (v15 : Int32).toInt = (v13.toInt / 13) from e16]; omega) (by rw [show (v15 : Int32).toInt = (v13.toInt / 13) from e16]; omega) v19 (by rw [show (v19 : Int32).toInt = (v17.toInt % 13) from e20]; omega) (by rw [show (v19 : Int32).toInt = (v17.toInt % 13) from e20]; omega) l2) mL_X4_114 iM_X4_followCall sM_X4_followCall (hv23.sh rfl) rfl rfl rfl (Nat.le_of_ble_eq_true rfl) (show d + 0 + 2 + 1 ≤ d + 3 by omega) (show 8 + (8 + 11) + 40 * (d + 0 + 2) ≤ 40 * (d + 3) by omega) (g_c0 hv23.ln) (Nat.le_of_ble_eq_true rfl) dX4_spread_73 ?_
                intro r h61 hq _
                obtain ⟨rfl, hv61, f62, f63⟩ := hq
                try rw [show (v15 : Int32).toInt = (v13.toInt / 13) from e16] at f62
                try rw [show (v19 : Int32).toInt = (v17.toInt % 13) from e20] at f62
                try rw [show (v15 : Int32).toInt = (v13.toInt / 13) from e16] at f63
                try rw [show (v19 : Int32).toInt = (v17.toInt % 13) from e20] at f63
                have fx61 : FX KQ h h61 := FX.tr fx23 f63
                have k64 := bd_e k60 f62.symm
                refine go_goto (pc := 76) (tgt := 115) (by decide) dX4_spread_76 ?_
                refine gf_iinc (pc := 115) (Nat.le_of_ble_eq_true rfl) rfl (ti_rfl l3) (ti_c (by decide)) (by omega) (by omega) dX4_spread_115 (fun v65 e66 => ?_)
                refine go_lv (lv2 := [(0, .ref 49), (1, .ref l1), (2, .int l2), (3, .int v65), (4, .int v15), (5, .int v19)]) rfl ?_
                refine go_goto (pc := 118) (tgt := 2) (by decide) dX4_spread_118 ?_
                have z67 : (v65 : Int32).toInt = (l3.toInt + 1) := e66
                exact go_lv rfl (ih l1 l2 v65 h61 hv61 hl1 (by omega) (by omega) fx61 (by rw [show (v65 : Int32).toInt = (l3.toInt + 1) from e66]; exact k64) (by omega))
  refine go_iconst (pc := 0) (v := 0) (by decide) dX4_spread_0 ?_
  refine go_istore_n (pc := 1) (Nat.le_of_ble_eq_true rfl) dX4_spread_1 (go_lv (lv2 := [(0, .ref 49), (1, .ref c2), (2, .int a3), (3, .int 0)]) rfl ?_)
  have z68 : (0 : Int32).toInt = 0 := (ti_c (v := 0) (a := 0) (by decide))
  exact go_lv rfl ((key 1774) c2 a3 0 h hv hc2 (by omega) (by omega) fx (by rw [show (0 : Int32).toInt = 0 from (ti_c (v := 0) (a := 0) (by decide))]; exact k0) (by omega))
def f_X4_insFrom2_ : Nat → Nat → Int → Int → Int → ST → ST × Int
  | 0, _, _, _, _, sx => (sx, 0)
  | n + 1, _, l1, l3, l4, sx => if 6 ≤ l4 then ((sx, l3)) else (bd (sx.2.1 53 ((1 + l4)).toNat) fun v6 => bd (f_X7_has sx v6 ((40 + l1))) fun v12 => if v12 = 0 then (f_X4_insFrom2_ n 37 l1 l3 ((l4 + 1)) sx) else (bd (o_ishl 1 l4) fun v20 => bd (o_ior l3 v20) fun v22 => f_X4_insFrom2_ n 37 l1 v22 ((l4 + 1)) sx))
def f_X4_insFrom2 (s : ST) (a2 : Int) (a3 : Int) : ST × Int :=
  bd (f_X4_clearFound2 s) fun s27 => bd (f_X7_bit s27 ((40 + a2))) fun v37 => bd (f_X4_add2 s27 53 ((7 + a3)) v37) fun s39 => bd (f_X4_spread2 s39 53 0) fun s43 => f_X4_insFrom2_ 37 37 a2 0 0 s43
set_option maxHeartbeats 4000000 in
set_option maxRecDepth 100000 in
theorem s_X4_insFrom2_f (l : Launch) (d : Nat) {P : PP} {h : HP} (hv : Iv P h) (a2 : Int32) (a2l : 0 ≤ a2.toInt) (a2u : a2.toInt ≤ 4) (a3 : Int32) (a3l : 0 ≤ a3.toInt) (a3u : a3.toInt ≤ 5) : Mt l yX4_insFrom cX4_insFrom 5 (some .int) (d + 4) [.ref 49, .int a2, .int a3] h 0 0 (fun r h' => ∃ v : Int32, r = some (.int v) ∧ -2147483648 ≤ v.toInt ∧ v.toInt ≤ 2147483647 ∧ Iv P h' ∧ ((st h', v.toInt) = f_X4_insFrom2 (st h) a2.toInt a3.toInt) ∧ (FX KQ h h')) := by
  refine Mt_iv hv (by decide) (Nat.le_of_ble_eq_true rfl) ?_
  show Go l RX4 cX4_insFrom 5 (g_rm (d + 4) 0 0) "insFrom" (some .int) 117 0 0 (fun _ _ => True) (fun r h' => ∃ v : Int32, r = some (.int v) ∧ -2147483648 ≤ v.toInt ∧ v.toInt ≤ 2147483647 ∧ Iv P h' ∧ ((st h', v.toInt) = f_X4_insFrom2 (st h) a2.toInt a3.toInt) ∧ (FX KQ h h')) 0 0 [(0, .ref 49), (1, .int a2), (2, .int a3)] [] h
  have fx : FX KQ h h := FX.rfl
  obtain ⟨fin, kf⟩ : ∃ z, z = f_X4_insFrom2 (st h) a2.toInt a3.toInt := ⟨_, _root_.rfl⟩
  have k0 := kf
  unfold f_X4_insFrom2 at k0
  have key : ∀ n : Nat, (∀ (l1 : Int32) (l3 : Int32) (l4 : Int32) (hx : HP), Iv P hx → 0 ≤ l1.toInt → l1.toInt ≤ 4 → 0 ≤ l4.toInt → l4.toInt ≤ 6 → FX KQ h hx → fin = f_X4_insFrom2_ n 37 l1.toInt l3.toInt l4.toInt (st hx) → (3 * (6 - l4.toInt) + 2 : Int) < n → Go l RX4 cX4_insFrom 5 (g_rm (d + 4) 0 0) "insFrom" (some .int) 117 0 0 (fun _ _ => True) (fun r h' => ∃ v : Int32, r = some (.int v) ∧ -2147483648 ≤ v.toInt ∧ v.toInt ≤ 2147483647 ∧ Iv P h' ∧ ((st h', v.toInt) = f_X4_insFrom2 (st h) a2.toInt a3.toInt) ∧ (FX KQ h h')) 0 37 [(0, .ref 49), (1, .int l1), (3, .int l3), (4, .int l4)] [] hx) := by
    intro n
    induction n with
    | zero => exact (by intros; omega)
    | succ n ih =>
      refine ?_
      ·
        intro l1 l3 l4 hx hvx l1l l1u l4l l4u fxx kL hm
        rw [f_X4_insFrom2_] at kL
        refine go_iload (pc := 37) rfl dX4_insFrom_37 ?_
        refine go_bipush (pc := 39) (v := 6) (by decide) dX4_insFrom_39 ?_
        refine gf_icmp_ge (pc := 41) (tgt := 76) (ti_rfl l4) (ti_c (v := 6) (a := 6) (by decide)) (by decide) dX4_insFrom_41 (fun q1 => ?_) (fun q1 => ?_)
        ·
          have k2 := if_t kL q1
          refine go_iload_n (pc := 76) rfl dX4_insFrom_76 ?_
          exact gi_iret (pc := 77) (ti_rfl l3) ⟨_, rfl, (ti_lo _), (ti_hi _), hvx, (k2.symm.trans kf), fxx⟩ hvx dX4_insFrom_77
        ·
          have k3 := if_f kL (Int.not_le.mpr q1)
          refine go_aload_n (pc := 44) rfl dX4_insFrom_44 ?_
          refine gi_getF (pc := 45) (q := 53) hvx fL_X4_26 rfl (Nat.le_of_ble_eq_true rfl) rfl (hvx.rf (by decide)) dX4_insFrom_45 ?_
          refine go_iconst (pc := 48) (v := 1) (by decide) dX4_insFrom_48 ?_
          refine go_iload (pc := 49) rfl dX4_insFrom_49 ?_
          refine gf_iadd (pc := 51) (ti_c (v := 1) (a := 1) (by decide)) (ti_rfl l4) (by omega) (by omega) dX4_insFrom_51 (fun v4 e5 => ?_)
          refine gi_lald (pc := 52) (len := 13) hvx e5 rfl (by omega) (by omega) dX4_insFrom_52 (fun v6 v6w => ?_)
          have k7 := bd_e k3 v6w.symm
          refine go_bipush (pc := 53) (v := 40) (by decide) dX4_insFrom_53 ?_
          refine go_iload_n (pc := 55) rfl dX4_insFrom_55 ?_
          refine gf_iadd (pc := 56) (ti_c (v := 40) (a := 40) (by decide)) (ti_rfl l1) (by omega) (by omega) dX4_insFrom_56 (fun v8 e9 => ?_)
          refine go_invS (pc := 57) (sl := 0) (s_X7_has_f l (d + 2) hvx v6 v8) mL_X4_102 iM_X7_has rfl rfl (Nat.le_of_ble_eq_true rfl) (show d + 2 + 1 + 1 ≤ d + 4 by omega) (show 8 + (3 + 11) + 40 * (d + 2 + 1) ≤ 40 * (d + 4) by omega) (g_c0 hvx.ln) (Nat.le_of_ble_eq_true rfl) dX4_insFrom_57 ?_
          intro r h10 hq _
          obtain ⟨v12, rfl, v12l, v12u, rfl, f11⟩ := hq
          try rw [show (v8 : Int32).toInt = (40 + l1.toInt) from e9] at f11
          replace f11 : PE _ _ := f11
          have k13 := bd_e k7 f11.symm
          refine gf_if_eq (pc := 60) (tgt := 70) (ti_rfl v12) (by decide) dX4_insFrom_60 (fun q14 => ?_) (fun q14 => ?_)
          ·
            have k15 := if_t k13 q14
            refine gf_iinc (pc := 70) (Nat.le_of_ble_eq_true rfl) rfl (ti_rfl l4) (ti_c (by decide)) (by omega) (by omega) dX4_insFrom_70 (fun v16 e17 => ?_)
            refine go_lv (lv2 := [(0, .ref 49), (1, .int l1), (3, .int l3), (4, .int v16)]) rfl ?_
            refine go_goto (pc := 73) (tgt := 37) (by decide) dX4_insFrom_73 ?_
            have z18 : (v16 : Int32).toInt = (l4.toInt + 1) := e17
            exact go_lv rfl (ih l1 l3 v16 hx hvx (by omega) (by omega) (by omega) (by omega) fxx (by rw [show (v16 : Int32).toInt = (l4.toInt + 1) from e17]; exact k15) (by omega))
          ·
            have k19 := if_f k13 q14
            refine go_iload_n (pc := 63) rfl dX4_insFrom_63 ?_
            refine go_iconst (pc := 64) (v := 1) (by decide) dX4_insFrom_64 ?_
            refine go_iload (pc := 65) rfl dX4_insFrom_65 ?_
            refine gx_ishl (pc := 67) dX4_insFrom_67 (fun v20 v20x => ?_)
            have k21 := bd_e k19 (so_ishl (ti_c (v := 1) (a := 1) (by decide)) (ti_rfl l4) v20x)
            refine gx_ior (pc := 68) dX4_insFrom_68 (fun v22 v22x => ?_)
            have k23 := bd_e k21 (so_ior (ti_rfl l3) (ti_rfl v20) v22x)
            refine go_istore_n (pc := 69) (Nat.le_of_ble_eq_true rfl) dX4_insFrom_69 (go_lv (lv2 := [(0, .ref 49), (1, .int l1), (3, .int v22), (4, .int l4)]) rfl ?_)
            refine gf_iinc (pc := 70) (Nat.le_of_ble_eq_true rfl) rfl (ti_rfl l4) (ti_c (by decide)) (by omega) (by omega) dX4_insFrom_70 (fun v24 e25 => ?_)
            refine go_lv (lv2 := [(0, .ref 49), (1, .int l1), (3, .int v22), (4, .int v24)]) rfl ?_
            refine go_goto (pc := 73) (tgt := 37) (by decide) dX4_insFrom_73 ?_
            have z26 : (v24 : Int32).toInt = (l4.toInt + 1) := e25
            exact go_lv rfl (ih l1 v22 v24 hx hvx (by omega) (by omega) (by omega) (by omega) fxx (by rw [show (v24 : Int32).toInt = (l4.toInt + 1) from e25]; exact k23) (by omega))
  refine go_aload_n (pc := 0) rfl dX4_insFrom_0 ?_
  refine go_invV (pc := 1) (sl := 0) (s_X4_clearFound2_f l (d + 1) hv ) mL_X4_88 iM_X4_clearFound sM_X4_clearFound (hv.sh rfl) rfl rfl rfl (Nat.le_of_ble_eq_true rfl) (show d + 1 + 2 + 1 ≤ d + 4 by omega) (show 8 + (1 + 11) + 40 * (d + 1 + 2) ≤ 40 * (d + 4) by omega) (g_c0 hv.ln) (Nat.le_of_ble_eq_true rfl) dX4_insFrom_1 ?_
  intro r h27 hq _
  obtain ⟨rfl, hv27, f28, f29⟩ := hq
  have fx27 : FX KQ h h27 := FX.tr fx f29
  have k30 := bd_e k0 f28.symm
  refine go_aload_n (pc := 4) rfl dX4_insFrom_4 ?_
  refine go_aload_n (pc := 5) rfl dX4_insFrom_5 ?_
  refine gi_getF (pc := 6) (q := 53) hv27 fL_X4_26 rfl (Nat.le_of_ble_eq_true rfl) rfl (hv27.rf (by decide)) dX4_insFrom_6 ?_
  refine go_bipush (pc := 9) (v := 7) (by decide) dX4_insFrom_9 ?_
  refine go_iload_n (pc := 11) rfl dX4_insFrom_11 ?_
  refine gf_iadd (pc := 12) (ti_c (v := 7) (a := 7) (by decide)) (ti_rfl a3) (by omega) (by omega) dX4_insFrom_12 (fun v31 e32 => ?_)
  refine go_bipush (pc := 13) (v := 40) (by decide) dX4_insFrom_13 ?_
  refine go_iload_n (pc := 15) rfl dX4_insFrom_15 ?_
  refine gf_iadd (pc := 16) (ti_c (v := 40) (a := 40) (by decide)) (ti_rfl a2) (by omega) (by omega) dX4_insFrom_16 (fun v33 e34 => ?_)
  refine go_invS (pc := 17) (sl := 0) (s_X7_bit_f l (d + 2) hv27 v33) mL_X4_91 iM_X7_bit rfl rfl (Nat.le_of_ble_eq_true rfl) (show d + 2 + 1 + 1 ≤ d + 4 by omega) (show 8 + (1 + 11) + 40 * (d + 2 + 1) ≤ 40 * (d + 4) by omega) (g_c0 hv27.ln) (Nat.le_of_ble_eq_true rfl) dX4_insFrom_17 ?_
  intro r h35 hq _
  obtain ⟨v37, rfl, rfl, f36⟩ := hq
  try rw [show (v33 : Int32).toInt = (40 + a2.toInt) from e34] at f36
  have k38 := bd_e k30 f36.symm
  refine go_invV (pc := 20) (sl := 0) (s_X4_add2_f l (d + 2) hv27 53 (by decide) v31 (by rw [show (v31 : Int32).toInt = (7 + a3.toInt) from e32]; omega) (by rw [show (v31 : Int32).toInt = (7 + a3.toInt) from e32]; omega) v37) mL_X4_94 iM_X4_add sM_X4_add (hv27.sh rfl) rfl rfl rfl (Nat.le_of_ble_eq_true rfl) (show d + 2 + 1 + 1 ≤ d + 4 by omega) (show 8 + (8 + 11) + 40 * (d + 2 + 1) ≤ 40 * (d + 4) by omega) (g_c0 hv27.ln) (Nat.le_of_ble_eq_true rfl) dX4_insFrom_20 ?_
  intro r h39 hq _
  obtain ⟨rfl, hv39, f40, f41⟩ := hq
  try rw [show (v31 : Int32).toInt = (7 + a3.toInt) from e32] at f40
  try rw [show (v31 : Int32).toInt = (7 + a3.toInt) from e32] at f41
  have fx39 : FX KQ h h39 := FX.tr fx27 f41
  have k42 := bd_e k38 f40.symm
  refine go_aload_n (pc := 23) rfl dX4_insFrom_23 ?_
  refine go_aload_n (pc := 24) rfl dX4_insFrom_24 ?_
  refine gi_getF (pc := 25) (q := 53) hv39 fL_X4_26 rfl (Nat.le_of_ble_eq_true rfl) rfl (hv39.rf (by decide)) dX4_insFrom_25 ?_
  refine go_iconst (pc := 28) (v := 0) (by decide) dX4_insFrom_28 ?_
  refine go_invV (pc := 29) (sl := 0) (s_X4_spread2_f l (d + 0) hv39 53 (by decide) 0) mL_X4_98 iM_X4_spread sM_X4_spread (hv39.sh rfl) rfl rfl rfl (Nat.le_of_ble_eq_true rfl) (show d + 0 + 3 + 1 ≤ d + 4 by omega) (show 8 + (6 + 11) + 40 * (d + 0 + 3) ≤ 40 * (d + 4) by omega) (g_c0 hv39.ln) (Nat.le_of_ble_eq_true rfl) dX4_insFrom_29 ?_
  intro r h43 hq _
  obtain ⟨rfl, hv43, f44, f45⟩ := hq
  try rw [show (0 : Int32).toInt = 0 from (ti_c (v := 0) (a := 0) (by decide))] at f44
  try rw [show (0 : Int32).toInt = 0 from (ti_c (v := 0) (a := 0) (by decide))] at f45
  have fx43 : FX KQ h h43 := FX.tr fx39 f45
  have k46 := bd_e k42 f44.symm
  refine go_iconst (pc := 32) (v := 0) (by decide) dX4_insFrom_32 ?_
  refine go_istore_n (pc := 33) (Nat.le_of_ble_eq_true rfl) dX4_insFrom_33 (go_lv (lv2 := [(0, .ref 49), (1, .int a2), (2, .int a3), (3, .int 0)]) rfl ?_)
  refine go_iconst (pc := 34) (v := 0) (by decide) dX4_insFrom_34 ?_
  refine go_istore (pc := 35) (Nat.le_of_ble_eq_true rfl) dX4_insFrom_35 (go_lv (lv2 := [(0, .ref 49), (1, .int a2), (2, .int a3), (3, .int 0), (4, .int 0)]) rfl ?_)
  have z47 : (0 : Int32).toInt = 0 := (ti_c (v := 0) (a := 0) (by decide))
  have z48 : (0 : Int32).toInt = 0 := (ti_c (v := 0) (a := 0) (by decide))
  exact go_lv rfl ((key 37) a2 0 0 h43 hv43 (by omega) (by omega) (by omega) (by omega) fx43 (by rw [show (0 : Int32).toInt = 0 from (ti_c (v := 0) (a := 0) (by decide))]; exact k46) (by omega))
def f_X4_growThrough2_ : Nat → Nat → Int → Int → Int → ST → ST × Int
  | 0, _, _, _, _, sx => (sx, 0)
  | n + 1, lab, l1, l2, l3, sx => if lab = 4 then (bd (sx.2.2 49 1) fun c1 => bd (sx.1 c1 1) fun v3 => if v3 ≤ l2 then ((sx, l1)) else (f_X4_growThrough2_ n 17 l1 l2 0 sx)) else if 6 ≤ l3 then (f_X4_growThrough2_ n 4 l1 ((l2 + 1)) 0 sx) else (bd2 (f_X4_insFrom2 sx l2 l3) fun s15 v18 => bd (s15.1 51 (((l2 * 6) + l3)).toNat) fun v24 => if v18 = v24 then (bd (o_ior l1 0) fun v28 => bd (sI s15 51 (((l2 * 6) + l3)).toNat v18) fun s34 => f_X4_growThrough2_ n 17 v28 l2 ((l3 + 1)) s34) else (bd (o_ior l1 1) fun v40 => bd (sI s15 51 (((l2 * 6) + l3)).toNat v18) fun s46 => f_X4_growThrough2_ n 17 v40 l2 ((l3 + 1)) s46))
def f_X4_growThrough2 (s : ST) : ST × Int :=
  f_X4_growThrough2_ 202 4 0 0 0 s
set_option maxHeartbeats 4000000 in
set_option maxRecDepth 100000 in
theorem s_X4_growThrough2_f (l : Launch) (d : Nat) {P : PP} {h : HP} (hv : Iv P h)  : Mt l yX4_growThrough cX4_growThrough 5 (some .boolean) (d + 5) [.ref 49] h 0 0 (fun r h' => ∃ v : Int32, r = some (.int v) ∧ 0 ≤ v.toInt ∧ v.toInt ≤ 1 ∧ Iv P h' ∧ ((st h', v.toInt) = f_X4_growThrough2 (st h)) ∧ (FX KAc h h')) := by
  refine Mt_iv hv (by decide) (Nat.le_of_ble_eq_true rfl) ?_
  show Go l RX4 cX4_growThrough 5 (g_rm (d + 5) 0 0) "growThrough" (some .boolean) 117 0 0 (fun _ _ => True) (fun r h' => ∃ v : Int32, r = some (.int v) ∧ 0 ≤ v.toInt ∧ v.toInt ≤ 1 ∧ Iv P h' ∧ ((st h', v.toInt) = f_X4_growThrough2 (st h)) ∧ (FX KAc h h')) 0 0 [(0, .ref 49)] [] h
  have fx : FX KAc h h := FX.rfl
  obtain ⟨fin, kf⟩ : ∃ z, z = f_X4_growThrough2 (st h) := ⟨_, _root_.rfl⟩
  have k0 := kf
  unfold f_X4_growThrough2 at k0
  have key : ∀ n : Nat, (∀ (l1 : Int32) (l2 : Int32) (hx : HP), Iv P hx → 0 ≤ l1.toInt → l1.toInt ≤ 1 → 0 ≤ l2.toInt → l2.toInt ≤ 5 → FX KAc h hx → fin = f_X4_growThrough2_ n 4 l1.toInt l2.toInt 0 (st hx) → (27 * (5 - l2.toInt) + 26 : Int) < n → Go l RX4 cX4_growThrough 5 (g_rm (d + 5) 0 0) "growThrough" (some .boolean) 117 0 0 (fun _ _ => True) (fun r h' => ∃ v : Int32, r = some (.int v) ∧ 0 ≤ v.toInt ∧ v.toInt ≤ 1 ∧ Iv P h' ∧ ((st h', v.toInt) = f_X4_growThrough2 (st h)) ∧ (FX KAc h h')) 0 4 [(0, .ref 49), (1, .int l1), (2, .int l2)] [] hx) ∧ (∀ (l1 : Int32) (l2 : Int32) (l3 : Int32) (hx : HP), Iv P hx → 0 ≤ l1.toInt → l1.toInt ≤ 1 → 0 ≤ l2.toInt → l2.toInt ≤ 4 → 0 ≤ l3.toInt → l3.toInt ≤ 6 → FX KAc h hx → fin = f_X4_growThrough2_ n 17 l1.toInt l2.toInt l3.toInt (st hx) → (3 * (6 - l3.toInt) + 27 * (5 - l2.toInt) + 3 : Int) < n → Go l RX4 cX4_growThrough 5 (g_rm (d + 5) 0 0) "growThrough" (some .boolean) 117 0 0 (fun _ _ => True) (fun r h' => ∃ v : Int32, r = some (.int v) ∧ 0 ≤ v.toInt ∧ v.toInt ≤ 1 ∧ Iv P h' ∧ ((st h', v.toInt) = f_X4_growThrough2 (st h)) ∧ (FX KAc h h')) 0 17 [(0, .ref 49), (1, .int l1), (2, .int l2), (3, .int l3)] [] hx) := by
    intro n
    induction n with
    | zero => exact ⟨(by intros; omega), (by intros; omega)⟩
    | succ n ih =>
      refine ⟨?_, ?_⟩
      ·
        intro l1 l2 hx hvx l1l l1u l2l l2u fxx kL hm
        rw [f_X4_growThrough2_] at kL
        replace kL := if_t kL _root_.rfl
        refine go_iload_n (pc := 4) rfl dX4_growThrough_4 ?_
        refine go_aload_n (pc := 5) rfl dX4_growThrough_5 ?_
        refine gi_getC (pc := 6) hvx fL_X4_58 rfl (Nat.le_of_ble_eq_true rfl) rfl (by decide) dX4_growThrough_6 (fun c1 hc1 fc1 => ?_)
        have k2 := bd_e kL (st_c fc1)
        refine gi_get (pc := 9) (lo := 0) (hi := 5) hvx fL_X4_65 (by rcases hc1 with rfl | rfl <;> rfl) (Nat.le_of_ble_eq_true rfl) rfl (by rcases hc1 with rfl | rfl <;> rfl) dX4_growThrough_9 (fun v3 v3l v3u v3w => ?_)
        have k4 := bd_e k2 (congrArg Int32.toInt v3w.symm)
        refine gf_icmp_ge (pc := 12) (tgt := 80) (ti_rfl l2) (ti_rfl v3) (by decide) dX4_growThrough_12 (fun q5 => ?_) (fun q5 => ?_)
        ·
          have k6 := if_t k4 q5
          refine go_iload_n (pc := 80) rfl dX4_growThrough_80 ?_
          exact gi_zret (pc := 81) (ti_rfl l1) (by omega) (by omega) ⟨_, rfl, (by rw [show (l1 : Int32).toInt = l1.toInt from (ti_rfl l1)]; omega), (by rw [show (l1 : Int32).toInt = l1.toInt from (ti_rfl l1)]; omega), hvx, (k6.symm.trans kf), fxx⟩ hvx dX4_growThrough_81
        ·
          have k7 := if_f k4 (Int.not_le.mpr q5)
          refine go_iconst (pc := 15) (v := 0) (by decide) dX4_growThrough_15 ?_
          refine go_istore_n (pc := 16) (Nat.le_of_ble_eq_true rfl) dX4_growThrough_16 (go_lv (lv2 := [(0, .ref 49), (1, .int l1), (2, .int l2), (3, .int 0)]) rfl ?_)
          have z8 : (0 : Int32).toInt = 0 := (ti_c (v := 0) (a := 0) (by decide))
          exact go_lv rfl (ih.2 l1 l2 0 hx hvx (by omega) (by omega) (by omega) (by omega) (by omega) (by omega) fxx (by rw [show (0 : Int32).toInt = 0 from (ti_c (v := 0) (a := 0) (by decide))]; exact k7) (by omega))
      ·
        intro l1 l2 l3 hx hvx l1l l1u l2l l2u l3l l3u fxx kL hm
        rw [f_X4_growThrough2_] at kL
        replace kL := if_f kL (by decide)
        refine go_iload_n (pc := 17) rfl dX4_growThrough_17 ?_
        refine go_bipush (pc := 18) (v := 6) (by decide) dX4_growThrough_18 ?_
        refine gf_icmp_ge (pc := 20) (tgt := 74) (ti_rfl l3) (ti_c (v := 6) (a := 6) (by decide)) (by decide) dX4_growThrough_20 (fun q9 => ?_) (fun q9 => ?_)
        ·
          have k10 := if_t kL q9
          refine gf_iinc (pc := 74) (Nat.le_of_ble_eq_true rfl) rfl (ti_rfl l2) (ti_c (by decide)) (by omega) (by omega) dX4_growThrough_74 (fun v11 e12 => ?_)
          refine go_lv (lv2 := [(0, .ref 49), (1, .int l1), (2, .int v11), (3, .int l3)]) rfl ?_
          refine go_goto (pc := 77) (tgt := 4) (by decide) dX4_growThrough_77 ?_
          have z13 : (v11 : Int32).toInt = (l2.toInt + 1) := e12
          exact go_lv rfl (ih.1 l1 v11 hx hvx (by omega) (by omega) (by omega) (by omega) fxx (by rw [show (v11 : Int32).toInt = (l2.toInt + 1) from e12]; exact k10) (by omega))
        ·
          have k14 := if_f kL (Int.not_le.mpr q9)
          refine go_aload_n (pc := 23) rfl dX4_growThrough_23 ?_
          refine go_iload_n (pc := 24) rfl dX4_growThrough_24 ?_
          refine go_iload_n (pc := 25) rfl dX4_growThrough_25 ?_
          refine go_invV (pc := 26) (sl := 0) (s_X4_insFrom2_f l (d + 0) hvx l2 (by rw [show (l2 : Int32).toInt = l2.toInt from (ti_rfl l2)]; omega) (by rw [show (l2 : Int32).toInt = l2.toInt from (ti_rfl l2)]; omega) l3 (by rw [show (l3 : Int32).toInt = l3.toInt from (ti_rfl l3)]; omega) (by rw [show (l3 : Int32).toInt = l3.toInt from (ti_rfl l3)]; omega)) mL_X4_84 iM_X4_insFrom sM_X4_insFrom (hvx.sh rfl) rfl rfl rfl (Nat.le_of_ble_eq_true rfl) (show d + 0 + 4 + 1 ≤ d + 5 by omega) (show 8 + (5 + 11) + 40 * (d + 0 + 4) ≤ 40 * (d + 5) by omega) (g_c0 hvx.ln) (Nat.le_of_ble_eq_true rfl) dX4_growThrough_26 ?_
          intro r h15 hq _
          obtain ⟨v18, rfl, v18l, v18u, hv15, f16, f17⟩ := hq
          have fx15 : FX KAc h h15 := FX.tr fxx (FX.mono (fun c j z => by unfold KAc at z; unfold KQ; omega) f17)
          have k19 := bd2_e k14 f16
          refine go_istore (pc := 29) (Nat.le_of_ble_eq_true rfl) dX4_growThrough_29 (go_lv (lv2 := [(0, .ref 49), (1, .int l1), (2, .int l2), (3, .int l3), (4, .int v18)]) rfl ?_)
          refine go_iload_n (pc := 31) rfl dX4_growThrough_31 ?_
          refine go_iload (pc := 32) rfl dX4_growThrough_32 ?_
          refine go_aload_n (pc := 34) rfl dX4_growThrough_34 ?_
          refine gi_getF (pc := 35) (q := 51) hv15 fL_X4_19 rfl (Nat.le_of_ble_eq_true rfl) rfl (hv15.rf (by decide)) dX4_growThrough_35 ?_
          refine go_iload_n (pc := 38) rfl dX4_growThrough_38 ?_
          refine go_bipush (pc := 39) (v := 6) (by decide) dX4_growThrough_39 ?_
          refine gf_imul (pc := 41) (ti_rfl l2) (ti_c (v := 6) (a := 6) (by decide)) (by omega) (by omega) dX4_growThrough_41 (fun v20 e21 => ?_)
          refine go_iload_n (pc := 42) rfl dX4_growThrough_42 ?_
          refine gf_iadd (pc := 43) e21 (ti_rfl l3) (by omega) (by omega) dX4_growThrough_43 (fun v22 e23 => ?_)
          refine gi_iald (pc := 44) (lo := -2147483648) (hi := 2147483647) (len := 30) hv15 e23 rfl (by omega) (by omega) (fun _ => rfl) dX4_growThrough_44 (fun v24 v24l v24u v24w => ?_)
          have k25 := bd_e k19 (congrArg Int32.toInt v24w.symm)
          refine gf_icmp_eq (pc := 45) (tgt := 52) (ti_rfl v18) (ti_rfl v24) (by decide) dX4_growThrough_45 (fun q26 => ?_) (fun q26 => ?_)
          ·
            have k27 := if_t k25 q26
            refine go_iconst (pc := 52) (v := 0) (by decide) dX4_growThrough_52 ?_
            refine gx_ior (pc := 53) dX4_growThrough_53 (fun v28 v28x => ?_)
            have v28l : 0 ≤ v28.toInt := by rw [v28x]; exact (ti_orB (ti_rfl l1) (ti_c (v := 0) (a := 0) (by decide)) (by omega) (by omega) (by omega) (by omega)).1
            have v28u : v28.toInt ≤ 1 := by rw [v28x]; exact (ti_orB (ti_rfl l1) (ti_c (v := 0) (a := 0) (by decide)) (by omega) (by omega) (by omega) (by omega)).2
            have k29 := bd_e k27 (so_ior (ti_rfl l1) (ti_c (v := 0) (a := 0) (by decide)) v28x)
            refine go_istore_n (pc := 54) (Nat.le_of_ble_eq_true rfl) dX4_growThrough_54 (go_lv (lv2 := [(0, .ref 49), (1, .int v28), (2, .int l2), (3, .int l3), (4, .int v18)]) rfl ?_)
            refine go_aload_n (pc := 55) rfl dX4_growThrough_55 ?_
            refine gi_getF (pc := 56) (q := 51) hv15 fL_X4_19 rfl (Nat.le_of_ble_eq_true rfl) rfl (hv15.rf (by decide)) dX4_growThrough_56 ?_
            refine go_iload_n (pc := 59) rfl dX4_growThrough_59 ?_
            refine go_bipush (pc := 60) (v := 6) (by decide) dX4_growThrough_60 ?_
            refine gf_imul (pc := 62) (ti_rfl l2) (ti_c (v := 6) (a := 6) (by decide)) (by omega) (by omega) dX4_growThrough_62 (fun v30 e31 => ?_)
            refine go_iload_n (pc := 63) rfl dX4_growThrough_63 ?_
            refine gf_iadd (pc := 64) e31 (ti_rfl l3) (by omega) (by omega) dX4_growThrough_64 (fun v32 e33 => ?_)
            refine go_iload (pc := 65) rfl dX4_growThrough_65 ?_
            refine gi_iast (pc := 67) (lo := -2147483648) (hi := 2147483647) (len := 30) hv15 e33 (ti_rfl v18) rfl (by omega) (by omega) (fun _ => rfl) (ti_ge (ti_rfl v18)) (ti_le2 (ti_rfl v18)) (by decide) dX4_growThrough_67 (fun h34 hv34 hv34e => ?_)
            have fx34 : FX KAc h h34 := FX.pI fx15 hv34e (by unfold KAc; omega)
            have k35 := bd_e k29 (st_I hv34e (ti_rfl v18))
            refine gf_iinc (pc := 68) (Nat.le_of_ble_eq_true rfl) rfl (ti_rfl l3) (ti_c (by decide)) (by omega) (by omega) dX4_growThrough_68 (fun v36 e37 => ?_)
            refine go_lv (lv2 := [(0, .ref 49), (1, .int v28), (2, .int l2), (3, .int v36), (4, .int v18)]) rfl ?_
            refine go_goto (pc := 71) (tgt := 17) (by decide) dX4_growThrough_71 ?_
            have z38 : (v36 : Int32).toInt = (l3.toInt + 1) := e37
            exact go_lv rfl (ih.2 v28 l2 v36 h34 hv34 (by omega) (by omega) (by omega) (by omega) (by omega) (by omega) fx34 (by rw [show (v36 : Int32).toInt = (l3.toInt + 1) from e37]; exact k35) (by omega))
          ·
            have k39 := if_f k25 q26
            refine go_iconst (pc := 48) (v := 1) (by decide) dX4_growThrough_48 ?_
            refine go_goto (pc := 49) (tgt := 53) (by decide) dX4_growThrough_49 ?_
            refine gx_ior (pc := 53) dX4_growThrough_53 (fun v40 v40x => ?_)
            have v40l : 0 ≤ v40.toInt := by rw [v40x]; exact (ti_orB (ti_rfl l1) (ti_c (v := 1) (a := 1) (by decide)) (by omega) (by omega) (by omega) (by omega)).1
            have v40u : v40.toInt ≤ 1 := by rw [v40x]; exact (ti_orB (ti_rfl l1) (ti_c (v := 1) (a := 1) (by decide)) (by omega) (by omega) (by omega) (by omega)).2
            have k41 := bd_e k39 (so_ior (ti_rfl l1) (ti_c (v := 1) (a := 1) (by decide)) v40x)
            refine go_istore_n (pc := 54) (Nat.le_of_ble_eq_true rfl) dX4_growThrough_54 (go_lv (lv2 := [(0, .ref 49), (1, .int v40), (2, .int l2), (3, .int l3), (4, .int v18)]) rfl ?_)
            refine go_aload_n (pc := 55) rfl dX4_growThrough_55 ?_
            refine gi_getF (pc := 56) (q := 51) hv15 fL_X4_19 rfl (Nat.le_of_ble_eq_true rfl) rfl (hv15.rf (by decide)) dX4_growThrough_56 ?_
            refine go_iload_n (pc := 59) rfl dX4_growThrough_59 ?_
            refine go_bipush (pc := 60) (v := 6) (by decide) dX4_growThrough_60 ?_
            refine gf_imul (pc := 62) (ti_rfl l2) (ti_c (v := 6) (a := 6) (by decide)) (by omega) (by omega) dX4_growThrough_62 (fun v42 e43 => ?_)
            refine go_iload_n (pc := 63) rfl dX4_growThrough_63 ?_
            refine gf_iadd (pc := 64) e43 (ti_rfl l3) (by omega) (by omega) dX4_growThrough_64 (fun v44 e45 => ?_)
            refine go_iload (pc := 65) rfl dX4_growThrough_65 ?_
            refine gi_iast (pc := 67) (lo := -2147483648) (hi := 2147483647) (len := 30) hv15 e45 (ti_rfl v18) rfl (by omega) (by omega) (fun _ => rfl) (ti_ge (ti_rfl v18)) (ti_le2 (ti_rfl v18)) (by decide) dX4_growThrough_67 (fun h46 hv46 hv46e => ?_)
            have fx46 : FX KAc h h46 := FX.pI fx15 hv46e (by unfold KAc; omega)
            have k47 := bd_e k41 (st_I hv46e (ti_rfl v18))
            refine gf_iinc (pc := 68) (Nat.le_of_ble_eq_true rfl) rfl (ti_rfl l3) (ti_c (by decide)) (by omega) (by omega) dX4_growThrough_68 (fun v48 e49 => ?_)
            refine go_lv (lv2 := [(0, .ref 49), (1, .int v40), (2, .int l2), (3, .int v48), (4, .int v18)]) rfl ?_
            refine go_goto (pc := 71) (tgt := 17) (by decide) dX4_growThrough_71 ?_
            have z50 : (v48 : Int32).toInt = (l3.toInt + 1) := e49
            exact go_lv rfl (ih.2 v40 l2 v48 h46 hv46 (by omega) (by omega) (by omega) (by omega) (by omega) (by omega) fx46 (by rw [show (v48 : Int32).toInt = (l3.toInt + 1) from e49]; exact k47) (by omega))
  refine go_iconst (pc := 0) (v := 0) (by decide) dX4_growThrough_0 ?_
  refine go_istore_n (pc := 1) (Nat.le_of_ble_eq_true rfl) dX4_growThrough_1 (go_lv (lv2 := [(0, .ref 49), (1, .int 0)]) rfl ?_)
  refine go_iconst (pc := 2) (v := 0) (by decide) dX4_growThrough_2 ?_
  refine go_istore_n (pc := 3) (Nat.le_of_ble_eq_true rfl) dX4_growThrough_3 (go_lv (lv2 := [(0, .ref 49), (1, .int 0), (2, .int 0)]) rfl ?_)
  have z51 : (0 : Int32).toInt = 0 := (ti_c (v := 0) (a := 0) (by decide))
  have z52 : (0 : Int32).toInt = 0 := (ti_c (v := 0) (a := 0) (by decide))
  exact go_lv rfl ((key 202).1 0 0 h hv (by omega) (by omega) (by omega) (by omega) fx (by rw [show (0 : Int32).toInt = 0 from (ti_c (v := 0) (a := 0) (by decide))]; exact k0) (by omega))
noncomputable def f_X4_prepare2_ : Nat → Nat → Int → Int → ST → ST
  | 0, _, _, _, sx => sx
  | n + 1, lab, l2, l3, sx => if lab = 41 then (bd (sx.2.2 49 1) fun c1 => bd (sx.1 c1 1) fun v3 => if v3 ≤ l2 then (bd (f_J7_fill_53178_at512 sx 0) fun s7 => f_X4_prepare2_ n 84 1 0 s7) else (bd (sx.2.2 49 1) fun c14 => bd (f_X0_callsOf2 sx c14 l2) fun v18 => bd (sL sx 50 (l2).toNat v18) fun s20 => f_X4_prepare2_ n 41 ((l2 + 1)) 0 s20)) else if 180 < l3 then (sx) else (if l2 = 0 then (sx) else (bd2 (f_X4_growThrough2 sx) fun s31 v34 => f_X4_prepare2_ n 84 v34 ((l3 + 1)) s31))
noncomputable def f_X4_prepare2 (s : ST) (c2 : Nat) : ST :=
  bd (s.1 49 2) fun v39 => if v39 = 0 then (bd (sI s 49 2 1) fun s43 => bd (sR s43 49 1 c2) fun s45 => bd (s45.2.2 49 1) fun c47 => bd (f_X1_build2 s45 c47) fun s49 => bd (sL s49 49 10 (0 : Int64)) fun s53 => bd (sL s53 49 12 (0 : Int64)) fun s55 => f_X4_prepare2_ 760 41 0 0 s55) else (s)
set_option maxHeartbeats 4000000 in
set_option maxRecDepth 100000 in
theorem s_X4_prepare2_f (l : Launch) (d : Nat) {P : PP} {h : HP} (hv : Iv P h) (c2 : Nat) (hc2 : c2 = 2 ∨ c2 = 18) : Mt l yX4_prepare cX4_prepare 4 none (d + 6) [.ref 49, .ref c2] h 0 0 (fun r h' => r = none ∧ Iv P h' ∧ (st h' = f_X4_prepare2 (st h) c2) ∧ (FX KAc h h')) := by
  refine Mt_iv hv (by decide) (Nat.le_of_ble_eq_true rfl) ?_
  show Go l RX4 cX4_prepare 4 (g_rm (d + 6) 0 0) "prepare" none 117 0 0 (fun _ _ => True) (fun r h' => r = none ∧ Iv P h' ∧ (st h' = f_X4_prepare2 (st h) c2) ∧ (FX KAc h h')) 0 0 [(0, .ref 49), (1, .ref c2)] [] h
  have fx : FX KAc h h := FX.rfl
  obtain ⟨fin, kf⟩ : ∃ z, z = f_X4_prepare2 (st h) c2 := ⟨_, _root_.rfl⟩
  have k0 := kf
  unfold f_X4_prepare2 at k0
  have key : ∀ n : Nat, (∀ (l2 : Int32) (hx : HP), Iv P hx → 0 ≤ l2.toInt → l2.toInt ≤ 5 → FX KAc h hx → fin = f_X4_prepare2_ n 41 l2.toInt 0 (st hx) → (3 * (5 - l2.toInt) + 728 : Int) < n → Go l RX4 cX4_prepare 4 (g_rm (d + 6) 0 0) "prepare" none 117 0 0 (fun _ _ => True) (fun r h' => r = none ∧ Iv P h' ∧ (st h' = f_X4_prepare2 (st h) c2) ∧ (FX KAc h h')) 0 41 [(0, .ref 49), (2, .int l2)] [] hx) ∧ (∀ (l2 : Int32) (l3 : Int32) (hx : HP), Iv P hx → 0 ≤ l2.toInt → l2.toInt ≤ 1 → 0 ≤ l3.toInt → l3.toInt ≤ 240 → FX KAc h hx → fin = f_X4_prepare2_ n 84 l2.toInt l3.toInt (st hx) → (3 * (240 - l3.toInt) + 2 : Int) < n → Go l RX4 cX4_prepare 4 (g_rm (d + 6) 0 0) "prepare" none 117 0 0 (fun _ _ => True) (fun r h' => r = none ∧ Iv P h' ∧ (st h' = f_X4_prepare2 (st h) c2) ∧ (FX KAc h h')) 0 84 [(0, .ref 49), (2, .int l2), (3, .int l3)] [] hx) := by
    intro n
    induction n with
    | zero => exact ⟨(by intros; omega), (by intros; omega)⟩
    | succ n ih =>
      refine ⟨?_, ?_⟩
      ·
        intro l2 hx hvx l2l l2u fxx kL hm
        rw [f_X4_prepare2_] at kL
        replace kL := if_t kL _root_.rfl
        refine go_iload_n (pc := 41) rfl dX4_prepare_41 ?_
        refine go_aload_n (pc := 42) rfl dX4_prepare_42 ?_
        refine gi_getC (pc := 43) hvx fL_X4_58 rfl (Nat.le_of_ble_eq_true rfl) rfl (by decide) dX4_prepare_43 (fun c1 hc1 fc1 => ?_)
        have k2 := bd_e kL (st_c fc1)
        refine gi_get (pc := 46) (lo := 0) (hi := 5) hvx fL_X4_65 (by rcases hc1 with rfl | rfl <;> rfl) (Nat.le_of_ble_eq_true rfl) rfl (by rcases hc1 with rfl | rfl <;> rfl) dX4_prepare_46 (fun v3 v3l v3u v3w => ?_)
        have k4 := bd_e k2 (congrArg Int32.toInt v3w.symm)
        refine gf_icmp_ge (pc := 49) (tgt := 72) (ti_rfl l2) (ti_rfl v3) (by decide) dX4_prepare_49 (fun q5 => ?_) (fun q5 => ?_)
        ·
          have k6 := if_t k4 q5
          refine go_aload_n (pc := 72) rfl dX4_prepare_72 ?_
          refine gi_getF (pc := 73) (q := 51) hvx fL_X4_19 rfl (Nat.le_of_ble_eq_true rfl) rfl (hvx.rf (by decide)) dX4_prepare_73 ?_
          refine go_iconst (pc := 76) (v := 0) (by decide) dX4_prepare_76 ?_
          refine go_invS (pc := 77) (sl := 0) (s_J7_fill_53178_at512_f l (d + 4) hvx 0) mL_X4_74 iM_J7_fill_53178 rfl rfl (Nat.le_of_ble_eq_true rfl) (show d + 4 + 1 + 1 ≤ d + 6 by omega) (show 8 + (4 + 11) + 40 * (d + 4 + 1) ≤ 40 * (d + 6) by omega) (g_c0 hvx.ln) (Nat.le_of_ble_eq_true rfl) dX4_prepare_77 ?_
          intro r h7 hq _
          obtain ⟨rfl, hv7, f8, f9⟩ := hq
          try rw [show (0 : Int32).toInt = 0 from (ti_c (v := 0) (a := 0) (by decide))] at f8
          try rw [show (0 : Int32).toInt = 0 from (ti_c (v := 0) (a := 0) (by decide))] at f9
          have fx7 : FX KAc h h7 := FX.tr fxx f9
          have k10 := bd_e k6 f8.symm
          refine go_iconst (pc := 80) (v := 1) (by decide) dX4_prepare_80 ?_
          refine go_istore_n (pc := 81) (Nat.le_of_ble_eq_true rfl) dX4_prepare_81 (go_lv (lv2 := [(0, .ref 49), (2, .int 1)]) rfl ?_)
          refine go_iconst (pc := 82) (v := 0) (by decide) dX4_prepare_82 ?_
          refine go_istore_n (pc := 83) (Nat.le_of_ble_eq_true rfl) dX4_prepare_83 (go_lv (lv2 := [(0, .ref 49), (2, .int 1), (3, .int 0)]) rfl ?_)
          have z11 : (1 : Int32).toInt = 1 := (ti_c (v := 1) (a := 1) (by decide))
          have z12 : (0 : Int32).toInt = 0 := (ti_c (v := 0) (a := 0) (by decide))
          exact go_lv rfl (ih.2 1 0 h7 hv7 (by omega) (by omega) (by omega) (by omega) fx7 (by rw [show (1 : Int32).toInt = 1 from (ti_c (v := 1) (a := 1) (by decide)), show (0 : Int32).toInt = 0 from (ti_c (v := 0) (a := 0) (by decide))]; exact k10) (by omega))
        ·
          have k13 := if_f k4 (Int.not_le.mpr q5)
          refine go_aload_n (pc := 52) rfl dX4_prepare_52 ?_
          refine gi_getF (pc := 53) (q := 50) hvx fL_X4_15 rfl (Nat.le_of_ble_eq_true rfl) rfl (hvx.rf (by decide)) dX4_prepare_53 ?_
          refine go_iload_n (pc := 56) rfl dX4_prepare_56 ?_
          refine go_aload_n (pc := 57) rfl dX4_prepare_57 ?_
          refine gi_getC (pc := 58) hvx fL_X4_58 rfl (Nat.le_of_ble_eq_true rfl) rfl (by decide) dX4_prepare_58 (fun c14 hc14 fc14 => ?_)
          have k15 := bd_e k13 (st_c fc14)
          refine go_iload_n (pc := 61) rfl dX4_prepare_61 ?_
          refine go_invV (pc := 62) (sl := 0) (s_X0_callsOf2_f l (d + 3) hvx c14 hc14 l2) mL_X4_70 iM_X0_callsOf sM_X0_callsOf (hvx.sh (by rcases hc14 with rfl | rfl <;> rfl)) rfl rfl rfl (Nat.le_of_ble_eq_true rfl) (show d + 3 + 2 + 1 ≤ d + 6 by omega) (show 8 + (5 + 11) + 40 * (d + 3 + 2) ≤ 40 * (d + 6) by omega) (g_c0 hvx.ln) (Nat.le_of_ble_eq_true rfl) dX4_prepare_62 ?_
          intro r h16 hq _
          obtain ⟨v18, rfl, rfl, f17⟩ := hq
          have k19 := bd_e k15 f17.symm
          refine gi_last (pc := 65) (len := 5) hvx (ti_rfl l2) rfl (by omega) (by omega) dX4_prepare_65 (fun h20 hv20 hv20e => ?_)
          have fx20 : FX KAc h h20 := FX.pL fxx hv20e (by unfold KAc; omega)
          have k21 := bd_e k19 (st_L hv20e)
          refine gf_iinc (pc := 66) (Nat.le_of_ble_eq_true rfl) rfl (ti_rfl l2) (ti_c (by decide)) (by omega) (by omega) dX4_prepare_66 (fun v22 e23 => ?_)
          refine go_lv (lv2 := [(0, .ref 49), (2, .int v22)]) rfl ?_
          refine go_goto (pc := 69) (tgt := 41) (by decide) dX4_prepare_69 ?_
          have z24 : (v22 : Int32).toInt = (l2.toInt + 1) := e23
          exact go_lv rfl (ih.1 v22 h20 hv20 (by omega) (by omega) fx20 (by rw [show (v22 : Int32).toInt = (l2.toInt + 1) from e23]; exact k21) (by omega))
      ·
        intro l2 l3 hx hvx l2l l2u l3l l3u fxx kL hm
        rw [f_X4_prepare2_] at kL
        replace kL := if_f kL (by decide)
        refine go_iload_n (pc := 84) rfl dX4_prepare_84 ?_
        refine go_sipush (pc := 85) (v := 180) (by decide) dX4_prepare_85 ?_
        refine gf_icmp_gt (pc := 88) (tgt := 106) (ti_rfl l3) (ti_c (v := 180) (a := 180) (by decide)) (by decide) dX4_prepare_88 (fun q25 => ?_) (fun q25 => ?_)
        ·
          have k26 := if_t kL q25
          exact gi_vret (pc := 106) ⟨rfl, hvx, (k26.symm.trans kf), fxx⟩ hvx dX4_prepare_106
        ·
          have k27 := if_f kL (Int.not_lt.mpr q25)
          refine go_iload_n (pc := 91) rfl dX4_prepare_91 ?_
          refine gf_if_eq (pc := 92) (tgt := 106) (ti_rfl l2) (by decide) dX4_prepare_92 (fun q28 => ?_) (fun q28 => ?_)
          ·
            have k29 := if_t k27 q28
            exact gi_vret (pc := 106) ⟨rfl, hvx, (k29.symm.trans kf), fxx⟩ hvx dX4_prepare_106
          ·
            have k30 := if_f k27 q28
            refine go_aload_n (pc := 95) rfl dX4_prepare_95 ?_
            refine go_invV (pc := 96) (sl := 0) (s_X4_growThrough2_f l (d + 0) hvx ) mL_X4_80 iM_X4_growThrough sM_X4_growThrough (hvx.sh rfl) rfl rfl rfl (Nat.le_of_ble_eq_true rfl) (show d + 0 + 5 + 1 ≤ d + 6 by omega) (show 8 + (5 + 11) + 40 * (d + 0 + 5) ≤ 40 * (d + 6) by omega) (g_c0 hvx.ln) (Nat.le_of_ble_eq_true rfl) dX4_prepare_96 ?_
            intro r h31 hq _
            obtain ⟨v34, rfl, v34l, v34u, hv31, f32, f33⟩ := hq
            have fx31 : FX KAc h h31 := FX.tr fxx f33
            have k35 := bd2_e k30 f32
            refine go_istore_n (pc := 99) (Nat.le_of_ble_eq_true rfl) dX4_prepare_99 (go_lv (lv2 := [(0, .ref 49), (2, .int v34), (3, .int l3)]) rfl ?_)
            refine gf_iinc (pc := 100) (Nat.le_of_ble_eq_true rfl) rfl (ti_rfl l3) (ti_c (by decide)) (by omega) (by omega) dX4_prepare_100 (fun v36 e37 => ?_)
            refine go_lv (lv2 := [(0, .ref 49), (2, .int v34), (3, .int v36)]) rfl ?_
            refine go_goto (pc := 103) (tgt := 84) (by decide) dX4_prepare_103 ?_
            have z38 : (v36 : Int32).toInt = (l3.toInt + 1) := e37
            exact go_lv rfl (ih.2 v34 v36 h31 hv31 (by omega) (by omega) (by omega) (by omega) fx31 (by rw [show (v36 : Int32).toInt = (l3.toInt + 1) from e37]; exact k35) (by omega))
  refine go_aload_n (pc := 0) rfl dX4_prepare_0 ?_
  refine gi_get (pc := 1) (lo := 0) (hi := 1) hv fL_X4_9 rfl (Nat.le_of_ble_eq_true rfl) rfl rfl dX4_prepare_1 (fun v39 v39l v39u v39w => ?_)
  have k40 := bd_e k0 (congrArg Int32.toInt v39w.symm)
  refine gf_if_eq (pc := 4) (tgt := 8) (ti_rfl v39) (by decide) dX4_prepare_4 (fun q41 => ?_) (fun q41 => ?_)
  ·
    have k42 := if_t k40 q41
    refine go_aload_n (pc := 8) rfl dX4_prepare_8 ?_
    refine go_iconst (pc := 9) (v := 1) (by decide) dX4_prepare_9 ?_
    refine gi_put (pc := 10) (lo := 0) (hi := 1) hv (ti_c (v := 1) (a := 1) (by decide)) (fP_X4_9 _) rfl (Nat.le_of_ble_eq_true rfl) rfl rfl (by omega) (by omega) (ti_nb (by rw [show (1 : Int32).toInt = 1 from (ti_c (v := 1) (a := 1) (by decide))]; omega) (by rw [show (1 : Int32).toInt = 1 from (ti_c (v := 1) (a := 1) (by decide))]; omega)) (ti_fb (by rw [show (1 : Int32).toInt = 1 from (ti_c (v := 1) (a := 1) (by decide))]; omega) (by rw [show (1 : Int32).toInt = 1 from (ti_c (v := 1) (a := 1) (by decide))]; omega)) (by decide) (by decide) (by decide) (by decide) dX4_prepare_10 (fun h43 hv43 hv43e => ?_)
    have fx43 : FX KAc h h43 := FX.pI fx hv43e (by unfold KAc; omega)
    have k44 := bd_e k42 (st_I hv43e (ti_c (v := 1) (a := 1) (by decide)))
    refine go_aload_n (pc := 13) rfl dX4_prepare_13 ?_
    refine go_aload_n (pc := 14) rfl dX4_prepare_14 ?_
    refine gi_putC (pc := 15) hv43 hc2 (fP_X4_58 _) rfl (Nat.le_of_ble_eq_true rfl) rfl (fun _ => rfl) (fun _ => rfl) (by decide) (by decide) (by decide) (by decide) dX4_prepare_15 (fun h45 hv45 hv45e => ?_)
    have fx45 : FX KAc h h45 := FX.pR fx43 hv45e (by unfold KAc; omega)
    have k46 := bd_e k44 (st_R hv45e)
    refine go_aload_n (pc := 18) rfl dX4_prepare_18 ?_
    refine gi_getF (pc := 19) (q := 57) hv45 fL_X4_54 rfl (Nat.le_of_ble_eq_true rfl) rfl (hv45.rf (by decide)) dX4_prepare_19 ?_
    refine go_aload_n (pc := 22) rfl dX4_prepare_22 ?_
    refine gi_getC (pc := 23) hv45 fL_X4_58 rfl (Nat.le_of_ble_eq_true rfl) rfl (by decide) dX4_prepare_23 (fun c47 hc47 fc47 => ?_)
    have k48 := bd_e k46 (st_c fc47)
    refine go_invV (pc := 26) (sl := 0) (s_X1_build2_f l (d + 0) hv45 c47 hc47) mL_X4_62 iM_X1_build sM_X1_build (hv45.sh rfl) rfl rfl rfl (Nat.le_of_ble_eq_true rfl) (show d + 0 + 5 + 1 ≤ d + 6 by omega) (show 8 + (3 + 11) + 40 * (d + 0 + 5) ≤ 40 * (d + 6) by omega) (g_c0 hv45.ln) (Nat.le_of_ble_eq_true rfl) dX4_prepare_26 ?_
    intro r h49 hq _
    obtain ⟨rfl, hv49, f50, f51⟩ := hq
    have fx49 : FX KAc h h49 := FX.tr fx45 f51
    have k52 := bd_e k48 f50.symm
    refine go_aload_n (pc := 29) rfl dX4_prepare_29 ?_
    refine go_lconst (pc := 30) (v := 0) (by decide) dX4_prepare_30 ?_
    refine gi_putL (pc := 31) hv49 (fP_X4_39 _) rfl (Nat.le_of_ble_eq_true rfl) rfl rfl rfl dX4_prepare_31 (fun h53 hv53 hv53e => ?_)
    have fx53 : FX KAc h h53 := FX.pL fx49 hv53e (by unfold KAc; omega)
    have k54 := bd_e k52 (st_L hv53e)
    refine go_aload_n (pc := 34) rfl dX4_prepare_34 ?_
    refine go_lconst (pc := 35) (v := 0) (by decide) dX4_prepare_35 ?_
    refine gi_putL (pc := 36) hv53 (fP_X4_46 _) rfl (Nat.le_of_ble_eq_true rfl) rfl rfl rfl dX4_prepare_36 (fun h55 hv55 hv55e => ?_)
    have fx55 : FX KAc h h55 := FX.pL fx53 hv55e (by unfold KAc; omega)
    have k56 := bd_e k54 (st_L hv55e)
    refine go_iconst (pc := 39) (v := 0) (by decide) dX4_prepare_39 ?_
    refine go_istore_n (pc := 40) (Nat.le_of_ble_eq_true rfl) dX4_prepare_40 (go_lv (lv2 := [(0, .ref 49), (1, .ref c2), (2, .int 0)]) rfl ?_)
    have z57 : (0 : Int32).toInt = 0 := (ti_c (v := 0) (a := 0) (by decide))
    exact go_lv rfl ((key 760).1 0 h55 hv55 (by omega) (by omega) fx55 (by rw [show (0 : Int32).toInt = 0 from (ti_c (v := 0) (a := 0) (by decide))]; exact k56) (by omega))
  ·
    have k58 := if_f k40 q41
    exact gi_vret (pc := 7) ⟨rfl, hv, (k58.symm.trans kf), fx⟩ hv dX4_prepare_7
def f_X4_leadsThrough2 (s : ST) (a2 : Int) (a3 : Int) (a4 : Int) : Int :=
  bd (s.1 51 (((a2 * 6) + a4)).toNat) fun v5 => bd (o_i2l v5) fun v7 => bd (f_X7_has s v7 a3) fun v11 => v11
set_option maxHeartbeats 4000000 in
set_option maxRecDepth 100000 in
theorem s_X4_leadsThrough2_f (l : Launch) (d : Nat) {P : PP} {h : HP} (hv : Iv P h) (a2 : Int32) (a2l : 0 ≤ a2.toInt) (a2u : a2.toInt ≤ 4) (a3 : Int32) (a4 : Int32) (a4l : 0 ≤ a4.toInt) (a4u : a4.toInt ≤ 5) : Mt l yX4_leadsThrough cX4_leadsThrough 4 (some .boolean) (d + 2) [.ref 49, .int a2, .int a3, .int a4] h 0 0 (fun r h' => ∃ v : Int32, r = some (.int v) ∧ 0 ≤ v.toInt ∧ v.toInt ≤ 1 ∧ h = h' ∧ (v.toInt = f_X4_leadsThrough2 (st h) a2.toInt a3.toInt a4.toInt)) := by
  refine Mt_iv hv (by decide) (Nat.le_of_ble_eq_true rfl) ?_
  show Go l RX4 cX4_leadsThrough 4 (g_rm (d + 2) 0 0) "leadsThrough" (some .boolean) 117 0 0 (fun _ _ => True) (fun r h' => ∃ v : Int32, r = some (.int v) ∧ 0 ≤ v.toInt ∧ v.toInt ≤ 1 ∧ h = h' ∧ (v.toInt = f_X4_leadsThrough2 (st h) a2.toInt a3.toInt a4.toInt)) 0 0 [(0, .ref 49), (1, .int a2), (2, .int a3), (3, .int a4)] [] h
  obtain ⟨fin, kf⟩ : ∃ z, z = f_X4_leadsThrough2 (st h) a2.toInt a3.toInt a4.toInt := ⟨_, _root_.rfl⟩
  have k0 := kf
  unfold f_X4_leadsThrough2 at k0
  refine go_aload_n (pc := 0) rfl dX4_leadsThrough_0 ?_
  refine gi_getF (pc := 1) (q := 51) hv fL_X4_19 rfl (Nat.le_of_ble_eq_true rfl) rfl (hv.rf (by decide)) dX4_leadsThrough_1 ?_
  refine go_iload_n (pc := 4) rfl dX4_leadsThrough_4 ?_
  refine go_bipush (pc := 5) (v := 6) (by decide) dX4_leadsThrough_5 ?_
  refine gf_imul (pc := 7) (ti_rfl a2) (ti_c (v := 6) (a := 6) (by decide)) (by omega) (by omega) dX4_leadsThrough_7 (fun v1 e2 => ?_)
  refine go_iload_n (pc := 8) rfl dX4_leadsThrough_8 ?_
  refine gf_iadd (pc := 9) e2 (ti_rfl a4) (by omega) (by omega) dX4_leadsThrough_9 (fun v3 e4 => ?_)
  refine gi_iald (pc := 10) (lo := -2147483648) (hi := 2147483647) (len := 30) hv e4 rfl (by omega) (by omega) (fun _ => rfl) dX4_leadsThrough_10 (fun v5 v5l v5u v5w => ?_)
  have k6 := bd_e k0 (congrArg Int32.toInt v5w.symm)
  refine gx_i2l (pc := 11) dX4_leadsThrough_11 (fun v7 v7x => ?_)
  have k8 := bd_e k6 (so_i2l (ti_rfl v5) v7x)
  refine go_iload_n (pc := 12) rfl dX4_leadsThrough_12 ?_
  refine go_invS (pc := 13) (sl := 0) (s_X7_has_f l (d + 0) hv v7 a3) mL_X4_102 iM_X7_has rfl rfl (Nat.le_of_ble_eq_true rfl) (show d + 0 + 1 + 1 ≤ d + 2 by omega) (show 8 + (3 + 11) + 40 * (d + 0 + 1) ≤ 40 * (d + 2) by omega) (g_c0 hv.ln) (Nat.le_of_ble_eq_true rfl) dX4_leadsThrough_13 ?_
  intro r h9 hq _
  obtain ⟨v11, rfl, v11l, v11u, rfl, f10⟩ := hq
  replace f10 : PE _ _ := f10
  have k12 := bd_e k8 f10.symm
  exact gi_zret (pc := 16) (ti_rfl v11) (by omega) (by omega) ⟨_, rfl, (by rw [show (v11 : Int32).toInt = v11.toInt from (ti_rfl v11)]; omega), (by rw [show (v11 : Int32).toInt = v11.toInt from (ti_rfl v11)]; omega), rfl, (k12.symm.trans kf)⟩ hv dX4_leadsThrough_16
def f_X4_findOn2_ : Nat → Nat → Int → ST → ST
  | 0, _, _, sx => sx
  | n + 1, _, l1, sx => if 13 ≤ l1 then (bd (f_X4_spread2 sx 53 2) fun s3 => s3) else (bd (sx.2.1 52 (l1).toNat) fun v8 => bd (f_X4_add2 sx 53 l1 v8) fun s10 => f_X4_findOn2_ n 11 ((l1 + 1)) s10)
def f_X4_findOn2 (s : ST) : ST :=
  bd (f_X4_spread2 s 52 1) fun s17 => f_X4_findOn2_ 58 11 0 s17
set_option maxHeartbeats 4000000 in
set_option maxRecDepth 100000 in
theorem s_X4_findOn2_f (l : Launch) (d : Nat) {P : PP} {h : HP} (hv : Iv P h)  : Mt l yX4_findOn cX4_findOn 2 none (d + 4) [.ref 49] h 0 0 (fun r h' => r = none ∧ Iv P h' ∧ (st h' = f_X4_findOn2 (st h)) ∧ (FX KQ h h')) := by
  refine Mt_iv hv (by decide) (Nat.le_of_ble_eq_true rfl) ?_
  show Go l RX4 cX4_findOn 2 (g_rm (d + 4) 0 0) "findOn" none 117 0 0 (fun _ _ => True) (fun r h' => r = none ∧ Iv P h' ∧ (st h' = f_X4_findOn2 (st h)) ∧ (FX KQ h h')) 0 0 [(0, .ref 49)] [] h
  have fx : FX KQ h h := FX.rfl
  obtain ⟨fin, kf⟩ : ∃ z, z = f_X4_findOn2 (st h) := ⟨_, _root_.rfl⟩
  have k0 := kf
  unfold f_X4_findOn2 at k0
  have key : ∀ n : Nat, (∀ (l1 : Int32) (hx : HP), Iv P hx → 0 ≤ l1.toInt → l1.toInt ≤ 13 → FX KQ h hx → fin = f_X4_findOn2_ n 11 l1.toInt (st hx) → (3 * (13 - l1.toInt) + 2 : Int) < n → Go l RX4 cX4_findOn 2 (g_rm (d + 4) 0 0) "findOn" none 117 0 0 (fun _ _ => True) (fun r h' => r = none ∧ Iv P h' ∧ (st h' = f_X4_findOn2 (st h)) ∧ (FX KQ h h')) 0 11 [(0, .ref 49), (1, .int l1)] [] hx) := by
    intro n
    induction n with
    | zero => exact (by intros; omega)
    | succ n ih =>
      refine ?_
      ·
        intro l1 hx hvx l1l l1u fxx kL hm
        rw [f_X4_findOn2_] at kL
        refine go_iload_n (pc := 11) rfl dX4_findOn_11 ?_
        refine go_bipush (pc := 12) (v := 13) (by decide) dX4_findOn_12 ?_
        refine gf_icmp_ge (pc := 14) (tgt := 38) (ti_rfl l1) (ti_c (v := 13) (a := 13) (by decide)) (by decide) dX4_findOn_14 (fun q1 => ?_) (fun q1 => ?_)
        ·
          have k2 := if_t kL q1
          refine go_aload_n (pc := 38) rfl dX4_findOn_38 ?_
          refine go_aload_n (pc := 39) rfl dX4_findOn_39 ?_
          refine gi_getF (pc := 40) (q := 53) hvx fL_X4_26 rfl (Nat.le_of_ble_eq_true rfl) rfl (hvx.rf (by decide)) dX4_findOn_40 ?_
          refine go_iconst (pc := 43) (v := 2) (by decide) dX4_findOn_43 ?_
          refine go_invV (pc := 44) (sl := 0) (s_X4_spread2_f l (d + 0) hvx 53 (by decide) 2) mL_X4_98 iM_X4_spread sM_X4_spread (hvx.sh rfl) rfl rfl rfl (Nat.le_of_ble_eq_true rfl) (show d + 0 + 3 + 1 ≤ d + 4 by omega) (show 8 + (6 + 11) + 40 * (d + 0 + 3) ≤ 40 * (d + 4) by omega) (g_c0 hvx.ln) (Nat.le_of_ble_eq_true rfl) dX4_findOn_44 ?_
          intro r h3 hq _
          obtain ⟨rfl, hv3, f4, f5⟩ := hq
          try rw [show (2 : Int32).toInt = 2 from (ti_c (v := 2) (a := 2) (by decide))] at f4
          try rw [show (2 : Int32).toInt = 2 from (ti_c (v := 2) (a := 2) (by decide))] at f5
          have fx3 : FX KQ h h3 := FX.tr fxx f5
          have k6 := bd_e k2 f4.symm
          exact gi_vret (pc := 47) ⟨rfl, hv3, (k6.symm.trans kf), fx3⟩ hv3 dX4_findOn_47
        ·
          have k7 := if_f kL (Int.not_le.mpr q1)
          refine go_aload_n (pc := 17) rfl dX4_findOn_17 ?_
          refine go_aload_n (pc := 18) rfl dX4_findOn_18 ?_
          refine gi_getF (pc := 19) (q := 53) hvx fL_X4_26 rfl (Nat.le_of_ble_eq_true rfl) rfl (hvx.rf (by decide)) dX4_findOn_19 ?_
          refine go_iload_n (pc := 22) rfl dX4_findOn_22 ?_
          refine go_aload_n (pc := 23) rfl dX4_findOn_23 ?_
          refine gi_getF (pc := 24) (q := 52) hvx fL_X4_23 rfl (Nat.le_of_ble_eq_true rfl) rfl (hvx.rf (by decide)) dX4_findOn_24 ?_
          refine go_iload_n (pc := 27) rfl dX4_findOn_27 ?_
          refine gi_lald (pc := 28) (len := 13) hvx (ti_rfl l1) rfl (by omega) (by omega) dX4_findOn_28 (fun v8 v8w => ?_)
          have k9 := bd_e k7 v8w.symm
          refine go_invV (pc := 29) (sl := 0) (s_X4_add2_f l (d + 2) hvx 53 (by decide) l1 (by rw [show (l1 : Int32).toInt = l1.toInt from (ti_rfl l1)]; omega) (by rw [show (l1 : Int32).toInt = l1.toInt from (ti_rfl l1)]; omega) v8) mL_X4_94 iM_X4_add sM_X4_add (hvx.sh rfl) rfl rfl rfl (Nat.le_of_ble_eq_true rfl) (show d + 2 + 1 + 1 ≤ d + 4 by omega) (show 8 + (8 + 11) + 40 * (d + 2 + 1) ≤ 40 * (d + 4) by omega) (g_c0 hvx.ln) (Nat.le_of_ble_eq_true rfl) dX4_findOn_29 ?_
          intro r h10 hq _
          obtain ⟨rfl, hv10, f11, f12⟩ := hq
          have fx10 : FX KQ h h10 := FX.tr fxx f12
          have k13 := bd_e k9 f11.symm
          refine gf_iinc (pc := 32) (Nat.le_of_ble_eq_true rfl) rfl (ti_rfl l1) (ti_c (by decide)) (by omega) (by omega) dX4_findOn_32 (fun v14 e15 => ?_)
          refine go_lv (lv2 := [(0, .ref 49), (1, .int v14)]) rfl ?_
          refine go_goto (pc := 35) (tgt := 11) (by decide) dX4_findOn_35 ?_
          have z16 : (v14 : Int32).toInt = (l1.toInt + 1) := e15
          exact go_lv rfl (ih v14 h10 hv10 (by omega) (by omega) fx10 (by rw [show (v14 : Int32).toInt = (l1.toInt + 1) from e15]; exact k13) (by omega))
  refine go_aload_n (pc := 0) rfl dX4_findOn_0 ?_
  refine go_aload_n (pc := 1) rfl dX4_findOn_1 ?_
  refine gi_getF (pc := 2) (q := 52) hv fL_X4_23 rfl (Nat.le_of_ble_eq_true rfl) rfl (hv.rf (by decide)) dX4_findOn_2 ?_
  refine go_iconst (pc := 5) (v := 1) (by decide) dX4_findOn_5 ?_
  refine go_invV (pc := 6) (sl := 0) (s_X4_spread2_f l (d + 0) hv 52 (by decide) 1) mL_X4_98 iM_X4_spread sM_X4_spread (hv.sh rfl) rfl rfl rfl (Nat.le_of_ble_eq_true rfl) (show d + 0 + 3 + 1 ≤ d + 4 by omega) (show 8 + (6 + 11) + 40 * (d + 0 + 3) ≤ 40 * (d + 4) by omega) (g_c0 hv.ln) (Nat.le_of_ble_eq_true rfl) dX4_findOn_6 ?_
  intro r h17 hq _
  obtain ⟨rfl, hv17, f18, f19⟩ := hq
  try rw [show (1 : Int32).toInt = 1 from (ti_c (v := 1) (a := 1) (by decide))] at f18
  try rw [show (1 : Int32).toInt = 1 from (ti_c (v := 1) (a := 1) (by decide))] at f19
  have fx17 : FX KQ h h17 := FX.tr fx f19
  have k20 := bd_e k0 f18.symm
  refine go_iconst (pc := 9) (v := 0) (by decide) dX4_findOn_9 ?_
  refine go_istore_n (pc := 10) (Nat.le_of_ble_eq_true rfl) dX4_findOn_10 (go_lv (lv2 := [(0, .ref 49), (1, .int 0)]) rfl ?_)
  have z21 : (0 : Int32).toInt = 0 := (ti_c (v := 0) (a := 0) (by decide))
  exact go_lv rfl ((key 58) 0 h17 hv17 (by omega) (by omega) fx17 (by rw [show (0 : Int32).toInt = 0 from (ti_c (v := 0) (a := 0) (by decide))]; exact k20) (by omega))
def f_X4_beginFrom2_ : Nat → Nat → Int → Int → Int → ST → ST
  | 0, _, _, _, _, sx => sx
  | n + 1, _, l1, l2, l3, sx => if l2 ≤ l3 then (sx) else (bd (f_X7_bit sx l1) fun v6 => bd (f_X4_add2 sx 52 l3 v6) fun s8 => f_X4_beginFrom2_ n 26 l1 l2 ((l3 + 1)) s8)
def f_X4_beginFrom2 (s : ST) (a2 : Int) : ST :=
  bd (f_X4_clearFound2 s) fun s15 => bd (s15.2.2 49 1) fun c19 => bd (s15.1 (c19 + 2) (a2).toNat) fun v21 => if ¬ v21 = 1 then (f_X4_beginFrom2_ 58 26 a2 1 0 s15) else (f_X4_beginFrom2_ 58 26 a2 13 0 s15)
set_option maxHeartbeats 4000000 in
set_option maxRecDepth 100000 in
theorem s_X4_beginFrom2_f (l : Launch) (d : Nat) {P : PP} {h : HP} (hv : Iv P h) (a2 : Int32) (a2l : 0 ≤ a2.toInt) (a2u : a2.toInt ≤ 39) : Mt l yX4_beginFrom cX4_beginFrom 4 none (d + 3) [.ref 49, .int a2] h 0 0 (fun r h' => r = none ∧ Iv P h' ∧ (st h' = f_X4_beginFrom2 (st h) a2.toInt) ∧ (FX KQ h h')) := by
  refine Mt_iv hv (by decide) (Nat.le_of_ble_eq_true rfl) ?_
  show Go l RX4 cX4_beginFrom 4 (g_rm (d + 3) 0 0) "beginFrom" none 117 0 0 (fun _ _ => True) (fun r h' => r = none ∧ Iv P h' ∧ (st h' = f_X4_beginFrom2 (st h) a2.toInt) ∧ (FX KQ h h')) 0 0 [(0, .ref 49), (1, .int a2)] [] h
  have fx : FX KQ h h := FX.rfl
  obtain ⟨fin, kf⟩ : ∃ z, z = f_X4_beginFrom2 (st h) a2.toInt := ⟨_, _root_.rfl⟩
  have k0 := kf
  unfold f_X4_beginFrom2 at k0
  have key : ∀ n : Nat, (∀ (l1 : Int32) (l2 : Int32) (l3 : Int32) (hx : HP), Iv P hx → 0 ≤ l1.toInt → l1.toInt ≤ 39 → 1 ≤ l2.toInt → l2.toInt ≤ 13 → 0 ≤ l3.toInt → l3.toInt ≤ 13 → FX KQ h hx → fin = f_X4_beginFrom2_ n 26 l1.toInt l2.toInt l3.toInt (st hx) → (3 * (13 - l3.toInt) + 2 : Int) < n → Go l RX4 cX4_beginFrom 4 (g_rm (d + 3) 0 0) "beginFrom" none 117 0 0 (fun _ _ => True) (fun r h' => r = none ∧ Iv P h' ∧ (st h' = f_X4_beginFrom2 (st h) a2.toInt) ∧ (FX KQ h h')) 0 26 [(0, .ref 49), (1, .int l1), (2, .int l2), (3, .int l3)] [] hx) := by
    intro n
    induction n with
    | zero => exact (by intros; omega)
    | succ n ih =>
      refine ?_
      ·
        intro l1 l2 l3 hx hvx l1l l1u l2l l2u l3l l3u fxx kL hm
        rw [f_X4_beginFrom2_] at kL
        refine go_iload_n (pc := 26) rfl dX4_beginFrom_26 ?_
        refine go_iload_n (pc := 27) rfl dX4_beginFrom_27 ?_
        refine gf_icmp_ge (pc := 28) (tgt := 50) (ti_rfl l3) (ti_rfl l2) (by decide) dX4_beginFrom_28 (fun q1 => ?_) (fun q1 => ?_)
        ·
          have k2 := if_t kL q1
          exact gi_vret (pc := 50) ⟨rfl, hvx, (k2.symm.trans kf), fxx⟩ hvx dX4_beginFrom_50
        ·
          have k3 := if_f kL (Int.not_le.mpr q1)
          refine go_aload_n (pc := 31) rfl dX4_beginFrom_31 ?_
          refine go_aload_n (pc := 32) rfl dX4_beginFrom_32 ?_
          refine gi_getF (pc := 33) (q := 52) hvx fL_X4_23 rfl (Nat.le_of_ble_eq_true rfl) rfl (hvx.rf (by decide)) dX4_beginFrom_33 ?_
          refine go_iload_n (pc := 36) rfl dX4_beginFrom_36 ?_
          refine go_iload_n (pc := 37) rfl dX4_beginFrom_37 ?_
          refine go_invS (pc := 38) (sl := 0) (s_X7_bit_f l (d + 1) hvx l1) mL_X4_91 iM_X7_bit rfl rfl (Nat.le_of_ble_eq_true rfl) (show d + 1 + 1 + 1 ≤ d + 3 by omega) (show 8 + (1 + 11) + 40 * (d + 1 + 1) ≤ 40 * (d + 3) by omega) (g_c0 hvx.ln) (Nat.le_of_ble_eq_true rfl) dX4_beginFrom_38 ?_
          intro r h4 hq _
          obtain ⟨v6, rfl, rfl, f5⟩ := hq
          have k7 := bd_e k3 f5.symm
          refine go_invV (pc := 41) (sl := 0) (s_X4_add2_f l (d + 1) hvx 52 (by decide) l3 (by rw [show (l3 : Int32).toInt = l3.toInt from (ti_rfl l3)]; omega) (by rw [show (l3 : Int32).toInt = l3.toInt from (ti_rfl l3)]; omega) v6) mL_X4_94 iM_X4_add sM_X4_add (hvx.sh rfl) rfl rfl rfl (Nat.le_of_ble_eq_true rfl) (show d + 1 + 1 + 1 ≤ d + 3 by omega) (show 8 + (8 + 11) + 40 * (d + 1 + 1) ≤ 40 * (d + 3) by omega) (g_c0 hvx.ln) (Nat.le_of_ble_eq_true rfl) dX4_beginFrom_41 ?_
          intro r h8 hq _
          obtain ⟨rfl, hv8, f9, f10⟩ := hq
          have fx8 : FX KQ h h8 := FX.tr fxx f10
          have k11 := bd_e k7 f9.symm
          refine gf_iinc (pc := 44) (Nat.le_of_ble_eq_true rfl) rfl (ti_rfl l3) (ti_c (by decide)) (by omega) (by omega) dX4_beginFrom_44 (fun v12 e13 => ?_)
          refine go_lv (lv2 := [(0, .ref 49), (1, .int l1), (2, .int l2), (3, .int v12)]) rfl ?_
          refine go_goto (pc := 47) (tgt := 26) (by decide) dX4_beginFrom_47 ?_
          have z14 : (v12 : Int32).toInt = (l3.toInt + 1) := e13
          exact go_lv rfl (ih l1 l2 v12 h8 hv8 (by omega) (by omega) (by omega) (by omega) (by omega) (by omega) fx8 (by rw [show (v12 : Int32).toInt = (l3.toInt + 1) from e13]; exact k11) (by omega))
  refine go_aload_n (pc := 0) rfl dX4_beginFrom_0 ?_
  refine go_invV (pc := 1) (sl := 0) (s_X4_clearFound2_f l (d + 0) hv ) mL_X4_88 iM_X4_clearFound sM_X4_clearFound (hv.sh rfl) rfl rfl rfl (Nat.le_of_ble_eq_true rfl) (show d + 0 + 2 + 1 ≤ d + 3 by omega) (show 8 + (1 + 11) + 40 * (d + 0 + 2) ≤ 40 * (d + 3) by omega) (g_c0 hv.ln) (Nat.le_of_ble_eq_true rfl) dX4_beginFrom_1 ?_
  intro r h15 hq _
  obtain ⟨rfl, hv15, f16, f17⟩ := hq
  have fx15 : FX KQ h h15 := FX.tr fx f17
  have k18 := bd_e k0 f16.symm
  refine go_aload_n (pc := 4) rfl dX4_beginFrom_4 ?_
  refine gi_getC (pc := 5) hv15 fL_X4_58 rfl (Nat.le_of_ble_eq_true rfl) rfl (by decide) dX4_beginFrom_5 (fun c19 hc19 fc19 => ?_)
  have k20 := bd_e k18 (st_c fc19)
  refine gi_getF (pc := 8) (q := c19 + 2) hv15 fL_X4_124 (by rcases hc19 with rfl | rfl <;> rfl) (Nat.le_of_ble_eq_true rfl) rfl (by rcases hc19 with rfl | rfl <;> exact hv15.rf (by decide)) dX4_beginFrom_8 ?_
  refine go_iload_n (pc := 11) rfl dX4_beginFrom_11 ?_
  refine gi_iald (pc := 12) (lo := 0) (hi := 5) (len := 40) hv15 (ti_rfl a2) (by rcases hc19 with rfl | rfl <;> rfl) (by omega) (by omega) (fun _ => by rcases hc19 with rfl | rfl <;> rfl) dX4_beginFrom_12 (fun v21 v21l v21u v21w => ?_)
  have k22 := bd_e k20 (congrArg Int32.toInt v21w.symm)
  refine go_iconst (pc := 13) (v := 1) (by decide) dX4_beginFrom_13 ?_
  refine gf_icmp_ne (pc := 14) (tgt := 22) (ti_rfl v21) (ti_c (v := 1) (a := 1) (by decide)) (by decide) dX4_beginFrom_14 (fun q23 => ?_) (fun q23 => ?_)
  ·
    have k24 := if_t k22 q23
    refine go_iconst (pc := 22) (v := 1) (by decide) dX4_beginFrom_22 ?_
    refine go_istore_n (pc := 23) (Nat.le_of_ble_eq_true rfl) dX4_beginFrom_23 (go_lv (lv2 := [(0, .ref 49), (1, .int a2), (2, .int 1)]) rfl ?_)
    refine go_iconst (pc := 24) (v := 0) (by decide) dX4_beginFrom_24 ?_
    refine go_istore_n (pc := 25) (Nat.le_of_ble_eq_true rfl) dX4_beginFrom_25 (go_lv (lv2 := [(0, .ref 49), (1, .int a2), (2, .int 1), (3, .int 0)]) rfl ?_)
    have z25 : (1 : Int32).toInt = 1 := (ti_c (v := 1) (a := 1) (by decide))
    have z26 : (0 : Int32).toInt = 0 := (ti_c (v := 0) (a := 0) (by decide))
    exact go_lv rfl ((key 58) a2 1 0 h15 hv15 (by omega) (by omega) (by omega) (by omega) (by omega) (by omega) fx15 (by rw [show (1 : Int32).toInt = 1 from (ti_c (v := 1) (a := 1) (by decide)), show (0 : Int32).toInt = 0 from (ti_c (v := 0) (a := 0) (by decide))]; exact k24) (by omega))
  ·
    have k27 := if_f k22 (fun z => z q23)
    refine go_bipush (pc := 17) (v := 13) (by decide) dX4_beginFrom_17 ?_
    refine go_goto (pc := 19) (tgt := 23) (by decide) dX4_beginFrom_19 ?_
    refine go_istore_n (pc := 23) (Nat.le_of_ble_eq_true rfl) dX4_beginFrom_23 (go_lv (lv2 := [(0, .ref 49), (1, .int a2), (2, .int 13)]) rfl ?_)
    refine go_iconst (pc := 24) (v := 0) (by decide) dX4_beginFrom_24 ?_
    refine go_istore_n (pc := 25) (Nat.le_of_ble_eq_true rfl) dX4_beginFrom_25 (go_lv (lv2 := [(0, .ref 49), (1, .int a2), (2, .int 13), (3, .int 0)]) rfl ?_)
    have z28 : (13 : Int32).toInt = 13 := (ti_c (v := 13) (a := 13) (by decide))
    have z29 : (0 : Int32).toInt = 0 := (ti_c (v := 0) (a := 0) (by decide))
    exact go_lv rfl ((key 58) a2 13 0 h15 hv15 (by omega) (by omega) (by omega) (by omega) (by omega) (by omega) fx15 (by rw [show (13 : Int32).toInt = 13 from (ti_c (v := 13) (a := 13) (by decide)), show (0 : Int32).toInt = 0 from (ti_c (v := 0) (a := 0) (by decide))]; exact k27) (by omega))
def f_X4_statementsFound2_ : Nat → Nat → Int64 → Int → ST → Int64
  | 0, _, _, _, _ => 0
  | n + 1, _, l1, l3, s => if 13 ≤ l3 then (bd (o_land l1 (1099511627775 : Int64)) fun v3 => v3) else (bd (s.2.1 53 (l3).toNat) fun v6 => bd (o_lor l1 v6) fun v8 => f_X4_statementsFound2_ n 4 v8 ((l3 + 1)) s)
def f_X4_statementsFound2 (s : ST) : Int64 :=
  f_X4_statementsFound2_ 58 4 (0 : Int64) 0 s
set_option maxHeartbeats 4000000 in
set_option maxRecDepth 100000 in
theorem s_X4_statementsFound2_f (l : Launch) (d : Nat) {P : PP} {h : HP} (hv : Iv P h)  : Mt l yX4_statementsFound cX4_statementsFound 4 (some .long) (d + 1) [.ref 49] h 0 0 (fun r h' => ∃ v : Int64, r = some (.long v) ∧ h = h' ∧ (v = f_X4_statementsFound2 (st h))) := by
  refine Mt_iv hv (by decide) (Nat.le_of_ble_eq_true rfl) ?_
  show Go l RX4 cX4_statementsFound 4 (g_rm (d + 1) 0 0) "statementsFound" (some .long) 117 0 0 (fun _ _ => True) (fun r h' => ∃ v : Int64, r = some (.long v) ∧ h = h' ∧ (v = f_X4_statementsFound2 (st h))) 0 0 [(0, .ref 49)] [] h
  obtain ⟨fin, kf⟩ : ∃ z, z = f_X4_statementsFound2 (st h) := ⟨_, _root_.rfl⟩
  have k0 := kf
  unfold f_X4_statementsFound2 at k0
  have key : ∀ n : Nat, (∀ (l1 : Int64) (l3 : Int32), 0 ≤ l3.toInt → l3.toInt ≤ 13 → fin = f_X4_statementsFound2_ n 4 l1 l3.toInt (st h) → (3 * (13 - l3.toInt) + 2 : Int) < n → Go l RX4 cX4_statementsFound 4 (g_rm (d + 1) 0 0) "statementsFound" (some .long) 117 0 0 (fun _ _ => True) (fun r h' => ∃ v : Int64, r = some (.long v) ∧ h = h' ∧ (v = f_X4_statementsFound2 (st h))) 0 4 [(0, .ref 49), (1, .long l1), (3, .int l3)] [] h) := by
    intro n
    induction n with
    | zero => exact (by intros; omega)
    | succ n ih =>
      refine ?_
      ·
        intro l1 l3 l3l l3u kL hm
        rw [f_X4_statementsFound2_] at kL
        refine go_iload_n (pc := 4) rfl dX4_statementsFound_4 ?_
        refine go_bipush (pc := 5) (v := 13) (by decide) dX4_statementsFound_5 ?_
        refine gf_icmp_ge (pc := 7) (tgt := 25) (ti_rfl l3) (ti_c (v := 13) (a := 13) (by decide)) (by decide) dX4_statementsFound_7 (fun q1 => ?_) (fun q1 => ?_)
        ·
          have k2 := if_t kL q1
          refine go_lload_n (pc := 25) rfl dX4_statementsFound_25 ?_
          refine go_ldc2 (pc := 26) kL_X4_127 dX4_statementsFound_26 ?_
          refine gx_land (pc := 29) dX4_statementsFound_29 (fun v3 v3x => ?_)
          have k4 := bd_e k2 (so_land v3x)
          exact gi_lret (pc := 30) ⟨_, rfl, rfl, (k4.symm.trans kf)⟩ hv dX4_statementsFound_30
        ·
          have k5 := if_f kL (Int.not_le.mpr q1)
          refine go_lload_n (pc := 10) rfl dX4_statementsFound_10 ?_
          refine go_aload_n (pc := 11) rfl dX4_statementsFound_11 ?_
          refine gi_getF (pc := 12) (q := 53) hv fL_X4_26 rfl (Nat.le_of_ble_eq_true rfl) rfl (hv.rf (by decide)) dX4_statementsFound_12 ?_
          refine go_iload_n (pc := 15) rfl dX4_statementsFound_15 ?_
          refine gi_lald (pc := 16) (len := 13) hv (ti_rfl l3) rfl (by omega) (by omega) dX4_statementsFound_16 (fun v6 v6w => ?_)
          have k7 := bd_e k5 v6w.symm
          refine gx_lor (pc := 17) dX4_statementsFound_17 (fun v8 v8x => ?_)
          have k9 := bd_e k7 (so_lor v8x)
          refine go_lstore_n (pc := 18) (Nat.le_of_ble_eq_true rfl) dX4_statementsFound_18 (go_lv (lv2 := [(0, .ref 49), (1, .long v8), (3, .int l3)]) rfl ?_)
          refine gf_iinc (pc := 19) (Nat.le_of_ble_eq_true rfl) rfl (ti_rfl l3) (ti_c (by decide)) (by omega) (by omega) dX4_statementsFound_19 (fun v10 e11 => ?_)
          refine go_lv (lv2 := [(0, .ref 49), (1, .long v8), (3, .int v10)]) rfl ?_
          refine go_goto (pc := 22) (tgt := 4) (by decide) dX4_statementsFound_22 ?_
          have z12 : (v10 : Int32).toInt = (l3.toInt + 1) := e11
          exact go_lv rfl (ih v8 v10  (by omega) (by omega) (by rw [show (v10 : Int32).toInt = (l3.toInt + 1) from e11]; exact k9) (by omega))
  refine go_lconst (pc := 0) (v := 0) (by decide) dX4_statementsFound_0 ?_
  refine go_lstore_n (pc := 1) (Nat.le_of_ble_eq_true rfl) dX4_statementsFound_1 (go_lv (lv2 := [(0, .ref 49), (1, .long 0)]) rfl ?_)
  refine go_iconst (pc := 2) (v := 0) (by decide) dX4_statementsFound_2 ?_
  refine go_istore_n (pc := 3) (Nat.le_of_ble_eq_true rfl) dX4_statementsFound_3 (go_lv (lv2 := [(0, .ref 49), (1, .long 0), (3, .int 0)]) rfl ?_)
  have z13 : (0 : Int32).toInt = 0 := (ti_c (v := 0) (a := 0) (by decide))
  exact go_lv rfl ((key 58) 0 0  (by omega) (by omega) (by rw [show (0 : Int32).toInt = 0 from (ti_c (v := 0) (a := 0) (by decide))]; exact k0) (by omega))
def f_X4_backFrom2 (s : ST) (a2 : Int) : ST × Int64 :=
  bd (s.2.1 49 10) fun v1 => bd (f_X7_has s v1 a2) fun v5 => if ¬ v5 = 0 then (bd (s.2.1 55 (a2).toNat) fun v9 => (s, v9)) else (bd (f_X4_beginFrom2 s a2) fun s12 => bd (f_X4_findOn2 s12) fun s16 => bd (f_X4_statementsFound2 s16) fun v22 => bd (sL s16 55 (a2).toNat v22) fun s24 => bd (s24.2.1 49 10) fun v26 => bd (f_X7_bit s24 a2) fun v30 => bd (o_lor v26 v30) fun v32 => bd (sL s24 49 10 v32) fun s34 => bd (s34.2.1 55 (a2).toNat) fun v36 => (s34, v36))
set_option maxHeartbeats 4000000 in
set_option maxRecDepth 100000 in
theorem s_X4_backFrom2_f (l : Launch) (d : Nat) {P : PP} {h : HP} (hv : Iv P h) (a2 : Int32) (a2l : 0 ≤ a2.toInt) (a2u : a2.toInt ≤ 39) : Mt l yX4_backFrom cX4_backFrom 2 (some .long) (d + 5) [.ref 49, .int a2] h 0 0 (fun r h' => ∃ v : Int64, r = some (.long v) ∧ Iv P h' ∧ ((st h', v) = f_X4_backFrom2 (st h) a2.toInt) ∧ (FX KAc h h')) := by
  refine Mt_iv hv (by decide) (Nat.le_of_ble_eq_true rfl) ?_
  show Go l RX4 cX4_backFrom 2 (g_rm (d + 5) 0 0) "backFrom" (some .long) 117 0 0 (fun _ _ => True) (fun r h' => ∃ v : Int64, r = some (.long v) ∧ Iv P h' ∧ ((st h', v) = f_X4_backFrom2 (st h) a2.toInt) ∧ (FX KAc h h')) 0 0 [(0, .ref 49), (1, .int a2)] [] h
  have fx : FX KAc h h := FX.rfl
  obtain ⟨fin, kf⟩ : ∃ z, z = f_X4_backFrom2 (st h) a2.toInt := ⟨_, _root_.rfl⟩
  have k0 := kf
  unfold f_X4_backFrom2 at k0
  refine go_aload_n (pc := 0) rfl dX4_backFrom_0 ?_
  refine gx_getL (pc := 1) hv fL_X4_39 rfl (Nat.le_of_ble_eq_true rfl) rfl dX4_backFrom_1 (fun v1 v1w => ?_)
  have k2 := bd_e k0 v1w.symm
  refine go_iload_n (pc := 4) rfl dX4_backFrom_4 ?_
  refine go_invS (pc := 5) (sl := 0) (s_X7_has_f l (d + 3) hv v1 a2) mL_X4_102 iM_X7_has rfl rfl (Nat.le_of_ble_eq_true rfl) (show d + 3 + 1 + 1 ≤ d + 5 by omega) (show 8 + (3 + 11) + 40 * (d + 3 + 1) ≤ 40 * (d + 5) by omega) (g_c0 hv.ln) (Nat.le_of_ble_eq_true rfl) dX4_backFrom_5 ?_
  intro r h3 hq _
  obtain ⟨v5, rfl, v5l, v5u, rfl, f4⟩ := hq
  replace f4 : PE _ _ := f4
  have k6 := bd_e k2 f4.symm
  refine gf_if_ne (pc := 8) (tgt := 43) (ti_rfl v5) (by decide) dX4_backFrom_8 (fun q7 => ?_) (fun q7 => ?_)
  ·
    have k8 := if_t k6 q7
    refine go_aload_n (pc := 43) rfl dX4_backFrom_43 ?_
    refine gi_getF (pc := 44) (q := 55) hv fL_X4_36 rfl (Nat.le_of_ble_eq_true rfl) rfl (hv.rf (by decide)) dX4_backFrom_44 ?_
    refine go_iload_n (pc := 47) rfl dX4_backFrom_47 ?_
    refine gi_lald (pc := 48) (len := 40) hv (ti_rfl a2) rfl (by omega) (by omega) dX4_backFrom_48 (fun v9 v9w => ?_)
    have k10 := bd_e k8 v9w.symm
    exact gi_lret (pc := 49) ⟨_, rfl, hv, (k10.symm.trans kf), fx⟩ hv dX4_backFrom_49
  ·
    have k11 := if_f k6 (fun z => z q7)
    refine go_aload_n (pc := 11) rfl dX4_backFrom_11 ?_
    refine go_iload_n (pc := 12) rfl dX4_backFrom_12 ?_
    refine go_invV (pc := 13) (sl := 0) (s_X4_beginFrom2_f l (d + 1) hv a2 (by rw [show (a2 : Int32).toInt = a2.toInt from (ti_rfl a2)]; omega) (by rw [show (a2 : Int32).toInt = a2.toInt from (ti_rfl a2)]; omega)) mL_X4_129 iM_X4_beginFrom sM_X4_beginFrom (hv.sh rfl) rfl rfl rfl (Nat.le_of_ble_eq_true rfl) (show d + 1 + 3 + 1 ≤ d + 5 by omega) (show 8 + (4 + 11) + 40 * (d + 1 + 3) ≤ 40 * (d + 5) by omega) (g_c0 hv.ln) (Nat.le_of_ble_eq_true rfl) dX4_backFrom_13 ?_
    intro r h12 hq _
    obtain ⟨rfl, hv12, f13, f14⟩ := hq
    have fx12 : FX KAc h h12 := FX.tr fx (FX.mono (fun c j z => by unfold KAc at z; unfold KQ; omega) f14)
    have k15 := bd_e k11 f13.symm
    refine go_aload_n (pc := 16) rfl dX4_backFrom_16 ?_
    refine go_invV (pc := 17) (sl := 0) (s_X4_findOn2_f l (d + 0) hv12 ) mL_X4_133 iM_X4_findOn sM_X4_findOn (hv12.sh rfl) rfl rfl rfl (Nat.le_of_ble_eq_true rfl) (show d + 0 + 4 + 1 ≤ d + 5 by omega) (show 8 + (2 + 11) + 40 * (d + 0 + 4) ≤ 40 * (d + 5) by omega) (g_c0 hv12.ln) (Nat.le_of_ble_eq_true rfl) dX4_backFrom_17 ?_
    intro r h16 hq _
    obtain ⟨rfl, hv16, f17, f18⟩ := hq
    have fx16 : FX KAc h h16 := FX.tr fx12 (FX.mono (fun c j z => by unfold KAc at z; unfold KQ; omega) f18)
    have k19 := bd_e k15 f17.symm
    refine go_aload_n (pc := 20) rfl dX4_backFrom_20 ?_
    refine gi_getF (pc := 21) (q := 55) hv16 fL_X4_36 rfl (Nat.le_of_ble_eq_true rfl) rfl (hv16.rf (by decide)) dX4_backFrom_21 ?_
    refine go_iload_n (pc := 24) rfl dX4_backFrom_24 ?_
    refine go_aload_n (pc := 25) rfl dX4_backFrom_25 ?_
    refine go_invV (pc := 26) (sl := 0) (s_X4_statementsFound2_f l (d + 3) hv16 ) mL_X4_136 iM_X4_statementsFound sM_X4_statementsFound (hv16.sh rfl) rfl rfl rfl (Nat.le_of_ble_eq_true rfl) (show d + 3 + 1 + 1 ≤ d + 5 by omega) (show 8 + (4 + 11) + 40 * (d + 3 + 1) ≤ 40 * (d + 5) by omega) (g_c0 hv16.ln) (Nat.le_of_ble_eq_true rfl) dX4_backFrom_26 ?_
    intro r h20 hq _
    obtain ⟨v22, rfl, rfl, f21⟩ := hq
    have k23 := bd_e k19 f21.symm
    refine gi_last (pc := 29) (len := 40) hv16 (ti_rfl a2) rfl (by omega) (by omega) dX4_backFrom_29 (fun h24 hv24 hv24e => ?_)
    have fx24 : FX KAc h h24 := FX.pL fx16 hv24e (by unfold KAc; omega)
    have k25 := bd_e k23 (st_L hv24e)
    refine go_aload_n (pc := 30) rfl dX4_backFrom_30 ?_
    refine go_dup (pc := 31) rfl dX4_backFrom_31 ?_
    refine gx_getL (pc := 32) hv24 fL_X4_39 rfl (Nat.le_of_ble_eq_true rfl) rfl dX4_backFrom_32 (fun v26 v26w => ?_)
    have k27 := bd_e k25 v26w.symm
    refine go_iload_n (pc := 35) rfl dX4_backFrom_35 ?_
    refine go_invS (pc := 36) (sl := 0) (s_X7_bit_f l (d + 3) hv24 a2) mL_X4_91 iM_X7_bit rfl rfl (Nat.le_of_ble_eq_true rfl) (show d + 3 + 1 + 1 ≤ d + 5 by omega) (show 8 + (1 + 11) + 40 * (d + 3 + 1) ≤ 40 * (d + 5) by omega) (g_c0 hv24.ln) (Nat.le_of_ble_eq_true rfl) dX4_backFrom_36 ?_
    intro r h28 hq _
    obtain ⟨v30, rfl, rfl, f29⟩ := hq
    have k31 := bd_e k27 f29.symm
    refine gx_lor (pc := 39) dX4_backFrom_39 (fun v32 v32x => ?_)
    have k33 := bd_e k31 (so_lor v32x)
    refine gi_putL (pc := 40) hv24 (fP_X4_39 _) rfl (Nat.le_of_ble_eq_true rfl) rfl rfl rfl dX4_backFrom_40 (fun h34 hv34 hv34e => ?_)
    have fx34 : FX KAc h h34 := FX.pL fx24 hv34e (by unfold KAc; omega)
    have k35 := bd_e k33 (st_L hv34e)
    refine go_aload_n (pc := 43) rfl dX4_backFrom_43 ?_
    refine gi_getF (pc := 44) (q := 55) hv34 fL_X4_36 rfl (Nat.le_of_ble_eq_true rfl) rfl (hv34.rf (by decide)) dX4_backFrom_44 ?_
    refine go_iload_n (pc := 47) rfl dX4_backFrom_47 ?_
    refine gi_lald (pc := 48) (len := 40) hv34 (ti_rfl a2) rfl (by omega) (by omega) dX4_backFrom_48 (fun v36 v36w => ?_)
    have k37 := bd_e k35 v36w.symm
    exact gi_lret (pc := 49) ⟨_, rfl, hv34, (k37.symm.trans kf), fx34⟩ hv34 dX4_backFrom_49
def f_X4_forthFrom2_ : Nat → Nat → Int → Int64 → Int → ST → ST × Int64
  | 0, _, _, _, _, sx => (sx, 0)
  | n + 1, _, l1, l2, l4, sx => bd (sx.2.2 49 1) fun c1 => bd (sx.1 c1 0) fun v3 => if v3 ≤ l4 then ((sx, l2)) else (bd2 (f_X4_backFrom2 sx l4) fun s8 v11 => bd (f_X7_has s8 v11 l1) fun v15 => if v15 = 0 then (f_X4_forthFrom2_ n 5 l1 l2 ((l4 + 1)) s8) else (bd (f_X7_bit s8 l4) fun v25 => bd (o_lor l2 v25) fun v27 => f_X4_forthFrom2_ n 5 l1 v27 ((l4 + 1)) s8))
def f_X4_forthFrom2 (s : ST) (a2 : Int) : ST × Int64 :=
  f_X4_forthFrom2_ 139 5 a2 (0 : Int64) 0 s
set_option maxHeartbeats 4000000 in
set_option maxRecDepth 100000 in
theorem s_X4_forthFrom2_f (l : Launch) (d : Nat) {P : PP} {h : HP} (hv : Iv P h) (a2 : Int32) : Mt l yX4_forthFrom cX4_forthFrom 5 (some .long) (d + 6) [.ref 49, .int a2] h 0 0 (fun r h' => ∃ v : Int64, r = some (.long v) ∧ Iv P h' ∧ ((st h', v) = f_X4_forthFrom2 (st h) a2.toInt) ∧ (FX KAc h h')) := by
  refine Mt_iv hv (by decide) (Nat.le_of_ble_eq_true rfl) ?_
  show Go l RX4 cX4_forthFrom 5 (g_rm (d + 6) 0 0) "forthFrom" (some .long) 117 0 0 (fun _ _ => True) (fun r h' => ∃ v : Int64, r = some (.long v) ∧ Iv P h' ∧ ((st h', v) = f_X4_forthFrom2 (st h) a2.toInt) ∧ (FX KAc h h')) 0 0 [(0, .ref 49), (1, .int a2)] [] h
  have fx : FX KAc h h := FX.rfl
  obtain ⟨fin, kf⟩ : ∃ z, z = f_X4_forthFrom2 (st h) a2.toInt := ⟨_, _root_.rfl⟩
  have k0 := kf
  unfold f_X4_forthFrom2 at k0
  have key : ∀ n : Nat, (∀ (l1 : Int32) (l2 : Int64) (l4 : Int32) (hx : HP), Iv P hx → 0 ≤ l4.toInt → l4.toInt ≤ 40 → FX KAc h hx → fin = f_X4_forthFrom2_ n 5 l1.toInt l2 l4.toInt (st hx) → (3 * (40 - l4.toInt) + 2 : Int) < n → Go l RX4 cX4_forthFrom 5 (g_rm (d + 6) 0 0) "forthFrom" (some .long) 117 0 0 (fun _ _ => True) (fun r h' => ∃ v : Int64, r = some (.long v) ∧ Iv P h' ∧ ((st h', v) = f_X4_forthFrom2 (st h) a2.toInt) ∧ (FX KAc h h')) 0 5 [(0, .ref 49), (1, .int l1), (2, .long l2), (4, .int l4)] [] hx) := by
    intro n
    induction n with
    | zero => exact (by intros; omega)
    | succ n ih =>
      refine ?_
      ·
        intro l1 l2 l4 hx hvx l4l l4u fxx kL hm
        rw [f_X4_forthFrom2_] at kL
        refine go_iload (pc := 5) rfl dX4_forthFrom_5 ?_
        refine go_aload_n (pc := 7) rfl dX4_forthFrom_7 ?_
        refine gi_getC (pc := 8) hvx fL_X4_58 rfl (Nat.le_of_ble_eq_true rfl) rfl (by decide) dX4_forthFrom_8 (fun c1 hc1 fc1 => ?_)
        have k2 := bd_e kL (st_c fc1)
        refine gi_get (pc := 11) (lo := 0) (hi := 40) hvx fL_X4_140 (by rcases hc1 with rfl | rfl <;> rfl) (Nat.le_of_ble_eq_true rfl) rfl (by rcases hc1 with rfl | rfl <;> rfl) dX4_forthFrom_11 (fun v3 v3l v3u v3w => ?_)
        have k4 := bd_e k2 (congrArg Int32.toInt v3w.symm)
        refine gf_icmp_ge (pc := 14) (tgt := 44) (ti_rfl l4) (ti_rfl v3) (by decide) dX4_forthFrom_14 (fun q5 => ?_) (fun q5 => ?_)
        ·
          have k6 := if_t k4 q5
          refine go_lload_n (pc := 44) rfl dX4_forthFrom_44 ?_
          exact gi_lret (pc := 45) ⟨_, rfl, hvx, (k6.symm.trans kf), fxx⟩ hvx dX4_forthFrom_45
        ·
          have k7 := if_f k4 (Int.not_le.mpr q5)
          refine go_aload_n (pc := 17) rfl dX4_forthFrom_17 ?_
          refine go_iload (pc := 18) rfl dX4_forthFrom_18 ?_
          refine go_invV (pc := 20) (sl := 0) (s_X4_backFrom2_f l (d + 0) hvx l4 (by rw [show (l4 : Int32).toInt = l4.toInt from (ti_rfl l4)]; omega) (by rw [show (l4 : Int32).toInt = l4.toInt from (ti_rfl l4)]; omega)) mL_X4_143 iM_X4_backFrom sM_X4_backFrom (hvx.sh rfl) rfl rfl rfl (Nat.le_of_ble_eq_true rfl) (show d + 0 + 5 + 1 ≤ d + 6 by omega) (show 8 + (2 + 11) + 40 * (d + 0 + 5) ≤ 40 * (d + 6) by omega) (g_c0 hvx.ln) (Nat.le_of_ble_eq_true rfl) dX4_forthFrom_20 ?_
          intro r h8 hq _
          obtain ⟨v11, rfl, hv8, f9, f10⟩ := hq
          have fx8 : FX KAc h h8 := FX.tr fxx f10
          have k12 := bd2_e k7 f9
          refine go_iload_n (pc := 23) rfl dX4_forthFrom_23 ?_
          refine go_invS (pc := 24) (sl := 0) (s_X7_has_f l (d + 4) hv8 v11 l1) mL_X4_102 iM_X7_has rfl rfl (Nat.le_of_ble_eq_true rfl) (show d + 4 + 1 + 1 ≤ d + 6 by omega) (show 8 + (3 + 11) + 40 * (d + 4 + 1) ≤ 40 * (d + 6) by omega) (g_c0 hv8.ln) (Nat.le_of_ble_eq_true rfl) dX4_forthFrom_24 ?_
          intro r h13 hq _
          obtain ⟨v15, rfl, v15l, v15u, rfl, f14⟩ := hq
          replace f14 : PE _ _ := f14
          have k16 := bd_e k12 f14.symm
          refine gf_if_eq (pc := 27) (tgt := 38) (ti_rfl v15) (by decide) dX4_forthFrom_27 (fun q17 => ?_) (fun q17 => ?_)
          ·
            have k18 := if_t k16 q17
            refine gf_iinc (pc := 38) (Nat.le_of_ble_eq_true rfl) rfl (ti_rfl l4) (ti_c (by decide)) (by omega) (by omega) dX4_forthFrom_38 (fun v19 e20 => ?_)
            refine go_lv (lv2 := [(0, .ref 49), (1, .int l1), (2, .long l2), (4, .int v19)]) rfl ?_
            refine go_goto (pc := 41) (tgt := 5) (by decide) dX4_forthFrom_41 ?_
            have z21 : (v19 : Int32).toInt = (l4.toInt + 1) := e20
            exact go_lv rfl (ih l1 l2 v19 h8 hv8 (by omega) (by omega) fx8 (by rw [show (v19 : Int32).toInt = (l4.toInt + 1) from e20]; exact k18) (by omega))
          ·
            have k22 := if_f k16 q17
            refine go_lload_n (pc := 30) rfl dX4_forthFrom_30 ?_
            refine go_iload (pc := 31) rfl dX4_forthFrom_31 ?_
            refine go_invS (pc := 33) (sl := 0) (s_X7_bit_f l (d + 4) hv8 l4) mL_X4_91 iM_X7_bit rfl rfl (Nat.le_of_ble_eq_true rfl) (show d + 4 + 1 + 1 ≤ d + 6 by omega) (show 8 + (1 + 11) + 40 * (d + 4 + 1) ≤ 40 * (d + 6) by omega) (g_c0 hv8.ln) (Nat.le_of_ble_eq_true rfl) dX4_forthFrom_33 ?_
            intro r h23 hq _
            obtain ⟨v25, rfl, rfl, f24⟩ := hq
            have k26 := bd_e k22 f24.symm
            refine gx_lor (pc := 36) dX4_forthFrom_36 (fun v27 v27x => ?_)
            have k28 := bd_e k26 (so_lor v27x)
            refine go_lstore_n (pc := 37) (Nat.le_of_ble_eq_true rfl) dX4_forthFrom_37 (go_lv (lv2 := [(0, .ref 49), (1, .int l1), (2, .long v27), (4, .int l4)]) rfl ?_)
            refine gf_iinc (pc := 38) (Nat.le_of_ble_eq_true rfl) rfl (ti_rfl l4) (ti_c (by decide)) (by omega) (by omega) dX4_forthFrom_38 (fun v29 e30 => ?_)
            refine go_lv (lv2 := [(0, .ref 49), (1, .int l1), (2, .long v27), (4, .int v29)]) rfl ?_
            refine go_goto (pc := 41) (tgt := 5) (by decide) dX4_forthFrom_41 ?_
            have z31 : (v29 : Int32).toInt = (l4.toInt + 1) := e30
            exact go_lv rfl (ih l1 v27 v29 h8 hv8 (by omega) (by omega) fx8 (by rw [show (v29 : Int32).toInt = (l4.toInt + 1) from e30]; exact k28) (by omega))
  refine go_lconst (pc := 0) (v := 0) (by decide) dX4_forthFrom_0 ?_
  refine go_lstore_n (pc := 1) (Nat.le_of_ble_eq_true rfl) dX4_forthFrom_1 (go_lv (lv2 := [(0, .ref 49), (1, .int a2), (2, .long 0)]) rfl ?_)
  refine go_iconst (pc := 2) (v := 0) (by decide) dX4_forthFrom_2 ?_
  refine go_istore (pc := 3) (Nat.le_of_ble_eq_true rfl) dX4_forthFrom_3 (go_lv (lv2 := [(0, .ref 49), (1, .int a2), (2, .long 0), (4, .int 0)]) rfl ?_)
  have z32 : (0 : Int32).toInt = 0 := (ti_c (v := 0) (a := 0) (by decide))
  exact go_lv rfl ((key 139) a2 0 0 h hv (by omega) (by omega) fx (by rw [show (0 : Int32).toInt = 0 from (ti_c (v := 0) (a := 0) (by decide))]; exact k0) (by omega))
def f_X4_backFromOut2 (s : ST) (a2 : Int) (a3 : Int) : ST × Int64 :=
  bd (f_X4_clearFound2 s) fun s1 => bd (f_X7_bit s1 ((40 + a2))) fun v11 => bd (f_X4_add2 s1 52 ((7 + a3)) v11) fun s13 => bd (f_X4_findOn2 s13) fun s17 => bd (f_X4_statementsFound2 s17) fun v23 => (s17, v23)
set_option maxHeartbeats 4000000 in
set_option maxRecDepth 100000 in
theorem s_X4_backFromOut2_f (l : Launch) (d : Nat) {P : PP} {h : HP} (hv : Iv P h) (a2 : Int32) (a2l : 0 ≤ a2.toInt) (a2u : a2.toInt ≤ 4) (a3 : Int32) (a3l : 0 ≤ a3.toInt) (a3u : a3.toInt ≤ 5) : Mt l yX4_backFromOut cX4_backFromOut 3 (some .long) (d + 5) [.ref 49, .int a2, .int a3] h 0 0 (fun r h' => ∃ v : Int64, r = some (.long v) ∧ Iv P h' ∧ ((st h', v) = f_X4_backFromOut2 (st h) a2.toInt a3.toInt) ∧ (FX KQ h h')) := by
  refine Mt_iv hv (by decide) (Nat.le_of_ble_eq_true rfl) ?_
  show Go l RX4 cX4_backFromOut 3 (g_rm (d + 5) 0 0) "backFromOut" (some .long) 117 0 0 (fun _ _ => True) (fun r h' => ∃ v : Int64, r = some (.long v) ∧ Iv P h' ∧ ((st h', v) = f_X4_backFromOut2 (st h) a2.toInt a3.toInt) ∧ (FX KQ h h')) 0 0 [(0, .ref 49), (1, .int a2), (2, .int a3)] [] h
  have fx : FX KQ h h := FX.rfl
  obtain ⟨fin, kf⟩ : ∃ z, z = f_X4_backFromOut2 (st h) a2.toInt a3.toInt := ⟨_, _root_.rfl⟩
  have k0 := kf
  unfold f_X4_backFromOut2 at k0
  refine go_aload_n (pc := 0) rfl dX4_backFromOut_0 ?_
  refine go_invV (pc := 1) (sl := 0) (s_X4_clearFound2_f l (d + 2) hv ) mL_X4_88 iM_X4_clearFound sM_X4_clearFound (hv.sh rfl) rfl rfl rfl (Nat.le_of_ble_eq_true rfl) (show d + 2 + 2 + 1 ≤ d + 5 by omega) (show 8 + (1 + 11) + 40 * (d + 2 + 2) ≤ 40 * (d + 5) by omega) (g_c0 hv.ln) (Nat.le_of_ble_eq_true rfl) dX4_backFromOut_1 ?_
  intro r h1 hq _
  obtain ⟨rfl, hv1, f2, f3⟩ := hq
  have fx1 : FX KQ h h1 := FX.tr fx f3
  have k4 := bd_e k0 f2.symm
  refine go_aload_n (pc := 4) rfl dX4_backFromOut_4 ?_
  refine go_aload_n (pc := 5) rfl dX4_backFromOut_5 ?_
  refine gi_getF (pc := 6) (q := 52) hv1 fL_X4_23 rfl (Nat.le_of_ble_eq_true rfl) rfl (hv1.rf (by decide)) dX4_backFromOut_6 ?_
  refine go_bipush (pc := 9) (v := 7) (by decide) dX4_backFromOut_9 ?_
  refine go_iload_n (pc := 11) rfl dX4_backFromOut_11 ?_
  refine gf_iadd (pc := 12) (ti_c (v := 7) (a := 7) (by decide)) (ti_rfl a3) (by omega) (by omega) dX4_backFromOut_12 (fun v5 e6 => ?_)
  refine go_bipush (pc := 13) (v := 40) (by decide) dX4_backFromOut_13 ?_
  refine go_iload_n (pc := 15) rfl dX4_backFromOut_15 ?_
  refine gf_iadd (pc := 16) (ti_c (v := 40) (a := 40) (by decide)) (ti_rfl a2) (by omega) (by omega) dX4_backFromOut_16 (fun v7 e8 => ?_)
  refine go_invS (pc := 17) (sl := 0) (s_X7_bit_f l (d + 3) hv1 v7) mL_X4_91 iM_X7_bit rfl rfl (Nat.le_of_ble_eq_true rfl) (show d + 3 + 1 + 1 ≤ d + 5 by omega) (show 8 + (1 + 11) + 40 * (d + 3 + 1) ≤ 40 * (d + 5) by omega) (g_c0 hv1.ln) (Nat.le_of_ble_eq_true rfl) dX4_backFromOut_17 ?_
  intro r h9 hq _
  obtain ⟨v11, rfl, rfl, f10⟩ := hq
  try rw [show (v7 : Int32).toInt = (40 + a2.toInt) from e8] at f10
  have k12 := bd_e k4 f10.symm
  refine go_invV (pc := 20) (sl := 0) (s_X4_add2_f l (d + 3) hv1 52 (by decide) v5 (by rw [show (v5 : Int32).toInt = (7 + a3.toInt) from e6]; omega) (by rw [show (v5 : Int32).toInt = (7 + a3.toInt) from e6]; omega) v11) mL_X4_94 iM_X4_add sM_X4_add (hv1.sh rfl) rfl rfl rfl (Nat.le_of_ble_eq_true rfl) (show d + 3 + 1 + 1 ≤ d + 5 by omega) (show 8 + (8 + 11) + 40 * (d + 3 + 1) ≤ 40 * (d + 5) by omega) (g_c0 hv1.ln) (Nat.le_of_ble_eq_true rfl) dX4_backFromOut_20 ?_
  intro r h13 hq _
  obtain ⟨rfl, hv13, f14, f15⟩ := hq
  try rw [show (v5 : Int32).toInt = (7 + a3.toInt) from e6] at f14
  try rw [show (v5 : Int32).toInt = (7 + a3.toInt) from e6] at f15
  have fx13 : FX KQ h h13 := FX.tr fx1 f15
  have k16 := bd_e k12 f14.symm
  refine go_aload_n (pc := 23) rfl dX4_backFromOut_23 ?_
  refine go_invV (pc := 24) (sl := 0) (s_X4_findOn2_f l (d + 0) hv13 ) mL_X4_133 iM_X4_findOn sM_X4_findOn (hv13.sh rfl) rfl rfl rfl (Nat.le_of_ble_eq_true rfl) (show d + 0 + 4 + 1 ≤ d + 5 by omega) (show 8 + (2 + 11) + 40 * (d + 0 + 4) ≤ 40 * (d + 5) by omega) (g_c0 hv13.ln) (Nat.le_of_ble_eq_true rfl) dX4_backFromOut_24 ?_
  intro r h17 hq _
  obtain ⟨rfl, hv17, f18, f19⟩ := hq
  have fx17 : FX KQ h h17 := FX.tr fx13 f19
  have k20 := bd_e k16 f18.symm
  refine go_aload_n (pc := 27) rfl dX4_backFromOut_27 ?_
  refine go_invV (pc := 28) (sl := 0) (s_X4_statementsFound2_f l (d + 3) hv17 ) mL_X4_136 iM_X4_statementsFound sM_X4_statementsFound (hv17.sh rfl) rfl rfl rfl (Nat.le_of_ble_eq_true rfl) (show d + 3 + 1 + 1 ≤ d + 5 by omega) (show 8 + (4 + 11) + 40 * (d + 3 + 1) ≤ 40 * (d + 5) by omega) (g_c0 hv17.ln) (Nat.le_of_ble_eq_true rfl) dX4_backFromOut_28 ?_
  intro r h21 hq _
  obtain ⟨v23, rfl, rfl, f22⟩ := hq
  have k24 := bd_e k20 f22.symm
  exact gi_lret (pc := 31) ⟨_, rfl, hv17, (k24.symm.trans kf), fx17⟩ hv17 dX4_backFromOut_31

