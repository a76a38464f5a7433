def f_J7_fill_53178_at652_ : Nat → Nat → Int → Int → Int → ST → ST
  | 0, _, _, _, _, sx => sx
  | n + 1, _, l1, l2, l3, sx => if l3 ≤ l2 then (sx) else (bd (sI sx 65 (l2).toNat l1) fun s4 => f_J7_fill_53178_at652_ n 5 l1 ((l2 + 1)) l3 s4)
def f_J7_fill_53178_at652 (s : ST) (a2 : Int) : ST :=
  f_J7_fill_53178_at652_ 31 5 a2 0 4 s
set_option maxHeartbeats 4000000 in
set_option maxRecDepth 100000 in
theorem s_J7_fill_53178_at652_f (l : Launch) (d : Nat) {P : PP} {h : HP} (hv : Iv P h) (a2 : Int32) : Mt l yJ7_fill_53178 cJ7_fill_53178 4 none (d + 1) [.ref 65, .int a2] h 0 0 (fun r h' => r = none ∧ Iv P h' ∧ (st h' = f_J7_fill_53178_at652 (st h) a2.toInt) ∧ (FX KAm h h')) := by
  refine Mt_iv hv (by decide) (Nat.le_of_ble_eq_true rfl) ?_
  show Go l RJ7 cJ7_fill_53178 4 (g_rm (d + 1) 0 0) "fill" none 117 0 0 (fun _ _ => True) (fun r h' => r = none ∧ Iv P h' ∧ (st h' = f_J7_fill_53178_at652 (st h) a2.toInt) ∧ (FX KAm h h')) 0 0 [(0, .ref 65), (1, .int a2)] [] h
  have fx : FX KAm h h := FX.rfl
  obtain ⟨fin, kf⟩ : ∃ z, z = f_J7_fill_53178_at652 (st h) a2.toInt := ⟨_, _root_.rfl⟩
  have k0 := kf
  unfold f_J7_fill_53178_at652 at k0
  have key : ∀ n : Nat, (∀ (l1 : Int32) (l2 : Int32) (l3 : Int32) (hx : HP), Iv P hx → 0 ≤ l2.toInt → l2.toInt ≤ 4 → 4 ≤ l3.toInt → l3.toInt ≤ 4 → FX KAm h hx → fin = f_J7_fill_53178_at652_ n 5 l1.toInt l2.toInt l3.toInt (st hx) → (3 * (4 - l2.toInt) + 2 : Int) < n → Go l RJ7 cJ7_fill_53178 4 (g_rm (d + 1) 0 0) "fill" none 117 0 0 (fun _ _ => True) (fun r h' => r = none ∧ Iv P h' ∧ (st h' = f_J7_fill_53178_at652 (st h) a2.toInt) ∧ (FX KAm h h')) 0 5 [(0, .ref 65), (1, .int l1), (2, .int l2), (3, .int l3)] [] hx) := by
    intro n
    induction n with
    | zero => exact (by intros; omega)
    | succ n ih =>
      refine ?_
      ·
        intro l1 l2 l3 hx hvx l2l l2u l3l l3u fxx kL hm
        rw [f_J7_fill_53178_at652_] at kL
        refine go_iload_n (pc := 5) rfl dJ7_fill_53178_5 ?_
        refine go_iload_n (pc := 6) rfl dJ7_fill_53178_6 ?_
        refine gf_icmp_ge (pc := 7) (tgt := 20) (ti_rfl l2) (ti_rfl l3) (by decide) dJ7_fill_53178_7 (fun q1 => ?_) (fun q1 => ?_)
        ·
          have k2 := if_t kL q1
          exact gi_vret (pc := 20) ⟨rfl, hvx, (k2.symm.trans kf), fxx⟩ hvx dJ7_fill_53178_20
        ·
          have k3 := if_f kL (Int.not_le.mpr q1)
          refine go_aload_n (pc := 10) rfl dJ7_fill_53178_10 ?_
          refine go_iload_n (pc := 11) rfl dJ7_fill_53178_11 ?_
          refine go_iload_n (pc := 12) rfl dJ7_fill_53178_12 ?_
          refine gi_iast (pc := 13) (lo := -2147483648) (hi := 2147483647) (len := 4) hvx (ti_rfl l2) (ti_rfl l1) rfl (by omega) (by omega) (fun _ => rfl) (ti_ge (ti_rfl l1)) (ti_le2 (ti_rfl l1)) (by decide) dJ7_fill_53178_13 (fun h4 hv4 hv4e => ?_)
          have fx4 : FX KAm h h4 := FX.pI fxx hv4e (by unfold KAm; omega)
          have k5 := bd_e k3 (st_I hv4e (ti_rfl l1))
          refine gf_iinc (pc := 14) (Nat.le_of_ble_eq_true rfl) rfl (ti_rfl l2) (ti_c (by decide)) (by omega) (by omega) dJ7_fill_53178_14 (fun v6 e7 => ?_)
          refine go_lv (lv2 := [(0, .ref 65), (1, .int l1), (2, .int v6), (3, .int l3)]) rfl ?_
          refine go_goto (pc := 17) (tgt := 5) (by decide) dJ7_fill_53178_17 ?_
          have z8 : (v6 : Int32).toInt = (l2.toInt + 1) := e7
          exact go_lv rfl (ih l1 v6 l3 h4 hv4 (by omega) (by omega) (by omega) (by omega) fx4 (by rw [show (v6 : Int32).toInt = (l2.toInt + 1) from e7]; exact k5) (by omega))
  refine go_iconst (pc := 0) (v := 0) (by decide) dJ7_fill_53178_0 ?_
  refine go_istore_n (pc := 1) (Nat.le_of_ble_eq_true rfl) dJ7_fill_53178_1 (go_lv (lv2 := [(0, .ref 65), (1, .int a2), (2, .int 0)]) rfl ?_)
  refine go_aload_n (pc := 2) rfl dJ7_fill_53178_2 ?_
  refine go_alen (pc := 3) (v := 4) (hv.sh rfl) (by decide) (by decide) dJ7_fill_53178_3 ?_
  refine go_istore_n (pc := 4) (Nat.le_of_ble_eq_true rfl) dJ7_fill_53178_4 (go_lv (lv2 := [(0, .ref 65), (1, .int a2), (2, .int 0), (3, .int 4)]) rfl ?_)
  have z9 : (0 : Int32).toInt = 0 := (ti_c (v := 0) (a := 0) (by decide))
  have z10 : (4 : Int32).toInt = 4 := (ti_c (v := 4) (a := 4) (by decide))
  exact go_lv rfl ((key 31) a2 0 4 h hv (by omega) (by omega) (by omega) (by omega) fx (by rw [show (0 : Int32).toInt = 0 from (ti_c (v := 0) (a := 0) (by decide)), show (4 : Int32).toInt = 4 from (ti_c (v := 4) (a := 4) (by decide))]; exact k0) (by omega))
def f_X2_load2 (s : ST) (a2 : Int) : Int :=
  if 0 ≤ a2 then (if a2 < 10 then (if a2 < 6 then (bd (s.1 64 3) fun v7 => bd (s.1 66 (((v7 * 6) + a2)).toNat) fun v13 => v13) else (bd (s.1 65 ((a2 - 6)).toNat) fun v18 => v18)) else ((a2 - 10))) else (0)
set_option maxHeartbeats 4000000 in
set_option maxRecDepth 100000 in
theorem s_X2_load2_f (l : Launch) (d : Nat) {P : PP} {h : HP} (hv : Iv P h) (a2 : Int32) : Mt l yX2_load cX2_load 2 (some .int) (d + 1) [.ref 64, .int a2] h 0 0 (fun r h' => ∃ v : Int32, r = some (.int v) ∧ -2147483648 ≤ v.toInt ∧ v.toInt ≤ 2147483647 ∧ h = h' ∧ (v.toInt = f_X2_load2 (st h) a2.toInt)) := by
  refine Mt_iv hv (by decide) (Nat.le_of_ble_eq_true rfl) ?_
  show Go l RX2 cX2_load 2 (g_rm (d + 1) 0 0) "load" (some .int) 117 0 0 (fun _ _ => True) (fun r h' => ∃ v : Int32, r = some (.int v) ∧ -2147483648 ≤ v.toInt ∧ v.toInt ≤ 2147483647 ∧ h = h' ∧ (v.toInt = f_X2_load2 (st h) a2.toInt)) 0 0 [(0, .ref 64), (1, .int a2)] [] h
  obtain ⟨fin, kf⟩ : ∃ z, z = f_X2_load2 (st h) a2.toInt := ⟨_, _root_.rfl⟩
  have k0 := kf
  unfold f_X2_load2 at k0
  refine go_iload_n (pc := 0) rfl dX2_load_0 ?_
  refine gf_if_ge (pc := 1) (tgt := 6) (ti_rfl a2) (by decide) dX2_load_1 (fun q1 => ?_) (fun q1 => ?_)
  ·
    have k2 := if_t k0 q1
    refine go_iload_n (pc := 6) rfl dX2_load_6 ?_
    refine go_bipush (pc := 7) (v := 10) (by decide) dX2_load_7 ?_
    refine gf_icmp_lt (pc := 9) (tgt := 17) (ti_rfl a2) (ti_c (v := 10) (a := 10) (by decide)) (by decide) dX2_load_9 (fun q3 => ?_) (fun q3 => ?_)
    ·
      have k4 := if_t k2 q3
      refine go_iload_n (pc := 17) rfl dX2_load_17 ?_
      refine go_bipush (pc := 18) (v := 6) (by decide) dX2_load_18 ?_
      refine gf_icmp_lt (pc := 20) (tgt := 33) (ti_rfl a2) (ti_c (v := 6) (a := 6) (by decide)) (by decide) dX2_load_20 (fun q5 => ?_) (fun q5 => ?_)
      ·
        have k6 := if_t k4 q5
        refine go_aload_n (pc := 33) rfl dX2_load_33 ?_
        refine gi_getF (pc := 34) (q := 66) hv fL_X2_15 rfl (Nat.le_of_ble_eq_true rfl) rfl (hv.rf (by decide)) dX2_load_34 ?_
        refine go_aload_n (pc := 37) rfl dX2_load_37 ?_
        refine gi_get (pc := 38) (lo := 0) (hi := 30) hv fL_X2_21 rfl (Nat.le_of_ble_eq_true rfl) rfl rfl dX2_load_38 (fun v7 v7l v7u v7w => ?_)
        have k8 := bd_e k6 (congrArg Int32.toInt v7w.symm)
        refine go_bipush (pc := 41) (v := 6) (by decide) dX2_load_41 ?_
        refine gf_imul (pc := 43) (ti_rfl v7) (ti_c (v := 6) (a := 6) (by decide)) (by omega) (by omega) dX2_load_43 (fun v9 e10 => ?_)
        refine go_iload_n (pc := 44) rfl dX2_load_44 ?_
        refine gf_iadd (pc := 45) e10 (ti_rfl a2) (by omega) (by omega) dX2_load_45 (fun v11 e12 => ?_)
        refine gi_iald (pc := 46) (lo := -2147483648) (hi := 2147483647) (len := 186) hv e12 rfl (by omega) (by omega) (fun _ => rfl) dX2_load_46 (fun v13 v13l v13u v13w => ?_)
        have k14 := bd_e k8 (congrArg Int32.toInt v13w.symm)
        exact gi_iret (pc := 47) (ti_rfl v13) ⟨_, rfl, (ti_lo _), (ti_hi _), rfl, (k14.symm.trans kf)⟩ hv dX2_load_47
      ·
        have k15 := if_f k4 (Int.not_lt.mpr q5)
        refine go_aload_n (pc := 23) rfl dX2_load_23 ?_
        refine gi_getF (pc := 24) (q := 65) hv fL_X2_9 rfl (Nat.le_of_ble_eq_true rfl) rfl (hv.rf (by decide)) dX2_load_24 ?_
        refine go_iload_n (pc := 27) rfl dX2_load_27 ?_
        refine go_bipush (pc := 28) (v := 6) (by decide) dX2_load_28 ?_
        refine gf_isub (pc := 30) (ti_rfl a2) (ti_c (v := 6) (a := 6) (by decide)) (by omega) (by omega) dX2_load_30 (fun v16 e17 => ?_)
        refine gi_iald (pc := 31) (lo := -2147483648) (hi := 2147483647) (len := 4) hv e17 rfl (by omega) (by omega) (fun _ => rfl) dX2_load_31 (fun v18 v18l v18u v18w => ?_)
        have k19 := bd_e k15 (congrArg Int32.toInt v18w.symm)
        exact gi_iret (pc := 32) (ti_rfl v18) ⟨_, rfl, (ti_lo _), (ti_hi _), rfl, (k19.symm.trans kf)⟩ hv dX2_load_32
    ·
      have k20 := if_f k2 (Int.not_lt.mpr q3)
      refine go_iload_n (pc := 12) rfl dX2_load_12 ?_
      refine go_bipush (pc := 13) (v := 10) (by decide) dX2_load_13 ?_
      have b22 := ti_le2 (ti_rfl a2)
      refine gf_isub (pc := 15) (ti_rfl a2) (ti_c (v := 10) (a := 10) (by decide)) (by omega) (by omega) dX2_load_15 (fun v21 e23 => ?_)
      exact gi_iret (pc := 16) e23 ⟨_, rfl, (ti_lo _), (ti_hi _), rfl, (by rw [show (v21 : Int32).toInt = (a2.toInt - 10) from e23]; exact k20.symm.trans kf)⟩ hv dX2_load_16
  ·
    have k24 := if_f k0 (Int.not_le.mpr q1)
    refine go_iconst (pc := 4) (v := 0) (by decide) dX2_load_4 ?_
    exact gi_iret (pc := 5) (ti_c (v := 0) (a := 0) (by decide)) ⟨_, rfl, (ti_lo _), (ti_hi _), rfl, (by rw [show (0 : Int32).toInt = 0 from (ti_c (v := 0) (a := 0) (by decide))]; exact k24.symm.trans kf)⟩ hv dX2_load_5
def f_X2_enter2_ : Nat → Nat → Int → Int → Int → Int → Int → ST → ST
  | 0, _, _, _, _, _, _, sx => sx
  | n + 1, _, l1, l2, l3, l4, l5, sx => if 6 ≤ l5 then (bd (sI sx 66 (l4).toNat l2) fun s3 => bd (sI s3 66 ((l4 + 1)).toNat l3) fun s7 => bd (s7.2.2 64 11) fun c9 => bd (s7.1 (c9 + 1) (l1).toNat) fun v11 => bd (sI s7 64 4 v11) fun s13 => s13) else (bd (sI sx 66 ((l4 + l5)).toNat 0) fun s18 => f_X2_enter2_ n 12 l1 l2 l3 l4 ((l5 + 1)) s18)
def f_X2_enter2 (s : ST) (a2 : Int) (a3 : Int) (a4 : Int) : ST :=
  bd (s.1 64 3) fun v23 => f_X2_enter2_ 37 12 a2 a3 a4 ((v23 * 6)) 0 s
set_option maxHeartbeats 4000000 in
set_option maxRecDepth 100000 in
theorem s_X2_enter2_f (l : Launch) (d : Nat) {P : PP} {h : HP} (hv : Iv P h) (a2 : Int32) (a2l : 0 ≤ a2.toInt) (a2u : a2.toInt ≤ 4) (a3 : Int32) (a4 : Int32) : Mt l yX2_enter cX2_enter 6 none (d + 1) [.ref 64, .int a2, .int a3, .int a4] h 0 0 (fun r h' => r = none ∧ Iv P h' ∧ (st h' = f_X2_enter2 (st h) a2.toInt a3.toInt a4.toInt) ∧ (FX KAm h h')) := by
  refine Mt_iv hv (by decide) (Nat.le_of_ble_eq_true rfl) ?_
  show Go l RX2 cX2_enter 6 (g_rm (d + 1) 0 0) "enter" none 117 0 0 (fun _ _ => True) (fun r h' => r = none ∧ Iv P h' ∧ (st h' = f_X2_enter2 (st h) a2.toInt a3.toInt a4.toInt) ∧ (FX KAm h h')) 0 0 [(0, .ref 64), (1, .int a2), (2, .int a3), (3, .int a4)] [] h
  have fx : FX KAm h h := FX.rfl
  obtain ⟨fin, kf⟩ : ∃ z, z = f_X2_enter2 (st h) a2.toInt a3.toInt a4.toInt := ⟨_, _root_.rfl⟩
  have k0 := kf
  unfold f_X2_enter2 at k0
  have key : ∀ n : Nat, (∀ (l1 : Int32) (l2 : Int32) (l3 : Int32) (l4 : Int32) (l5 : Int32) (hx : HP), Iv P hx → 0 ≤ l1.toInt → l1.toInt ≤ 4 → 0 ≤ l4.toInt → l4.toInt ≤ 180 → 0 ≤ l5.toInt → l5.toInt ≤ 6 → FX KAm h hx → fin = f_X2_enter2_ n 12 l1.toInt l2.toInt l3.toInt l4.toInt l5.toInt (st hx) → (3 * (6 - l5.toInt) + 2 : Int) < n → Go l RX2 cX2_enter 6 (g_rm (d + 1) 0 0) "enter" none 117 0 0 (fun _ _ => True) (fun r h' => r = none ∧ Iv P h' ∧ (st h' = f_X2_enter2 (st h) a2.toInt a3.toInt a4.toInt) ∧ (FX KAm h h')) 0 12 [(0, .ref 64), (1, .int l1), (2, .int l2), (3, .int l3), (4, .int l4), (5, .int l5)] [] hx) := by
    intro n
    induction n with
    | zero => exact (by intros; omega)
    | succ n ih =>
      refine ?_
      ·
        intro l1 l2 l3 l4 l5 hx hvx l1l l1u l4l l4u l5l l5u fxx kL hm
        rw [f_X2_enter2_] at kL
        refine go_iload (pc := 12) rfl dX2_enter_12 ?_
        refine go_bipush (pc := 14) (v := 6) (by decide) dX2_enter_14 ?_
        refine gf_icmp_ge (pc := 16) (tgt := 36) (ti_rfl l5) (ti_c (v := 6) (a := 6) (by decide)) (by decide) dX2_enter_16 (fun q1 => ?_) (fun q1 => ?_)
        ·
          have k2 := if_t kL q1
          refine go_aload_n (pc := 36) rfl dX2_enter_36 ?_
          refine gi_getF (pc := 37) (q := 66) hvx fL_X2_15 rfl (Nat.le_of_ble_eq_true rfl) rfl (hvx.rf (by decide)) dX2_enter_37 ?_
          refine go_iload (pc := 40) rfl dX2_enter_40 ?_
          refine go_iload_n (pc := 42) rfl dX2_enter_42 ?_
          refine gi_iast (pc := 43) (lo := -2147483648) (hi := 2147483647) (len := 186) hvx (ti_rfl l4) (ti_rfl l2) rfl (by omega) (by omega) (fun _ => rfl) (ti_ge (ti_rfl l2)) (ti_le2 (ti_rfl l2)) (by decide) dX2_enter_43 (fun h3 hv3 hv3e => ?_)
          have fx3 : FX KAm h h3 := FX.pI fxx hv3e (by unfold KAm; omega)
          have k4 := bd_e k2 (st_I hv3e (ti_rfl l2))
          refine go_aload_n (pc := 44) rfl dX2_enter_44 ?_
          refine gi_getF (pc := 45) (q := 66) hv3 fL_X2_15 rfl (Nat.le_of_ble_eq_true rfl) rfl (hv3.rf (by decide)) dX2_enter_45 ?_
          refine go_iload (pc := 48) rfl dX2_enter_48 ?_
          refine go_iconst (pc := 50) (v := 1) (by decide) dX2_enter_50 ?_
          refine gf_iadd (pc := 51) (ti_rfl l4) (ti_c (v := 1) (a := 1) (by decide)) (by omega) (by omega) dX2_enter_51 (fun v5 e6 => ?_)
          refine go_iload_n (pc := 52) rfl dX2_enter_52 ?_
          refine gi_iast (pc := 53) (lo := -2147483648) (hi := 2147483647) (len := 186) hv3 e6 (ti_rfl l3) rfl (by omega) (by omega) (fun _ => rfl) (ti_ge (ti_rfl l3)) (ti_le2 (ti_rfl l3)) (by decide) dX2_enter_53 (fun h7 hv7 hv7e => ?_)
          have fx7 : FX KAm h h7 := FX.pI fx3 hv7e (by unfold KAm; omega)
          have k8 := bd_e k4 (st_I hv7e (ti_rfl l3))
          refine go_aload_n (pc := 54) rfl dX2_enter_54 ?_
          refine go_aload_n (pc := 55) rfl dX2_enter_55 ?_
          refine gi_getC (pc := 56) hv7 fL_X2_50 rfl (Nat.le_of_ble_eq_true rfl) rfl (by decide) dX2_enter_56 (fun c9 hc9 fc9 => ?_)
          have k10 := bd_e k8 (st_c fc9)
          refine gi_getF (pc := 59) (q := c9 + 1) hv7 fL_X2_68 (by rcases hc9 with rfl | rfl <;> rfl) (Nat.le_of_ble_eq_true rfl) rfl (by rcases hc9 with rfl | rfl <;> exact hv7.rf (by decide)) dX2_enter_59 ?_
          refine go_iload_n (pc := 62) rfl dX2_enter_62 ?_
          refine gi_iald (pc := 63) (lo := 0) (hi := 44) (len := 5) hv7 (ti_rfl l1) (by rcases hc9 with rfl | rfl <;> rfl) (by omega) (by omega) (fun _ => by rcases hc9 with rfl | rfl <;> rfl) dX2_enter_63 (fun v11 v11l v11u v11w => ?_)
          have k12 := bd_e k10 (congrArg Int32.toInt v11w.symm)
          refine gi_put (pc := 64) (lo := 0) (hi := 44) hv7 (ti_rfl v11) (fP_X2_25 _) rfl (Nat.le_of_ble_eq_true rfl) rfl rfl (by omega) (by omega) rfl rfl (by decide) (by decide) (by decide) (by decide) dX2_enter_64 (fun h13 hv13 hv13e => ?_)
          have fx13 : FX KAm h h13 := FX.pI fx7 hv13e (by unfold KAm; omega)
          have k14 := bd_e k12 (st_I hv13e (ti_rfl v11))
          exact gi_vret (pc := 67) ⟨rfl, hv13, (k14.symm.trans kf), fx13⟩ hv13 dX2_enter_67
        ·
          have k15 := if_f kL (Int.not_le.mpr q1)
          refine go_aload_n (pc := 19) rfl dX2_enter_19 ?_
          refine gi_getF (pc := 20) (q := 66) hvx fL_X2_15 rfl (Nat.le_of_ble_eq_true rfl) rfl (hvx.rf (by decide)) dX2_enter_20 ?_
          refine go_iload (pc := 23) rfl dX2_enter_23 ?_
          refine go_iload (pc := 25) rfl dX2_enter_25 ?_
          refine gf_iadd (pc := 27) (ti_rfl l4) (ti_rfl l5) (by omega) (by omega) dX2_enter_27 (fun v16 e17 => ?_)
          refine go_iconst (pc := 28) (v := 0) (by decide) dX2_enter_28 ?_
          refine gi_iast (pc := 29) (lo := -2147483648) (hi := 2147483647) (len := 186) hvx e17 (ti_c (v := 0) (a := 0) (by decide)) rfl (by omega) (by omega) (fun _ => rfl) (ti_ge (ti_c (v := 0) (a := 0) (by decide))) (ti_le2 (ti_c (v := 0) (a := 0) (by decide))) (by decide) dX2_enter_29 (fun h18 hv18 hv18e => ?_)
          have fx18 : FX KAm h h18 := FX.pI fxx hv18e (by unfold KAm; omega)
          have k19 := bd_e k15 (st_I hv18e (ti_c (v := 0) (a := 0) (by decide)))
          refine gf_iinc (pc := 30) (Nat.le_of_ble_eq_true rfl) rfl (ti_rfl l5) (ti_c (by decide)) (by omega) (by omega) dX2_enter_30 (fun v20 e21 => ?_)
          refine go_lv (lv2 := [(0, .ref 64), (1, .int l1), (2, .int l2), (3, .int l3), (4, .int l4), (5, .int v20)]) rfl ?_
          refine go_goto (pc := 33) (tgt := 12) (by decide) dX2_enter_33 ?_
          have z22 : (v20 : Int32).toInt = (l5.toInt + 1) := e21
          exact go_lv rfl (ih l1 l2 l3 l4 v20 h18 hv18 (by omega) (by omega) (by omega) (by omega) (by omega) (by omega) fx18 (by rw [show (v20 : Int32).toInt = (l5.toInt + 1) from e21]; exact k19) (by omega))
  refine go_aload_n (pc := 0) rfl dX2_enter_0 ?_
  refine gi_get (pc := 1) (lo := 0) (hi := 30) hv fL_X2_21 rfl (Nat.le_of_ble_eq_true rfl) rfl rfl dX2_enter_1 (fun v23 v23l v23u v23w => ?_)
  have k24 := bd_e k0 (congrArg Int32.toInt v23w.symm)
  refine go_bipush (pc := 4) (v := 6) (by decide) dX2_enter_4 ?_
  refine gf_imul (pc := 6) (ti_rfl v23) (ti_c (v := 6) (a := 6) (by decide)) (by omega) (by omega) dX2_enter_6 (fun v25 e26 => ?_)
  refine go_istore (pc := 7) (Nat.le_of_ble_eq_true rfl) dX2_enter_7 (go_lv (lv2 := [(0, .ref 64), (1, .int a2), (2, .int a3), (3, .int a4), (4, .int v25)]) rfl ?_)
  refine go_iconst (pc := 9) (v := 0) (by decide) dX2_enter_9 ?_
  refine go_istore (pc := 10) (Nat.le_of_ble_eq_true rfl) dX2_enter_10 (go_lv (lv2 := [(0, .ref 64), (1, .int a2), (2, .int a3), (3, .int a4), (4, .int v25), (5, .int 0)]) rfl ?_)
  have z27 : (v25 : Int32).toInt = (v23.toInt * 6) := e26
  have z28 : (0 : Int32).toInt = 0 := (ti_c (v := 0) (a := 0) (by decide))
  exact go_lv rfl ((key 37) a2 a3 a4 v25 0 h hv (by omega) (by omega) (by omega) (by omega) (by omega) (by omega) fx (by rw [show (v25 : Int32).toInt = (v23.toInt * 6) from e26, show (0 : Int32).toInt = 0 from (ti_c (v := 0) (a := 0) (by decide))]; exact k24) (by omega))
def f_X2_store2 (s : ST) (a2 : Int) (a3 : Int) : ST :=
  if a2 < 6 then (if a2 < 0 then (s) else (bd (s.1 64 3) fun v6 => bd (sI s 66 (((v6 * 6) + a2)).toNat a3) fun s12 => s12)) else (bd (sI s 65 ((a2 - 6)).toNat a3) fun s17 => s17)
set_option maxHeartbeats 4000000 in
set_option maxRecDepth 100000 in
theorem s_X2_store2_f (l : Launch) (d : Nat) {P : PP} {h : HP} (hv : Iv P h) (a2 : Int32) (a2l : -1 ≤ a2.toInt) (a2u : a2.toInt ≤ 9) (a3 : Int32) : Mt l yX2_store cX2_store 3 none (d + 1) [.ref 64, .int a2, .int a3] h 0 0 (fun r h' => r = none ∧ Iv P h' ∧ (st h' = f_X2_store2 (st h) a2.toInt a3.toInt) ∧ (FX KAm h h')) := by
  refine Mt_iv hv (by decide) (Nat.le_of_ble_eq_true rfl) ?_
  show Go l RX2 cX2_store 3 (g_rm (d + 1) 0 0) "store" none 117 0 0 (fun _ _ => True) (fun r h' => r = none ∧ Iv P h' ∧ (st h' = f_X2_store2 (st h) a2.toInt a3.toInt) ∧ (FX KAm h h')) 0 0 [(0, .ref 64), (1, .int a2), (2, .int a3)] [] h
  have fx : FX KAm h h := FX.rfl
  obtain ⟨fin, kf⟩ : ∃ z, z = f_X2_store2 (st h) a2.toInt a3.toInt := ⟨_, _root_.rfl⟩
  have k0 := kf
  unfold f_X2_store2 at k0
  refine go_iload_n (pc := 0) rfl dX2_store_0 ?_
  refine go_bipush (pc := 1) (v := 6) (by decide) dX2_store_1 ?_
  refine gf_icmp_lt (pc := 3) (tgt := 19) (ti_rfl a2) (ti_c (v := 6) (a := 6) (by decide)) (by decide) dX2_store_3 (fun q1 => ?_) (fun q1 => ?_)
  ·
    have k2 := if_t k0 q1
    refine go_iload_n (pc := 19) rfl dX2_store_19 ?_
    refine gf_if_lt (pc := 20) (tgt := 38) (ti_rfl a2) (by decide) dX2_store_20 (fun q3 => ?_) (fun q3 => ?_)
    ·
      have k4 := if_t k2 q3
      exact gi_vret (pc := 38) ⟨rfl, hv, (k4.symm.trans kf), fx⟩ hv dX2_store_38
    ·
      have k5 := if_f k2 (Int.not_lt.mpr q3)
      refine go_aload_n (pc := 23) rfl dX2_store_23 ?_
      refine gi_getF (pc := 24) (q := 66) hv fL_X2_15 rfl (Nat.le_of_ble_eq_true rfl) rfl (hv.rf (by decide)) dX2_store_24 ?_
      refine go_aload_n (pc := 27) rfl dX2_store_27 ?_
      refine gi_get (pc := 28) (lo := 0) (hi := 30) hv fL_X2_21 rfl (Nat.le_of_ble_eq_true rfl) rfl rfl dX2_store_28 (fun v6 v6l v6u v6w => ?_)
      have k7 := bd_e k5 (congrArg Int32.toInt v6w.symm)
      refine go_bipush (pc := 31) (v := 6) (by decide) dX2_store_31 ?_
      refine gf_imul (pc := 33) (ti_rfl v6) (ti_c (v := 6) (a := 6) (by decide)) (by omega) (by omega) dX2_store_33 (fun v8 e9 => ?_)
      refine go_iload_n (pc := 34) rfl dX2_store_34 ?_
      refine gf_iadd (pc := 35) e9 (ti_rfl a2) (by omega) (by omega) dX2_store_35 (fun v10 e11 => ?_)
      refine go_iload_n (pc := 36) rfl dX2_store_36 ?_
      refine gi_iast (pc := 37) (lo := -2147483648) (hi := 2147483647) (len := 186) hv e11 (ti_rfl a3) rfl (by omega) (by omega) (fun _ => rfl) (ti_ge (ti_rfl a3)) (ti_le2 (ti_rfl a3)) (by decide) dX2_store_37 (fun h12 hv12 hv12e => ?_)
      have fx12 : FX KAm h h12 := FX.pI fx hv12e (by unfold KAm; omega)
      have k13 := bd_e k7 (st_I hv12e (ti_rfl a3))
      exact gi_vret (pc := 38) ⟨rfl, hv12, (k13.symm.trans kf), fx12⟩ hv12 dX2_store_38
  ·
    have k14 := if_f k0 (Int.not_lt.mpr q1)
    refine go_aload_n (pc := 6) rfl dX2_store_6 ?_
    refine gi_getF (pc := 7) (q := 65) hv fL_X2_9 rfl (Nat.le_of_ble_eq_true rfl) rfl (hv.rf (by decide)) dX2_store_7 ?_
    refine go_iload_n (pc := 10) rfl dX2_store_10 ?_
    refine go_bipush (pc := 11) (v := 6) (by decide) dX2_store_11 ?_
    refine gf_isub (pc := 13) (ti_rfl a2) (ti_c (v := 6) (a := 6) (by decide)) (by omega) (by omega) dX2_store_13 (fun v15 e16 => ?_)
    refine go_iload_n (pc := 14) rfl dX2_store_14 ?_
    refine gi_iast (pc := 15) (lo := -2147483648) (hi := 2147483647) (len := 4) hv e16 (ti_rfl a3) rfl (by omega) (by omega) (fun _ => rfl) (ti_ge (ti_rfl a3)) (ti_le2 (ti_rfl a3)) (by decide) dX2_store_15 (fun h17 hv17 hv17e => ?_)
    have fx17 : FX KAm h h17 := FX.pI fx hv17e (by unfold KAm; omega)
    have k18 := bd_e k14 (st_I hv17e (ti_rfl a3))
    refine go_goto (pc := 16) (tgt := 38) (by decide) dX2_store_16 ?_
    exact gi_vret (pc := 38) ⟨rfl, hv17, (k18.symm.trans kf), fx17⟩ hv17 dX2_store_38
def f_X2_see2 (s : ST) (a2 : Int) (a3 : Int) : ST :=
  bd (s.1 64 10) fun v1 => if 500 ≤ v1 then (s) else (bd (sI s 68 (v1).toNat a2) fun s7 => bd (sI s7 69 (v1).toNat a3) fun s10 => bd (sI s10 64 10 ((v1 + 1))) fun s15 => s15)
set_option maxHeartbeats 4000000 in
set_option maxRecDepth 100000 in
theorem s_X2_see2_f (l : Launch) (d : Nat) {P : PP} {h : HP} (hv : Iv P h) (a2 : Int32) (a3 : Int32) : Mt l yX2_see cX2_see 3 none (d + 1) [.ref 64, .int a2, .int a3] h 0 0 (fun r h' => r = none ∧ Iv P h' ∧ (st h' = f_X2_see2 (st h) a2.toInt a3.toInt) ∧ (FX KAm h h')) := by
  refine Mt_iv hv (by decide) (Nat.le_of_ble_eq_true rfl) ?_
  show Go l RX2 cX2_see 3 (g_rm (d + 1) 0 0) "see" none 117 0 0 (fun _ _ => True) (fun r h' => r = none ∧ Iv P h' ∧ (st h' = f_X2_see2 (st h) a2.toInt a3.toInt) ∧ (FX KAm h h')) 0 0 [(0, .ref 64), (1, .int a2), (2, .int a3)] [] h
  have fx : FX KAm h h := FX.rfl
  obtain ⟨fin, kf⟩ : ∃ z, z = f_X2_see2 (st h) a2.toInt a3.toInt := ⟨_, _root_.rfl⟩
  have k0 := kf
  unfold f_X2_see2 at k0
  refine go_aload_n (pc := 0) rfl dX2_see_0 ?_
  refine gi_get (pc := 1) (lo := 0) (hi := 500) hv fL_X2_43 rfl (Nat.le_of_ble_eq_true rfl) rfl rfl dX2_see_1 (fun v1 v1l v1u v1w => ?_)
  have k2 := bd_e k0 (congrArg Int32.toInt v1w.symm)
  refine go_sipush (pc := 4) (v := 500) (by decide) dX2_see_4 ?_
  refine gf_icmp_ge (pc := 7) (tgt := 40) (ti_rfl v1) (ti_c (v := 500) (a := 500) (by decide)) (by decide) dX2_see_7 (fun q3 => ?_) (fun q3 => ?_)
  ·
    have k4 := if_t k2 q3
    exact gi_vret (pc := 40) ⟨rfl, hv, (k4.symm.trans kf), fx⟩ hv dX2_see_40
  ·
    have k5 := if_f k2 (Int.not_le.mpr q3)
    refine go_aload_n (pc := 10) rfl dX2_see_10 ?_
    refine gi_getF (pc := 11) (q := 68) hv fL_X2_37 rfl (Nat.le_of_ble_eq_true rfl) rfl (hv.rf (by decide)) dX2_see_11 ?_
    refine go_aload_n (pc := 14) rfl dX2_see_14 ?_
    refine gi_get (pc := 15) (lo := 0) (hi := 500) hv fL_X2_43 rfl (Nat.le_of_ble_eq_true rfl) rfl rfl dX2_see_15 (fun v6 v6l v6u v6w => ?_)
    have v6r : v1 = h.2.1 64 10 := v1w
    have v6q : TI v6 v1.toInt := by rw [v6w.trans v6r.symm]; exact (ti_rfl v1)
    refine go_iload_n (pc := 18) rfl dX2_see_18 ?_
    refine gi_iast (pc := 19) (lo := -2147483648) (hi := 2147483647) (len := 500) hv v6q (ti_rfl a2) rfl (by omega) (by omega) (fun _ => rfl) (ti_ge (ti_rfl a2)) (ti_le2 (ti_rfl a2)) (by decide) dX2_see_19 (fun h7 hv7 hv7e => ?_)
    have fx7 : FX KAm h h7 := FX.pI fx hv7e (by unfold KAm; omega)
    have k8 := bd_e k5 (st_I hv7e (ti_rfl a2))
    refine go_aload_n (pc := 20) rfl dX2_see_20 ?_
    refine gi_getF (pc := 21) (q := 69) hv7 fL_X2_40 rfl (Nat.le_of_ble_eq_true rfl) rfl (hv7.rf (by decide)) dX2_see_21 ?_
    refine go_aload_n (pc := 24) rfl dX2_see_24 ?_
    refine gi_get (pc := 25) (lo := 0) (hi := 500) hv7 fL_X2_43 rfl (Nat.le_of_ble_eq_true rfl) rfl rfl dX2_see_25 (fun v9 v9l v9u v9w => ?_)
    have v9r : v1 = h7.2.1 64 10 := (show v1 = h7.2.1 64 10 from by rw [hv7e]; exact (g_iI rfl v1w.symm).symm)
    have v9q : TI v9 v1.toInt := by rw [v9w.trans v9r.symm]; exact (ti_rfl v1)
    refine go_iload_n (pc := 28) rfl dX2_see_28 ?_
    refine gi_iast (pc := 29) (lo := -2147483648) (hi := 2147483647) (len := 500) hv7 v9q (ti_rfl a3) rfl (by omega) (by omega) (fun _ => rfl) (ti_ge (ti_rfl a3)) (ti_le2 (ti_rfl a3)) (by decide) dX2_see_29 (fun h10 hv10 hv10e => ?_)
    have fx10 : FX KAm h h10 := FX.pI fx7 hv10e (by unfold KAm; omega)
    have k11 := bd_e k8 (st_I hv10e (ti_rfl a3))
    refine go_aload_n (pc := 30) rfl dX2_see_30 ?_
    refine go_dup (pc := 31) rfl dX2_see_31 ?_
    refine gi_get (pc := 32) (lo := 0) (hi := 500) hv10 fL_X2_43 rfl (Nat.le_of_ble_eq_true rfl) rfl rfl dX2_see_32 (fun v12 v12l v12u v12w => ?_)
    have v12r : v1 = h10.2.1 64 10 := (show v1 = h10.2.1 64 10 from by rw [hv10e]; exact (g_iI rfl (show v1 = h7.2.1 64 10 from by rw [hv7e]; exact (g_iI rfl v1w.symm).symm).symm).symm)
    have v12q : TI v12 v1.toInt := by rw [v12w.trans v12r.symm]; exact (ti_rfl v1)
    refine go_iconst (pc := 35) (v := 1) (by decide) dX2_see_35 ?_
    refine gf_iadd (pc := 36) v12q (ti_c (v := 1) (a := 1) (by decide)) (by omega) (by omega) dX2_see_36 (fun v13 e14 => ?_)
    refine gi_put (pc := 37) (lo := 0) (hi := 500) hv10 e14 (fP_X2_43 _) rfl (Nat.le_of_ble_eq_true rfl) rfl rfl (by omega) (by omega) rfl rfl (by decide) (by decide) (by decide) (by decide) dX2_see_37 (fun h15 hv15 hv15e => ?_)
    have fx15 : FX KAm h h15 := FX.pI fx10 hv15e (by unfold KAm; omega)
    have k16 := bd_e k11 (st_I hv15e e14)
    exact gi_vret (pc := 40) ⟨rfl, hv15, (k16.symm.trans kf), fx15⟩ hv15 dX2_see_40
def f_X2_compute2 (s : ST) (a2 : Int) : Int :=
  bd (s.2.2 64 11) fun c1 => bd (s.1 (c1 + 9) (a2).toNat) fun v3 => bd (f_X2_load2 s v3) fun v7 => bd (s.2.2 64 11) fun c9 => bd (s.1 (c9 + 10) (a2).toNat) fun v11 => bd (f_X2_load2 s v11) fun v15 => bd (s.2.2 64 11) fun c17 => bd (s.1 (c17 + 8) (a2).toNat) fun v19 => if v19 = 42 then (bd (o_imul v7 v15) fun v23 => v23) else if v19 = 43 then (bd (o_iadd v7 v15) fun v28 => v28) else if v19 = 45 then (bd (o_isub v7 v15) fun v33 => v33) else if v19 = 60 then (if v15 ≤ v7 then (0) else (1)) else v7
set_option maxHeartbeats 4000000 in
set_option maxRecDepth 100000 in
theorem s_X2_compute2_f (l : Launch) (d : Nat) {P : PP} {h : HP} (hv : Iv P h) (a2 : Int32) (a2l : 0 ≤ a2.toInt) (a2u : a2.toInt ≤ 39) : Mt l yX2_compute cX2_compute 4 (some .int) (d + 2) [.ref 64, .int a2] h 0 0 (fun r h' => ∃ v : Int32, r = some (.int v) ∧ -2147483648 ≤ v.toInt ∧ v.toInt ≤ 2147483647 ∧ h = h' ∧ (v.toInt = f_X2_compute2 (st h) a2.toInt)) := by
  refine Mt_iv hv (by decide) (Nat.le_of_ble_eq_true rfl) ?_
  show Go l RX2 cX2_compute 4 (g_rm (d + 2) 0 0) "compute" (some .int) 117 0 0 (fun _ _ => True) (fun r h' => ∃ v : Int32, r = some (.int v) ∧ -2147483648 ≤ v.toInt ∧ v.toInt ≤ 2147483647 ∧ h = h' ∧ (v.toInt = f_X2_compute2 (st h) a2.toInt)) 0 0 [(0, .ref 64), (1, .int a2)] [] h
  obtain ⟨fin, kf⟩ : ∃ z, z = f_X2_compute2 (st h) a2.toInt := ⟨_, _root_.rfl⟩
  have k0 := kf
  unfold f_X2_compute2 at k0
  refine go_aload_n (pc := 0) rfl dX2_compute_0 ?_
  refine go_aload_n (pc := 1) rfl dX2_compute_1 ?_
  refine gi_getC (pc := 2) hv fL_X2_50 rfl (Nat.le_of_ble_eq_true rfl) rfl (by decide) dX2_compute_2 (fun c1 hc1 fc1 => ?_)
  have k2 := bd_e k0 (st_c fc1)
  refine gi_getF (pc := 5) (q := c1 + 9) hv fL_X2_111 (by rcases hc1 with rfl | rfl <;> rfl) (Nat.le_of_ble_eq_true rfl) rfl (by rcases hc1 with rfl | rfl <;> exact hv.rf (by decide)) dX2_compute_5 ?_
  refine go_iload_n (pc := 8) rfl dX2_compute_8 ?_
  refine gi_iald (pc := 9) (lo := -2147483648) (hi := 2147483647) (len := 40) hv (ti_rfl a2) (by rcases hc1 with rfl | rfl <;> rfl) (by omega) (by omega) (fun _ => by rcases hc1 with rfl | rfl <;> rfl) dX2_compute_9 (fun v3 v3l v3u v3w => ?_)
  have k4 := bd_e k2 (congrArg Int32.toInt v3w.symm)
  refine go_invV (pc := 10) (sl := 0) (s_X2_load2_f l (d + 0) hv v3) mL_X2_114 iM_X2_load sM_X2_load (hv.sh rfl) rfl rfl rfl (Nat.le_of_ble_eq_true rfl) (show d + 0 + 1 + 1 ≤ d + 2 by omega) (show 8 + (2 + 11) + 40 * (d + 0 + 1) ≤ 40 * (d + 2) by omega) (g_c0 hv.ln) (Nat.le_of_ble_eq_true rfl) dX2_compute_10 ?_
  intro r h5 hq _
  obtain ⟨v7, rfl, v7l, v7u, rfl, f6⟩ := hq
  replace f6 : PE _ _ := f6
  have k8 := bd_e k4 f6.symm
  refine go_istore_n (pc := 13) (Nat.le_of_ble_eq_true rfl) dX2_compute_13 (go_lv (lv2 := [(0, .ref 64), (1, .int a2), (2, .int v7)]) rfl ?_)
  refine go_aload_n (pc := 14) rfl dX2_compute_14 ?_
  refine go_aload_n (pc := 15) rfl dX2_compute_15 ?_
  refine gi_getC (pc := 16) hv fL_X2_50 rfl (Nat.le_of_ble_eq_true rfl) rfl (by decide) dX2_compute_16 (fun c9 hc9 fc9 => ?_)
  have k10 := bd_e k8 (st_c fc9)
  refine gi_getF (pc := 19) (q := c9 + 10) hv fL_X2_120 (by rcases hc9 with rfl | rfl <;> rfl) (Nat.le_of_ble_eq_true rfl) rfl (by rcases hc9 with rfl | rfl <;> exact hv.rf (by decide)) dX2_compute_19 ?_
  refine go_iload_n (pc := 22) rfl dX2_compute_22 ?_
  refine gi_iald (pc := 23) (lo := -2147483648) (hi := 2147483647) (len := 40) hv (ti_rfl a2) (by rcases hc9 with rfl | rfl <;> rfl) (by omega) (by omega) (fun _ => by rcases hc9 with rfl | rfl <;> rfl) dX2_compute_23 (fun v11 v11l v11u v11w => ?_)
  have k12 := bd_e k10 (congrArg Int32.toInt v11w.symm)
  refine go_invV (pc := 24) (sl := 0) (s_X2_load2_f l (d + 0) hv v11) mL_X2_114 iM_X2_load sM_X2_load (hv.sh rfl) rfl rfl rfl (Nat.le_of_ble_eq_true rfl) (show d + 0 + 1 + 1 ≤ d + 2 by omega) (show 8 + (2 + 11) + 40 * (d + 0 + 1) ≤ 40 * (d + 2) by omega) (g_c0 hv.ln) (Nat.le_of_ble_eq_true rfl) dX2_compute_24 ?_
  intro r h13 hq _
  obtain ⟨v15, rfl, v15l, v15u, rfl, f14⟩ := hq
  replace f14 : PE _ _ := f14
  have k16 := bd_e k12 f14.symm
  refine go_istore_n (pc := 27) (Nat.le_of_ble_eq_true rfl) dX2_compute_27 (go_lv (lv2 := [(0, .ref 64), (1, .int a2), (2, .int v7), (3, .int v15)]) rfl ?_)
  refine go_aload_n (pc := 28) rfl dX2_compute_28 ?_
  refine gi_getC (pc := 29) hv fL_X2_50 rfl (Nat.le_of_ble_eq_true rfl) rfl (by decide) dX2_compute_29 (fun c17 hc17 fc17 => ?_)
  have k18 := bd_e k16 (st_c fc17)
  refine gi_getF (pc := 32) (q := c17 + 8) hv fL_X2_126 (by rcases hc17 with rfl | rfl <;> rfl) (Nat.le_of_ble_eq_true rfl) rfl (by rcases hc17 with rfl | rfl <;> exact hv.rf (by decide)) dX2_compute_32 ?_
  refine go_iload_n (pc := 35) rfl dX2_compute_35 ?_
  refine gi_iald (pc := 36) (lo := -2147483648) (hi := 2147483647) (len := 40) hv (ti_rfl a2) (by rcases hc17 with rfl | rfl <;> rfl) (by omega) (by omega) (fun _ => by rcases hc17 with rfl | rfl <;> rfl) dX2_compute_36 (fun v19 v19l v19u v19w => ?_)
  have k20 := bd_e k18 (congrArg Int32.toInt v19w.symm)
  by_cases q21 : v19.toInt = 42
  ·
    refine go_lookup (pc := 37) (tgt := 88) (off := 51) (by decide) (by rw [show (v19 : Int32).toInt = v19.toInt from (ti_rfl v19), q21]; decide) (by decide) dX2_compute_37 ?_
    have k22 := if_t k20 q21
    refine go_iload_n (pc := 88) rfl dX2_compute_88 ?_
    refine go_iload_n (pc := 89) rfl dX2_compute_89 ?_
    refine gx_imul (pc := 90) dX2_compute_90 (fun v23 v23x => ?_)
    have k24 := bd_e k22 (so_imul (ti_rfl v7) (ti_rfl v15) v23x)
    exact gi_iret (pc := 91) (ti_rfl v23) ⟨_, rfl, (ti_lo _), (ti_hi _), rfl, (k24.symm.trans kf)⟩ hv dX2_compute_91
  have k25 := if_f k20 q21
  by_cases q26 : v19.toInt = 43
  ·
    refine go_lookup (pc := 37) (tgt := 80) (off := 43) (by decide) (by rw [show (v19 : Int32).toInt = v19.toInt from (ti_rfl v19), q26]; decide) (by decide) dX2_compute_37 ?_
    have k27 := if_t k25 q26
    refine go_iload_n (pc := 80) rfl dX2_compute_80 ?_
    refine go_iload_n (pc := 81) rfl dX2_compute_81 ?_
    refine gx_iadd (pc := 82) dX2_compute_82 (fun v28 v28x => ?_)
    have k29 := bd_e k27 (so_iadd (ti_rfl v7) (ti_rfl v15) v28x)
    exact gi_iret (pc := 83) (ti_rfl v28) ⟨_, rfl, (ti_lo _), (ti_hi _), rfl, (k29.symm.trans kf)⟩ hv dX2_compute_83
  have k30 := if_f k25 q26
  by_cases q31 : v19.toInt = 45
  ·
    refine go_lookup (pc := 37) (tgt := 84) (off := 47) (by decide) (by rw [show (v19 : Int32).toInt = v19.toInt from (ti_rfl v19), q31]; decide) (by decide) dX2_compute_37 ?_
    have k32 := if_t k30 q31
    refine go_iload_n (pc := 84) rfl dX2_compute_84 ?_
    refine go_iload_n (pc := 85) rfl dX2_compute_85 ?_
    refine gx_isub (pc := 86) dX2_compute_86 (fun v33 v33x => ?_)
    have k34 := bd_e k32 (so_isub (ti_rfl v7) (ti_rfl v15) v33x)
    exact gi_iret (pc := 87) (ti_rfl v33) ⟨_, rfl, (ti_lo _), (ti_hi _), rfl, (k34.symm.trans kf)⟩ hv dX2_compute_87
  have k35 := if_f k30 q31
  by_cases q36 : v19.toInt = 60
  ·
    refine go_lookup (pc := 37) (tgt := 92) (off := 55) (by decide) (by rw [show (v19 : Int32).toInt = v19.toInt from (ti_rfl v19), q36]; decide) (by decide) dX2_compute_37 ?_
    have k37 := if_t k35 q36
    refine go_iload_n (pc := 92) rfl dX2_compute_92 ?_
    refine go_iload_n (pc := 93) rfl dX2_compute_93 ?_
    refine gf_icmp_ge (pc := 94) (tgt := 101) (ti_rfl v7) (ti_rfl v15) (by decide) dX2_compute_94 (fun q38 => ?_) (fun q38 => ?_)
    ·
      have k39 := if_t k37 q38
      refine go_iconst (pc := 101) (v := 0) (by decide) dX2_compute_101 ?_
      exact gi_iret (pc := 102) (ti_c (v := 0) (a := 0) (by decide)) ⟨_, rfl, (ti_lo _), (ti_hi _), rfl, (by rw [show (0 : Int32).toInt = 0 from (ti_c (v := 0) (a := 0) (by decide))]; exact k39.symm.trans kf)⟩ hv dX2_compute_102
    ·
      have k40 := if_f k37 (Int.not_le.mpr q38)
      refine go_iconst (pc := 97) (v := 1) (by decide) dX2_compute_97 ?_
      refine go_goto (pc := 98) (tgt := 102) (by decide) dX2_compute_98 ?_
      exact gi_iret (pc := 102) (ti_c (v := 1) (a := 1) (by decide)) ⟨_, rfl, (ti_lo _), (ti_hi _), rfl, (by rw [show (1 : Int32).toInt = 1 from (ti_c (v := 1) (a := 1) (by decide))]; exact k40.symm.trans kf)⟩ hv dX2_compute_102
  have k41 := if_f k35 q36
  refine go_lookup (pc := 37) (tgt := 103) (off := 66) (by decide) (by rw [show (v19 : Int32).toInt = v19.toInt from (ti_rfl v19)]; simp [Op.lookupswitch.offset]; (repeat rw [if_neg (by omega)])) (by decide) dX2_compute_37 ?_
  refine go_iload_n (pc := 103) rfl dX2_compute_103 ?_
  exact gi_iret (pc := 104) (ti_rfl v7) ⟨_, rfl, (ti_lo _), (ti_hi _), rfl, (k41.symm.trans kf)⟩ hv dX2_compute_104
def f_X2_leave2_ : Nat → Nat → Int → Int → Int → Int → ST → ST
  | 0, _, _, _, _, _, sx => sx
  | n + 1, _, l1, l2, l3, l4, sx => if 31 ≤ l4 then (if ¬ l3 = 0 then (sx) else (if l2 = 0 then (bd (sI sx 64 6 0) fun s8 => bd (sI s8 64 7 l1) fun s10 => s10) else (bd (sI sx 64 6 1) fun s13 => bd (sI s13 64 7 l1) fun s15 => s15))) else (bd (sx.1 64 3) fun v18 => if v18 ≤ 0 then (if ¬ l3 = 0 then (sx) else (if l2 = 0 then (bd (sI sx 64 6 0) fun s27 => bd (sI s27 64 7 l1) fun s29 => s29) else (bd (sI sx 64 6 1) fun s32 => bd (sI s32 64 7 l1) fun s34 => s34))) else (if ¬ l3 = 0 then (sx) else (bd (sx.1 67 (v18).toNat) fun v42 => bd (sI sx 64 3 ((v18 - 1))) fun s47 => bd (f_X2_see2 s47 v42 l1) fun s49 => if l2 = 0 then (bd (s49.2.2 64 11) fun c57 => bd (s49.1 (c57 + 6) (v42).toNat) fun v59 => bd (f_X2_store2 s49 v59 l1) fun s61 => bd (s61.2.2 64 11) fun c66 => bd (s61.1 (c66 + 12) (v42).toNat) fun v68 => bd (sI s61 64 4 v68) fun s70 => f_X2_leave2_ n 5 l1 l2 1 ((l4 + 1)) s70) else (bd (s49.2.2 64 11) fun c77 => bd (s49.1 (c77 + 14) (v42).toNat) fun v79 => if v79 < 0 then (f_X2_leave2_ n 5 l1 l2 0 ((l4 + 1)) s49) else (bd (s49.2.2 64 11) fun c91 => bd (s49.1 (c91 + 14) (v42).toNat) fun v93 => bd (f_X2_store2 s49 v93 l1) fun s95 => bd (s95.2.2 64 11) fun c100 => bd (s95.1 (c100 + 13) (v42).toNat) fun v102 => bd (sI s95 64 4 v102) fun s104 => f_X2_leave2_ n 5 l1 l2 1 ((l4 + 1)) s104)))))
def f_X2_leave2 (s : ST) (a2 : Int) (a3 : Int) : ST :=
  f_X2_leave2_ 112 5 a2 a3 0 0 s
set_option maxHeartbeats 4000000 in
set_option maxRecDepth 100000 in
theorem s_X2_leave2_f (l : Launch) (d : Nat) {P : PP} {h : HP} (hv : Iv P h) (a2 : Int32) (a3 : Int32) (a3l : 0 ≤ a3.toInt) (a3u : a3.toInt ≤ 1) : Mt l yX2_leave cX2_leave 6 none (d + 2) [.ref 64, .int a2, .int a3] h 0 0 (fun r h' => r = none ∧ Iv P h' ∧ (st h' = f_X2_leave2 (st h) a2.toInt a3.toInt) ∧ (FX KAm h h')) := by
  refine Mt_iv hv (by decide) (Nat.le_of_ble_eq_true rfl) ?_
  show Go l RX2 cX2_leave 6 (g_rm (d + 2) 0 0) "leave" none 117 0 0 (fun _ _ => True) (fun r h' => r = none ∧ Iv P h' ∧ (st h' = f_X2_leave2 (st h) a2.toInt a3.toInt) ∧ (FX KAm h h')) 0 0 [(0, .ref 64), (1, .int a2), (2, .int a3)] [] h
  have fx : FX KAm h h := FX.rfl
  obtain ⟨fin, kf⟩ : ∃ z, z = f_X2_leave2 (st h) a2.toInt a3.toInt := ⟨_, _root_.rfl⟩
  have k0 := kf
  unfold f_X2_leave2 at k0
  have key : ∀ n : Nat, (∀ (l1 : Int32) (l2 : Int32) (l3 : Int32) (l4 : Int32) (hx : HP), Iv P hx → 0 ≤ l2.toInt → l2.toInt ≤ 1 → 0 ≤ l3.toInt → l3.toInt ≤ 1 → 0 ≤ l4.toInt → l4.toInt ≤ 31 → FX KAm h hx → fin = f_X2_leave2_ n 5 l1.toInt l2.toInt l3.toInt l4.toInt (st hx) → (3 * (31 - l4.toInt) + 2 : Int) < n → Go l RX2 cX2_leave 6 (g_rm (d + 2) 0 0) "leave" none 117 0 0 (fun _ _ => True) (fun r h' => r = none ∧ Iv P h' ∧ (st h' = f_X2_leave2 (st h) a2.toInt a3.toInt) ∧ (FX KAm h h')) 0 5 [(0, .ref 64), (1, .int l1), (2, .int l2), (3, .int l3), (4, .int l4)] [] hx) := by
    intro n
    induction n with
    | zero => exact (by intros; omega)
    | succ n ih =>
      refine ?_
      ·
        intro l1 l2 l3 l4 hx hvx l2l l2u l3l l3u l4l l4u fxx kL hm
        rw [f_X2_leave2_] at kL
        refine go_iload (pc := 5) rfl dX2_leave_5 ?_
        refine go_bipush (pc := 7) (v := 31) (by decide) dX2_leave_7 ?_
        refine gf_icmp_ge (pc := 9) (tgt := 147) (ti_rfl l4) (ti_c (v := 31) (a := 31) (by decide)) (by decide) dX2_leave_9 (fun q1 => ?_) (fun q1 => ?_)
        ·
          have k2 := if_t kL q1
          refine go_iload_n (pc := 147) rfl dX2_leave_147 ?_
          refine gf_if_ne (pc := 148) (tgt := 169) (ti_rfl l3) (by decide) dX2_leave_148 (fun q3 => ?_) (fun q3 => ?_)
          ·
            have k4 := if_t k2 q3
            exact gi_vret (pc := 169) ⟨rfl, hvx, (k4.symm.trans kf), fxx⟩ hvx dX2_leave_169
          ·
            have k5 := if_f k2 (fun z => z q3)
            refine go_aload_n (pc := 151) rfl dX2_leave_151 ?_
            refine go_iload_n (pc := 152) rfl dX2_leave_152 ?_
            refine gf_if_eq (pc := 153) (tgt := 160) (ti_rfl l2) (by decide) dX2_leave_153 (fun q6 => ?_) (fun q6 => ?_)
            ·
              have k7 := if_t k5 q6
              refine go_iconst (pc := 160) (v := 0) (by decide) dX2_leave_160 ?_
              refine gi_put (pc := 161) (lo := -1) (hi := 3) hvx (ti_c (v := 0) (a := 0) (by decide)) (fP_X2_31 _) rfl (Nat.le_of_ble_eq_true rfl) rfl rfl (by omega) (by omega) rfl rfl (by decide) (by decide) (by decide) (by decide) dX2_leave_161 (fun h8 hv8 hv8e => ?_)
              have fx8 : FX KAm h h8 := FX.pI fxx hv8e (by unfold KAm; omega)
              have k9 := bd_e k7 (st_I hv8e (ti_c (v := 0) (a := 0) (by decide)))
              refine go_aload_n (pc := 164) rfl dX2_leave_164 ?_
              refine go_iload_n (pc := 165) rfl dX2_leave_165 ?_
              refine gi_put (pc := 166) (lo := -2147483648) (hi := 2147483647) hv8 (ti_rfl l1) (fP_X2_34 _) rfl (Nat.le_of_ble_eq_true rfl) rfl rfl (ti_ge (ti_rfl l1)) (ti_le2 (ti_rfl l1)) rfl rfl (by decide) (by decide) (by decide) (by decide) dX2_leave_166 (fun h10 hv10 hv10e => ?_)
              have fx10 : FX KAm h h10 := FX.pI fx8 hv10e (by unfold KAm; omega)
              have k11 := bd_e k9 (st_I hv10e (ti_rfl l1))
              exact gi_vret (pc := 169) ⟨rfl, hv10, (k11.symm.trans kf), fx10⟩ hv10 dX2_leave_169
            ·
              have k12 := if_f k5 q6
              refine go_iconst (pc := 156) (v := 1) (by decide) dX2_leave_156 ?_
              refine go_goto (pc := 157) (tgt := 161) (by decide) dX2_leave_157 ?_
              refine gi_put (pc := 161) (lo := -1) (hi := 3) hvx (ti_c (v := 1) (a := 1) (by decide)) (fP_X2_31 _) rfl (Nat.le_of_ble_eq_true rfl) rfl rfl (by omega) (by omega) rfl rfl (by decide) (by decide) (by decide) (by decide) dX2_leave_161 (fun h13 hv13 hv13e => ?_)
              have fx13 : FX KAm h h13 := FX.pI fxx hv13e (by unfold KAm; omega)
              have k14 := bd_e k12 (st_I hv13e (ti_c (v := 1) (a := 1) (by decide)))
              refine go_aload_n (pc := 164) rfl dX2_leave_164 ?_
              refine go_iload_n (pc := 165) rfl dX2_leave_165 ?_
              refine gi_put (pc := 166) (lo := -2147483648) (hi := 2147483647) hv13 (ti_rfl l1) (fP_X2_34 _) rfl (Nat.le_of_ble_eq_true rfl) rfl rfl (ti_ge (ti_rfl l1)) (ti_le2 (ti_rfl l1)) rfl rfl (by decide) (by decide) (by decide) (by decide) dX2_leave_166 (fun h15 hv15 hv15e => ?_)
              have fx15 : FX KAm h h15 := FX.pI fx13 hv15e (by unfold KAm; omega)
              have k16 := bd_e k14 (st_I hv15e (ti_rfl l1))
              exact gi_vret (pc := 169) ⟨rfl, hv15, (k16.symm.trans kf), fx15⟩ hv15 dX2_leave_169
        ·
          have k17 := if_f kL (Int.not_le.mpr q1)
          refine go_aload_n (pc := 12) rfl dX2_leave_12 ?_
          refine gi_get (pc := 13) (lo := 0) (hi := 30) hvx fL_X2_21 rfl (Nat.le_of_ble_eq_true rfl) rfl rfl dX2_leave_13 (fun v18 v18l v18u v18w => ?_)
          have k19 := bd_e k17 (congrArg Int32.toInt v18w.symm)
          refine gf_if_le (pc := 16) (tgt := 147) (ti_rfl v18) (by decide) dX2_leave_16 (fun q20 => ?_) (fun q20 => ?_)
          ·
            have k21 := if_t k19 q20
            refine go_iload_n (pc := 147) rfl dX2_leave_147 ?_
            refine gf_if_ne (pc := 148) (tgt := 169) (ti_rfl l3) (by decide) dX2_leave_148 (fun q22 => ?_) (fun q22 => ?_)
            ·
              have k23 := if_t k21 q22
              exact gi_vret (pc := 169) ⟨rfl, hvx, (k23.symm.trans kf), fxx⟩ hvx dX2_leave_169
            ·
              have k24 := if_f k21 (fun z => z q22)
              refine go_aload_n (pc := 151) rfl dX2_leave_151 ?_
              refine go_iload_n (pc := 152) rfl dX2_leave_152 ?_
              refine gf_if_eq (pc := 153) (tgt := 160) (ti_rfl l2) (by decide) dX2_leave_153 (fun q25 => ?_) (fun q25 => ?_)
              ·
                have k26 := if_t k24 q25
                refine go_iconst (pc := 160) (v := 0) (by decide) dX2_leave_160 ?_
                refine gi_put (pc := 161) (lo := -1) (hi := 3) hvx (ti_c (v := 0) (a := 0) (by decide)) (fP_X2_31 _) rfl (Nat.le_of_ble_eq_true rfl) rfl rfl (by omega) (by omega) rfl rfl (by decide) (by decide) (by decide) (by decide) dX2_leave_161 (fun h27 hv27 hv27e => ?_)
                have fx27 : FX KAm h h27 := FX.pI fxx hv27e (by unfold KAm; omega)
                have k28 := bd_e k26 (st_I hv27e (ti_c (v := 0) (a := 0) (by decide)))
                refine go_aload_n (pc := 164) rfl dX2_leave_164 ?_
                refine go_iload_n (pc := 165) rfl dX2_leave_165 ?_
                refine gi_put (pc := 166) (lo := -2147483648) (hi := 2147483647) hv27 (ti_rfl l1) (fP_X2_34 _) rfl (Nat.le_of_ble_eq_true rfl) rfl rfl (ti_ge (ti_rfl l1)) (ti_le2 (ti_rfl l1)) rfl rfl (by decide) (by decide) (by decide) (by decide) dX2_leave_166 (fun h29 hv29 hv29e => ?_)
                have fx29 : FX KAm h h29 := FX.pI fx27 hv29e (by unfold KAm; omega)
                have k30 := bd_e k28 (st_I hv29e (ti_rfl l1))
                exact gi_vret (pc := 169) ⟨rfl, hv29, (k30.symm.trans kf), fx29⟩ hv29 dX2_leave_169
              ·
                have k31 := if_f k24 q25
                refine go_iconst (pc := 156) (v := 1) (by decide) dX2_leave_156 ?_
                refine go_goto (pc := 157) (tgt := 161) (by decide) dX2_leave_157 ?_
                refine gi_put (pc := 161) (lo := -1) (hi := 3) hvx (ti_c (v := 1) (a := 1) (by decide)) (fP_X2_31 _) rfl (Nat.le_of_ble_eq_true rfl) rfl rfl (by omega) (by omega) rfl rfl (by decide) (by decide) (by decide) (by decide) dX2_leave_161 (fun h32 hv32 hv32e => ?_)
                have fx32 : FX KAm h h32 := FX.pI fxx hv32e (by unfold KAm; omega)
                have k33 := bd_e k31 (st_I hv32e (ti_c (v := 1) (a := 1) (by decide)))
                refine go_aload_n (pc := 164) rfl dX2_leave_164 ?_
                refine go_iload_n (pc := 165) rfl dX2_leave_165 ?_
                refine gi_put (pc := 166) (lo := -2147483648) (hi := 2147483647) hv32 (ti_rfl l1) (fP_X2_34 _) rfl (Nat.le_of_ble_eq_true rfl) rfl rfl (ti_ge (ti_rfl l1)) (ti_le2 (ti_rfl l1)) rfl rfl (by decide) (by decide) (by decide) (by decide) dX2_leave_166 (fun h34 hv34 hv34e => ?_)
                have fx34 : FX KAm h h34 := FX.pI fx32 hv34e (by unfold KAm; omega)
                have k35 := bd_e k33 (st_I hv34e (ti_rfl l1))
                exact gi_vret (pc := 169) ⟨rfl, hv34, (k35.symm.trans kf), fx34⟩ hv34 dX2_leave_169
          ·
            have k36 := if_f k19 (Int.not_le.mpr q20)
            refine go_iload_n (pc := 19) rfl dX2_leave_19 ?_
            refine gf_if_ne (pc := 20) (tgt := 147) (ti_rfl l3) (by decide) dX2_leave_20 (fun q37 => ?_) (fun q37 => ?_)
            ·
              have k38 := if_t k36 q37
              refine go_iload_n (pc := 147) rfl dX2_leave_147 ?_
              refine gf_if_ne (pc := 148) (tgt := 169) (ti_rfl l3) (by decide) dX2_leave_148 (fun q39 => ?_) (fun q39 => False.elim (by omega))
              exact gi_vret (pc := 169) ⟨rfl, hvx, (k38.symm.trans kf), fxx⟩ hvx dX2_leave_169
            ·
              have k40 := if_f k36 (fun z => z q37)
              refine go_aload_n (pc := 23) rfl dX2_leave_23 ?_
              refine gi_getF (pc := 24) (q := 67) hvx fL_X2_18 rfl (Nat.le_of_ble_eq_true rfl) rfl (hvx.rf (by decide)) dX2_leave_24 ?_
              refine go_aload_n (pc := 27) rfl dX2_leave_27 ?_
              refine gi_get (pc := 28) (lo := 0) (hi := 30) hvx fL_X2_21 rfl (Nat.le_of_ble_eq_true rfl) rfl rfl dX2_leave_28 (fun v41 v41l v41u v41w => ?_)
              have v41r : v18 = hx.2.1 64 3 := v18w
              have v41q : TI v41 v18.toInt := by rw [v41w.trans v41r.symm]; exact (ti_rfl v18)
              refine gi_iald (pc := 31) (lo := 0) (hi := 39) (len := 31) hvx v41q rfl (by omega) (by omega) (fun _ => rfl) dX2_leave_31 (fun v42 v42l v42u v42w => ?_)
              have k43 := bd_e k40 (congrArg Int32.toInt v42w.symm)
              refine go_istore (pc := 32) (Nat.le_of_ble_eq_true rfl) dX2_leave_32 (go_lv (lv2 := [(0, .ref 64), (1, .int l1), (2, .int l2), (3, .int l3), (4, .int l4), (5, .int v42)]) rfl ?_)
              refine go_aload_n (pc := 34) rfl dX2_leave_34 ?_
              refine go_dup (pc := 35) rfl dX2_leave_35 ?_
              refine gi_get (pc := 36) (lo := 0) (hi := 30) hvx fL_X2_21 rfl (Nat.le_of_ble_eq_true rfl) rfl rfl dX2_leave_36 (fun v44 v44l v44u v44w => ?_)
              have v44r : v18 = hx.2.1 64 3 := v18w
              have v44q : TI v44 v18.toInt := by rw [v44w.trans v44r.symm]; exact (ti_rfl v18)
              refine go_iconst (pc := 39) (v := 1) (by decide) dX2_leave_39 ?_
              refine gf_isub (pc := 40) v44q (ti_c (v := 1) (a := 1) (by decide)) (by omega) (by omega) dX2_leave_40 (fun v45 e46 => ?_)
              refine gi_put (pc := 41) (lo := 0) (hi := 30) hvx e46 (fP_X2_21 _) rfl (Nat.le_of_ble_eq_true rfl) rfl rfl (by omega) (by omega) rfl rfl (by decide) (by decide) (by decide) (by decide) dX2_leave_41 (fun h47 hv47 hv47e => ?_)
              have fx47 : FX KAm h h47 := FX.pI fxx hv47e (by unfold KAm; omega)
              have k48 := bd_e k43 (st_I hv47e e46)
              refine go_aload_n (pc := 44) rfl dX2_leave_44 ?_
              refine go_iload (pc := 45) rfl dX2_leave_45 ?_
              refine go_iload_n (pc := 47) rfl dX2_leave_47 ?_
              refine go_invV (pc := 48) (sl := 0) (s_X2_see2_f l (d + 0) hv47 v42 l1) mL_X2_102 iM_X2_see sM_X2_see (hv47.sh rfl) rfl rfl rfl (Nat.le_of_ble_eq_true rfl) (show d + 0 + 1 + 1 ≤ d + 2 by omega) (show 8 + (3 + 11) + 40 * (d + 0 + 1) ≤ 40 * (d + 2) by omega) (g_c0 hv47.ln) (Nat.le_of_ble_eq_true rfl) dX2_leave_48 ?_
              intro r h49 hq _
              obtain ⟨rfl, hv49, f50, f51⟩ := hq
              have fx49 : FX KAm h h49 := FX.tr fx47 f51
              have k52 := bd_e k48 f50.symm
              refine go_iload_n (pc := 51) rfl dX2_leave_51 ?_
              refine gf_if_eq (pc := 52) (tgt := 68) (ti_rfl l2) (by decide) dX2_leave_52 (fun q53 => ?_) (fun q53 => ?_)
              ·
                have k54 := if_t k52 q53
                refine go_iconst (pc := 68) (v := 1) (by decide) dX2_leave_68 ?_
                refine go_goto (pc := 69) (tgt := 73) (by decide) dX2_leave_69 ?_
                refine go_istore_n (pc := 73) (Nat.le_of_ble_eq_true rfl) dX2_leave_73 (go_lv (lv2 := [(0, .ref 64), (1, .int l1), (2, .int l2), (3, .int 1), (4, .int l4), (5, .int v42)]) rfl ?_)
                refine go_iload_n (pc := 74) rfl dX2_leave_74 ?_
                refine gf_if_eq (pc := 75) (tgt := 141) (ti_c (v := 1) (a := 1) (by decide)) (by decide) dX2_leave_75 (fun q55 => False.elim (by omega)) (fun q55 => ?_)
                refine go_aload_n (pc := 78) rfl dX2_leave_78 ?_
                refine go_iload_n (pc := 79) rfl dX2_leave_79 ?_
                refine gf_if_eq (pc := 80) (tgt := 96) (ti_rfl l2) (by decide) dX2_leave_80 (fun q56 => ?_) (fun q56 => False.elim (by omega))
                refine go_aload_n (pc := 96) rfl dX2_leave_96 ?_
                refine gi_getC (pc := 97) hv49 fL_X2_50 rfl (Nat.le_of_ble_eq_true rfl) rfl (by decide) dX2_leave_97 (fun c57 hc57 fc57 => ?_)
                have k58 := bd_e k54 (st_c fc57)
                refine gi_getF (pc := 100) (q := c57 + 6) hv49 fL_X2_95 (by rcases hc57 with rfl | rfl <;> rfl) (Nat.le_of_ble_eq_true rfl) rfl (by rcases hc57 with rfl | rfl <;> exact hv49.rf (by decide)) dX2_leave_100 ?_
                refine go_iload (pc := 103) rfl dX2_leave_103 ?_
                refine gi_iald (pc := 105) (lo := -1) (hi := 9) (len := 40) hv49 (ti_rfl v42) (by rcases hc57 with rfl | rfl <;> rfl) (by omega) (by omega) (fun _ => by rcases hc57 with rfl | rfl <;> rfl) dX2_leave_105 (fun v59 v59l v59u v59w => ?_)
                have k60 := bd_e k58 (congrArg Int32.toInt v59w.symm)
                refine go_iload_n (pc := 106) rfl dX2_leave_106 ?_
                refine go_invV (pc := 107) (sl := 0) (s_X2_store2_f l (d + 0) hv49 v59 (by rw [show (v59 : Int32).toInt = v59.toInt from (ti_rfl v59)]; omega) (by rw [show (v59 : Int32).toInt = v59.toInt from (ti_rfl v59)]; omega) l1) mL_X2_98 iM_X2_store sM_X2_store (hv49.sh rfl) rfl rfl rfl (Nat.le_of_ble_eq_true rfl) (show d + 0 + 1 + 1 ≤ d + 2 by omega) (show 8 + (3 + 11) + 40 * (d + 0 + 1) ≤ 40 * (d + 2) by omega) (g_c0 hv49.ln) (Nat.le_of_ble_eq_true rfl) dX2_leave_107 ?_
                intro r h61 hq _
                obtain ⟨rfl, hv61, f62, f63⟩ := hq
                have fx61 : FX KAm h h61 := FX.tr fx49 f63
                have k64 := bd_e k60 f62.symm
                refine go_aload_n (pc := 110) rfl dX2_leave_110 ?_
                refine go_iload_n (pc := 111) rfl dX2_leave_111 ?_
                refine gf_if_eq (pc := 112) (tgt := 128) (ti_rfl l2) (by decide) dX2_leave_112 (fun q65 => ?_) (fun q65 => False.elim (by omega))
                refine go_aload_n (pc := 128) rfl dX2_leave_128 ?_
                refine gi_getC (pc := 129) hv61 fL_X2_50 rfl (Nat.le_of_ble_eq_true rfl) rfl (by decide) dX2_leave_129 (fun c66 hc66 fc66 => ?_)
                have k67 := bd_e k64 (st_c fc66)
                refine gi_getF (pc := 132) (q := c66 + 12) hv61 fL_X2_105 (by rcases hc66 with rfl | rfl <;> rfl) (Nat.le_of_ble_eq_true rfl) rfl (by rcases hc66 with rfl | rfl <;> exact hv61.rf (by decide)) dX2_leave_132 ?_
                refine go_iload (pc := 135) rfl dX2_leave_135 ?_
                refine gi_iald (pc := 137) (lo := 0) (hi := 44) (len := 40) hv61 (ti_rfl v42) (by rcases hc66 with rfl | rfl <;> rfl) (by omega) (by omega) (fun _ => by rcases hc66 with rfl | rfl <;> rfl) dX2_leave_137 (fun v68 v68l v68u v68w => ?_)
                have k69 := bd_e k67 (congrArg Int32.toInt v68w.symm)
                refine gi_put (pc := 138) (lo := 0) (hi := 44) hv61 (ti_rfl v68) (fP_X2_25 _) rfl (Nat.le_of_ble_eq_true rfl) rfl rfl (by omega) (by omega) rfl rfl (by decide) (by decide) (by decide) (by decide) dX2_leave_138 (fun h70 hv70 hv70e => ?_)
                have fx70 : FX KAm h h70 := FX.pI fx61 hv70e (by unfold KAm; omega)
                have k71 := bd_e k69 (st_I hv70e (ti_rfl v68))
                refine gf_iinc (pc := 141) (Nat.le_of_ble_eq_true rfl) rfl (ti_rfl l4) (ti_c (by decide)) (by omega) (by omega) dX2_leave_141 (fun v72 e73 => ?_)
                refine go_lv (lv2 := [(0, .ref 64), (1, .int l1), (2, .int l2), (3, .int 1), (4, .int v72), (5, .int v42)]) rfl ?_
                refine go_goto (pc := 144) (tgt := 5) (by decide) dX2_leave_144 ?_
                have z74 : (1 : Int32).toInt = 1 := (ti_c (v := 1) (a := 1) (by decide))
                have z75 : (v72 : Int32).toInt = (l4.toInt + 1) := e73
                exact go_lv rfl (ih l1 l2 1 v72 h70 hv70 (by omega) (by omega) (by omega) (by omega) (by omega) (by omega) fx70 (by rw [show (1 : Int32).toInt = 1 from (ti_c (v := 1) (a := 1) (by decide)), show (v72 : Int32).toInt = (l4.toInt + 1) from e73]; exact k71) (by omega))
              ·
                have k76 := if_f k52 q53
                refine go_aload_n (pc := 55) rfl dX2_leave_55 ?_
                refine gi_getC (pc := 56) hv49 fL_X2_50 rfl (Nat.le_of_ble_eq_true rfl) rfl (by decide) dX2_leave_56 (fun c77 hc77 fc77 => ?_)
                have k78 := bd_e k76 (st_c fc77)
                refine gi_getF (pc := 59) (q := c77 + 14) hv49 fL_X2_132 (by rcases hc77 with rfl | rfl <;> rfl) (Nat.le_of_ble_eq_true rfl) rfl (by rcases hc77 with rfl | rfl <;> exact hv49.rf (by decide)) dX2_leave_59 ?_
                refine go_iload (pc := 62) rfl dX2_leave_62 ?_
                refine gi_iald (pc := 64) (lo := -1) (hi := 5) (len := 40) hv49 (ti_rfl v42) (by rcases hc77 with rfl | rfl <;> rfl) (by omega) (by omega) (fun _ => by rcases hc77 with rfl | rfl <;> rfl) dX2_leave_64 (fun v79 v79l v79u v79w => ?_)
                have k80 := bd_e k78 (congrArg Int32.toInt v79w.symm)
                refine gf_if_lt (pc := 65) (tgt := 72) (ti_rfl v79) (by decide) dX2_leave_65 (fun q81 => ?_) (fun q81 => ?_)
                ·
                  have k82 := if_t k80 q81
                  refine go_iconst (pc := 72) (v := 0) (by decide) dX2_leave_72 ?_
                  refine go_istore_n (pc := 73) (Nat.le_of_ble_eq_true rfl) dX2_leave_73 (go_lv (lv2 := [(0, .ref 64), (1, .int l1), (2, .int l2), (3, .int 0), (4, .int l4), (5, .int v42)]) rfl ?_)
                  refine go_iload_n (pc := 74) rfl dX2_leave_74 ?_
                  refine gf_if_eq (pc := 75) (tgt := 141) (ti_c (v := 0) (a := 0) (by decide)) (by decide) dX2_leave_75 (fun q83 => ?_) (fun q83 => False.elim (by omega))
                  refine gf_iinc (pc := 141) (Nat.le_of_ble_eq_true rfl) rfl (ti_rfl l4) (ti_c (by decide)) (by omega) (by omega) dX2_leave_141 (fun v84 e85 => ?_)
                  refine go_lv (lv2 := [(0, .ref 64), (1, .int l1), (2, .int l2), (3, .int 0), (4, .int v84), (5, .int v42)]) rfl ?_
                  refine go_goto (pc := 144) (tgt := 5) (by decide) dX2_leave_144 ?_
                  have z86 : (0 : Int32).toInt = 0 := (ti_c (v := 0) (a := 0) (by decide))
                  have z87 : (v84 : Int32).toInt = (l4.toInt + 1) := e85
                  exact go_lv rfl (ih l1 l2 0 v84 h49 hv49 (by omega) (by omega) (by omega) (by omega) (by omega) (by omega) fx49 (by rw [show (0 : Int32).toInt = 0 from (ti_c (v := 0) (a := 0) (by decide)), show (v84 : Int32).toInt = (l4.toInt + 1) from e85]; exact k82) (by omega))
                ·
                  have k88 := if_f k80 (Int.not_lt.mpr q81)
                  refine go_iconst (pc := 68) (v := 1) (by decide) dX2_leave_68 ?_
                  refine go_goto (pc := 69) (tgt := 73) (by decide) dX2_leave_69 ?_
                  refine go_istore_n (pc := 73) (Nat.le_of_ble_eq_true rfl) dX2_leave_73 (go_lv (lv2 := [(0, .ref 64), (1, .int l1), (2, .int l2), (3, .int 1), (4, .int l4), (5, .int v42)]) rfl ?_)
                  refine go_iload_n (pc := 74) rfl dX2_leave_74 ?_
                  refine gf_if_eq (pc := 75) (tgt := 141) (ti_c (v := 1) (a := 1) (by decide)) (by decide) dX2_leave_75 (fun q89 => False.elim (by omega)) (fun q89 => ?_)
                  refine go_aload_n (pc := 78) rfl dX2_leave_78 ?_
                  refine go_iload_n (pc := 79) rfl dX2_leave_79 ?_
                  refine gf_if_eq (pc := 80) (tgt := 96) (ti_rfl l2) (by decide) dX2_leave_80 (fun q90 => False.elim (by omega)) (fun q90 => ?_)
                  refine go_aload_n (pc := 83) rfl dX2_leave_83 ?_
                  refine gi_getC (pc := 84) hv49 fL_X2_50 rfl (Nat.le_of_ble_eq_true rfl) rfl (by decide) dX2_leave_84 (fun c91 hc91 fc91 => ?_)
                  have k92 := bd_e k88 (st_c fc91)
                  refine gi_getF (pc := 87) (q := c91 + 14) hv49 fL_X2_132 (by rcases hc91 with rfl | rfl <;> rfl) (Nat.le_of_ble_eq_true rfl) rfl (by rcases hc91 with rfl | rfl <;> exact hv49.rf (by decide)) dX2_leave_87 ?_
                  refine go_iload (pc := 90) rfl dX2_leave_90 ?_
                  refine gi_iald (pc := 92) (lo := -1) (hi := 5) (len := 40) hv49 (ti_rfl v42) (by rcases hc91 with rfl | rfl <;> rfl) (by omega) (by omega) (fun _ => by rcases hc91 with rfl | rfl <;> rfl) dX2_leave_92 (fun v93 v93l v93u v93w => ?_)
                  have k94 := bd_e k92 (congrArg Int32.toInt v93w.symm)
                  refine go_goto (pc := 93) (tgt := 106) (by decide) dX2_leave_93 ?_
                  refine go_iload_n (pc := 106) rfl dX2_leave_106 ?_
                  refine go_invV (pc := 107) (sl := 0) (s_X2_store2_f l (d + 0) hv49 v93 (by rw [show (v93 : Int32).toInt = v93.toInt from (ti_rfl v93)]; omega) (by rw [show (v93 : Int32).toInt = v93.toInt from (ti_rfl v93)]; omega) l1) mL_X2_98 iM_X2_store sM_X2_store (hv49.sh rfl) rfl rfl rfl (Nat.le_of_ble_eq_true rfl) (show d + 0 + 1 + 1 ≤ d + 2 by omega) (show 8 + (3 + 11) + 40 * (d + 0 + 1) ≤ 40 * (d + 2) by omega) (g_c0 hv49.ln) (Nat.le_of_ble_eq_true rfl) dX2_leave_107 ?_
                  intro r h95 hq _
                  obtain ⟨rfl, hv95, f96, f97⟩ := hq
                  have fx95 : FX KAm h h95 := FX.tr fx49 f97
                  have k98 := bd_e k94 f96.symm
                  refine go_aload_n (pc := 110) rfl dX2_leave_110 ?_
                  refine go_iload_n (pc := 111) rfl dX2_leave_111 ?_
                  refine gf_if_eq (pc := 112) (tgt := 128) (ti_rfl l2) (by decide) dX2_leave_112 (fun q99 => False.elim (by omega)) (fun q99 => ?_)
                  refine go_aload_n (pc := 115) rfl dX2_leave_115 ?_
                  refine gi_getC (pc := 116) hv95 fL_X2_50 rfl (Nat.le_of_ble_eq_true rfl) rfl (by decide) dX2_leave_116 (fun c100 hc100 fc100 => ?_)
                  have k101 := bd_e k98 (st_c fc100)
                  refine gi_getF (pc := 119) (q := c100 + 13) hv95 fL_X2_123 (by rcases hc100 with rfl | rfl <;> rfl) (Nat.le_of_ble_eq_true rfl) rfl (by rcases hc100 with rfl | rfl <;> exact hv95.rf (by decide)) dX2_leave_119 ?_
                  refine go_iload (pc := 122) rfl dX2_leave_122 ?_
                  refine gi_iald (pc := 124) (lo := 0) (hi := 44) (len := 40) hv95 (ti_rfl v42) (by rcases hc100 with rfl | rfl <;> rfl) (by omega) (by omega) (fun _ => by rcases hc100 with rfl | rfl <;> rfl) dX2_leave_124 (fun v102 v102l v102u v102w => ?_)
                  have k103 := bd_e k101 (congrArg Int32.toInt v102w.symm)
                  refine go_goto (pc := 125) (tgt := 138) (by decide) dX2_leave_125 ?_
                  refine gi_put (pc := 138) (lo := 0) (hi := 44) hv95 (ti_rfl v102) (fP_X2_25 _) rfl (Nat.le_of_ble_eq_true rfl) rfl rfl (by omega) (by omega) rfl rfl (by decide) (by decide) (by decide) (by decide) dX2_leave_138 (fun h104 hv104 hv104e => ?_)
                  have fx104 : FX KAm h h104 := FX.pI fx95 hv104e (by unfold KAm; omega)
                  have k105 := bd_e k103 (st_I hv104e (ti_rfl v102))
                  refine gf_iinc (pc := 141) (Nat.le_of_ble_eq_true rfl) rfl (ti_rfl l4) (ti_c (by decide)) (by omega) (by omega) dX2_leave_141 (fun v106 e107 => ?_)
                  refine go_lv (lv2 := [(0, .ref 64), (1, .int l1), (2, .int l2), (3, .int 1), (4, .int v106), (5, .int v42)]) rfl ?_
                  refine go_goto (pc := 144) (tgt := 5) (by decide) dX2_leave_144 ?_
                  have z108 : (1 : Int32).toInt = 1 := (ti_c (v := 1) (a := 1) (by decide))
                  have z109 : (v106 : Int32).toInt = (l4.toInt + 1) := e107
                  exact go_lv rfl (ih l1 l2 1 v106 h104 hv104 (by omega) (by omega) (by omega) (by omega) (by omega) (by omega) fx104 (by rw [show (1 : Int32).toInt = 1 from (ti_c (v := 1) (a := 1) (by decide)), show (v106 : Int32).toInt = (l4.toInt + 1) from e107]; exact k105) (by omega))
  refine go_iconst (pc := 0) (v := 0) (by decide) dX2_leave_0 ?_
  refine go_istore_n (pc := 1) (Nat.le_of_ble_eq_true rfl) dX2_leave_1 (go_lv (lv2 := [(0, .ref 64), (1, .int a2), (2, .int a3), (3, .int 0)]) rfl ?_)
  refine go_iconst (pc := 2) (v := 0) (by decide) dX2_leave_2 ?_
  refine go_istore (pc := 3) (Nat.le_of_ble_eq_true rfl) dX2_leave_3 (go_lv (lv2 := [(0, .ref 64), (1, .int a2), (2, .int a3), (3, .int 0), (4, .int 0)]) rfl ?_)
  have z110 : (0 : Int32).toInt = 0 := (ti_c (v := 0) (a := 0) (by decide))
  have z111 : (0 : Int32).toInt = 0 := (ti_c (v := 0) (a := 0) (by decide))
  exact go_lv rfl ((key 112) a2 a3 0 0 h hv (by omega) (by omega) (by omega) (by omega) (by omega) (by omega) fx (by rw [show (0 : Int32).toInt = 0 from (ti_c (v := 0) (a := 0) (by decide))]; exact k0) (by omega))
def f_X2_raise2 (s : ST) (a2 : Int) (a3 : Int) : ST :=
  bd (s.2.2 64 11) fun c1 => bd (s.1 (c1 + 14) (a2).toNat) fun v3 => if v3 < 0 then (bd (f_X2_leave2 s a3 1) fun s7 => s7) else (bd (s.2.2 64 11) fun c12 => bd (s.1 (c12 + 14) (a2).toNat) fun v14 => bd (f_X2_store2 s v14 a3) fun s16 => bd (s16.2.2 64 11) fun c20 => bd (s16.1 (c20 + 13) (a2).toNat) fun v22 => bd (sI s16 64 4 v22) fun s24 => s24)
set_option maxHeartbeats 4000000 in
set_option maxRecDepth 100000 in
theorem s_X2_raise2_f (l : Launch) (d : Nat) {P : PP} {h : HP} (hv : Iv P h) (a2 : Int32) (a2l : 0 ≤ a2.toInt) (a2u : a2.toInt ≤ 39) (a3 : Int32) : Mt l yX2_raise cX2_raise 3 none (d + 3) [.ref 64, .int a2, .int a3] h 0 0 (fun r h' => r = none ∧ Iv P h' ∧ (st h' = f_X2_raise2 (st h) a2.toInt a3.toInt) ∧ (FX KAm h h')) := by
  refine Mt_iv hv (by decide) (Nat.le_of_ble_eq_true rfl) ?_
  show Go l RX2 cX2_raise 3 (g_rm (d + 3) 0 0) "raise" none 117 0 0 (fun _ _ => True) (fun r h' => r = none ∧ Iv P h' ∧ (st h' = f_X2_raise2 (st h) a2.toInt a3.toInt) ∧ (FX KAm h h')) 0 0 [(0, .ref 64), (1, .int a2), (2, .int a3)] [] h
  have fx : FX KAm h h := FX.rfl
  obtain ⟨fin, kf⟩ : ∃ z, z = f_X2_raise2 (st h) a2.toInt a3.toInt := ⟨_, _root_.rfl⟩
  have k0 := kf
  unfold f_X2_raise2 at k0
  refine go_aload_n (pc := 0) rfl dX2_raise_0 ?_
  refine gi_getC (pc := 1) hv fL_X2_50 rfl (Nat.le_of_ble_eq_true rfl) rfl (by decide) dX2_raise_1 (fun c1 hc1 fc1 => ?_)
  have k2 := bd_e k0 (st_c fc1)
  refine gi_getF (pc := 4) (q := c1 + 14) hv fL_X2_132 (by rcases hc1 with rfl | rfl <;> rfl) (Nat.le_of_ble_eq_true rfl) rfl (by rcases hc1 with rfl | rfl <;> exact hv.rf (by decide)) dX2_raise_4 ?_
  refine go_iload_n (pc := 7) rfl dX2_raise_7 ?_
  refine gi_iald (pc := 8) (lo := -1) (hi := 5) (len := 40) hv (ti_rfl a2) (by rcases hc1 with rfl | rfl <;> rfl) (by omega) (by omega) (fun _ => by rcases hc1 with rfl | rfl <;> rfl) dX2_raise_8 (fun v3 v3l v3u v3w => ?_)
  have k4 := bd_e k2 (congrArg Int32.toInt v3w.symm)
  refine gf_if_lt (pc := 9) (tgt := 42) (ti_rfl v3) (by decide) dX2_raise_9 (fun q5 => ?_) (fun q5 => ?_)
  ·
    have k6 := if_t k4 q5
    refine go_aload_n (pc := 42) rfl dX2_raise_42 ?_
    refine go_iload_n (pc := 43) rfl dX2_raise_43 ?_
    refine go_iconst (pc := 44) (v := 1) (by decide) dX2_raise_44 ?_
    refine go_invV (pc := 45) (sl := 0) (s_X2_leave2_f l (d + 0) hv a3 1 (by rw [show (1 : Int32).toInt = 1 from (ti_c (v := 1) (a := 1) (by decide))]; omega) (by rw [show (1 : Int32).toInt = 1 from (ti_c (v := 1) (a := 1) (by decide))]; omega)) mL_X2_73 iM_X2_leave sM_X2_leave (hv.sh rfl) rfl rfl rfl (Nat.le_of_ble_eq_true rfl) (show d + 0 + 2 + 1 ≤ d + 3 by omega) (show 8 + (6 + 11) + 40 * (d + 0 + 2) ≤ 40 * (d + 3) by omega) (g_c0 hv.ln) (Nat.le_of_ble_eq_true rfl) dX2_raise_45 ?_
    intro r h7 hq _
    obtain ⟨rfl, hv7, f8, f9⟩ := hq
    try rw [show (1 : Int32).toInt = 1 from (ti_c (v := 1) (a := 1) (by decide))] at f8
    try rw [show (1 : Int32).toInt = 1 from (ti_c (v := 1) (a := 1) (by decide))] at f9
    have fx7 : FX KAm h h7 := FX.tr fx f9
    have k10 := bd_e k6 f8.symm
    exact gi_vret (pc := 48) ⟨rfl, hv7, (k10.symm.trans kf), fx7⟩ hv7 dX2_raise_48
  ·
    have k11 := if_f k4 (Int.not_lt.mpr q5)
    refine go_aload_n (pc := 12) rfl dX2_raise_12 ?_
    refine go_aload_n (pc := 13) rfl dX2_raise_13 ?_
    refine gi_getC (pc := 14) hv fL_X2_50 rfl (Nat.le_of_ble_eq_true rfl) rfl (by decide) dX2_raise_14 (fun c12 hc12 fc12 => ?_)
    have k13 := bd_e k11 (st_c fc12)
    refine gi_getF (pc := 17) (q := c12 + 14) hv fL_X2_132 (by rcases hc12 with rfl | rfl <;> rfl) (Nat.le_of_ble_eq_true rfl) rfl (by rcases hc12 with rfl | rfl <;> exact hv.rf (by decide)) dX2_raise_17 ?_
    refine go_iload_n (pc := 20) rfl dX2_raise_20 ?_
    refine gi_iald (pc := 21) (lo := -1) (hi := 5) (len := 40) hv (ti_rfl a2) (by rcases hc12 with rfl | rfl <;> rfl) (by omega) (by omega) (fun _ => by rcases hc12 with rfl | rfl <;> rfl) dX2_raise_21 (fun v14 v14l v14u v14w => ?_)
    have k15 := bd_e k13 (congrArg Int32.toInt v14w.symm)
    refine go_iload_n (pc := 22) rfl dX2_raise_22 ?_
    refine go_invV (pc := 23) (sl := 0) (s_X2_store2_f l (d + 1) hv v14 (by rw [show (v14 : Int32).toInt = v14.toInt from (ti_rfl v14)]; omega) (by rw [show (v14 : Int32).toInt = v14.toInt from (ti_rfl v14)]; omega) a3) mL_X2_98 iM_X2_store sM_X2_store (hv.sh rfl) rfl rfl rfl (Nat.le_of_ble_eq_true rfl) (show d + 1 + 1 + 1 ≤ d + 3 by omega) (show 8 + (3 + 11) + 40 * (d + 1 + 1) ≤ 40 * (d + 3) by omega) (g_c0 hv.ln) (Nat.le_of_ble_eq_true rfl) dX2_raise_23 ?_
    intro r h16 hq _
    obtain ⟨rfl, hv16, f17, f18⟩ := hq
    have fx16 : FX KAm h h16 := FX.tr fx f18
    have k19 := bd_e k15 f17.symm
    refine go_aload_n (pc := 26) rfl dX2_raise_26 ?_
    refine go_aload_n (pc := 27) rfl dX2_raise_27 ?_
    refine gi_getC (pc := 28) hv16 fL_X2_50 rfl (Nat.le_of_ble_eq_true rfl) rfl (by decide) dX2_raise_28 (fun c20 hc20 fc20 => ?_)
    have k21 := bd_e k19 (st_c fc20)
    refine gi_getF (pc := 31) (q := c20 + 13) hv16 fL_X2_123 (by rcases hc20 with rfl | rfl <;> rfl) (Nat.le_of_ble_eq_true rfl) rfl (by rcases hc20 with rfl | rfl <;> exact hv16.rf (by decide)) dX2_raise_31 ?_
    refine go_iload_n (pc := 34) rfl dX2_raise_34 ?_
    refine gi_iald (pc := 35) (lo := 0) (hi := 44) (len := 40) hv16 (ti_rfl a2) (by rcases hc20 with rfl | rfl <;> rfl) (by omega) (by omega) (fun _ => by rcases hc20 with rfl | rfl <;> rfl) dX2_raise_35 (fun v22 v22l v22u v22w => ?_)
    have k23 := bd_e k21 (congrArg Int32.toInt v22w.symm)
    refine gi_put (pc := 36) (lo := 0) (hi := 44) hv16 (ti_rfl v22) (fP_X2_25 _) rfl (Nat.le_of_ble_eq_true rfl) rfl rfl (by omega) (by omega) rfl rfl (by decide) (by decide) (by decide) (by decide) dX2_raise_36 (fun h24 hv24 hv24e => ?_)
    have fx24 : FX KAm h h24 := FX.pI fx16 hv24e (by unfold KAm; omega)
    have k25 := bd_e k23 (st_I hv24e (ti_rfl v22))
    refine go_goto (pc := 39) (tgt := 48) (by decide) dX2_raise_39 ?_
    exact gi_vret (pc := 48) ⟨rfl, hv24, (k25.symm.trans kf), fx24⟩ hv24 dX2_raise_48
def f_X2_open2 (s : ST) (a2 : Int) : ST :=
  bd (s.1 64 3) fun v1 => if (v1 + 1) < 31 then (bd (s.2.2 64 11) fun c7 => bd (s.1 (c7 + 9) (a2).toNat) fun v9 => bd (f_X2_load2 s v9) fun v13 => bd (s.2.2 64 11) fun c15 => bd (s.1 (c15 + 10) (a2).toNat) fun v17 => bd (f_X2_load2 s v17) fun v21 => bd (sI s 64 3 ((v1 + 1))) fun s26 => bd (sI s26 67 ((v1 + 1)).toNat a2) fun s29 => bd (s29.2.2 64 11) fun c31 => bd (s29.1 (c31 + 7) (a2).toNat) fun v33 => bd (f_X2_enter2 s29 v33 v13 v21) fun s35 => s35) else (bd (sI s 64 6 2) fun s40 => s40)
set_option maxHeartbeats 4000000 in
set_option maxRecDepth 100000 in
theorem s_X2_open2_f (l : Launch) (d : Nat) {P : PP} {h : HP} (hv : Iv P h) (a2 : Int32) (a2l : 0 ≤ a2.toInt) (a2u : a2.toInt ≤ 39) (hp : ∀ c, h.2.2.2 64 11 = .ref c → (h.2.1 (c + 2) a2.toInt.toNat).toInt = 1) : Mt l yX2_open cX2_open 4 none (d + 2) [.ref 64, .int a2] h 0 0 (fun r h' => r = none ∧ Iv P h' ∧ (st h' = f_X2_open2 (st h) a2.toInt) ∧ (FX KAm h h')) := by
  refine Mt_iv hv (by decide) (Nat.le_of_ble_eq_true rfl) ?_
  show Go l RX2 cX2_open 4 (g_rm (d + 2) 0 0) "open" none 117 0 0 (fun _ _ => True) (fun r h' => r = none ∧ Iv P h' ∧ (st h' = f_X2_open2 (st h) a2.toInt) ∧ (FX KAm h h')) 0 0 [(0, .ref 64), (1, .int a2)] [] h
  have fx : FX KAm h h := FX.rfl
  obtain ⟨fin, kf⟩ : ∃ z, z = f_X2_open2 (st h) a2.toInt := ⟨_, _root_.rfl⟩
  have k0 := kf
  unfold f_X2_open2 at k0
  refine go_aload_n (pc := 0) rfl dX2_open_0 ?_
  refine gi_get (pc := 1) (lo := 0) (hi := 30) hv fL_X2_21 rfl (Nat.le_of_ble_eq_true rfl) rfl rfl dX2_open_1 (fun v1 v1l v1u v1w => ?_)
  have k2 := bd_e k0 (congrArg Int32.toInt v1w.symm)
  refine go_iconst (pc := 4) (v := 1) (by decide) dX2_open_4 ?_
  refine gf_iadd (pc := 5) (ti_rfl v1) (ti_c (v := 1) (a := 1) (by decide)) (by omega) (by omega) dX2_open_5 (fun v3 e4 => ?_)
  refine go_bipush (pc := 6) (v := 31) (by decide) dX2_open_6 ?_
  refine gf_icmp_lt (pc := 8) (tgt := 17) e4 (ti_c (v := 31) (a := 31) (by decide)) (by decide) dX2_open_8 (fun q5 => ?_) (fun q5 => ?_)
  ·
    have k6 := if_t k2 q5
    refine go_aload_n (pc := 17) rfl dX2_open_17 ?_
    refine go_aload_n (pc := 18) rfl dX2_open_18 ?_
    refine gi_getC (pc := 19) hv fL_X2_50 rfl (Nat.le_of_ble_eq_true rfl) rfl (by decide) dX2_open_19 (fun c7 hc7 fc7 => ?_)
    have k8 := bd_e k6 (st_c fc7)
    refine gi_getF (pc := 22) (q := c7 + 9) hv fL_X2_111 (by rcases hc7 with rfl | rfl <;> rfl) (Nat.le_of_ble_eq_true rfl) rfl (by rcases hc7 with rfl | rfl <;> exact hv.rf (by decide)) dX2_open_22 ?_
    refine go_iload_n (pc := 25) rfl dX2_open_25 ?_
    refine gi_iald (pc := 26) (lo := -2147483648) (hi := 2147483647) (len := 40) hv (ti_rfl a2) (by rcases hc7 with rfl | rfl <;> rfl) (by omega) (by omega) (fun _ => by rcases hc7 with rfl | rfl <;> rfl) dX2_open_26 (fun v9 v9l v9u v9w => ?_)
    have k10 := bd_e k8 (congrArg Int32.toInt v9w.symm)
    refine go_invV (pc := 27) (sl := 0) (s_X2_load2_f l (d + 0) hv v9) mL_X2_114 iM_X2_load sM_X2_load (hv.sh rfl) rfl rfl rfl (Nat.le_of_ble_eq_true rfl) (show d + 0 + 1 + 1 ≤ d + 2 by omega) (show 8 + (2 + 11) + 40 * (d + 0 + 1) ≤ 40 * (d + 2) by omega) (g_c0 hv.ln) (Nat.le_of_ble_eq_true rfl) dX2_open_27 ?_
    intro r h11 hq _
    obtain ⟨v13, rfl, v13l, v13u, rfl, f12⟩ := hq
    replace f12 : PE _ _ := f12
    have k14 := bd_e k10 f12.symm
    refine go_istore_n (pc := 30) (Nat.le_of_ble_eq_true rfl) dX2_open_30 (go_lv (lv2 := [(0, .ref 64), (1, .int a2), (2, .int v13)]) rfl ?_)
    refine go_aload_n (pc := 31) rfl dX2_open_31 ?_
    refine go_aload_n (pc := 32) rfl dX2_open_32 ?_
    refine gi_getC (pc := 33) hv fL_X2_50 rfl (Nat.le_of_ble_eq_true rfl) rfl (by decide) dX2_open_33 (fun c15 hc15 fc15 => ?_)
    have k16 := bd_e k14 (st_c fc15)
    refine gi_getF (pc := 36) (q := c15 + 10) hv fL_X2_120 (by rcases hc15 with rfl | rfl <;> rfl) (Nat.le_of_ble_eq_true rfl) rfl (by rcases hc15 with rfl | rfl <;> exact hv.rf (by decide)) dX2_open_36 ?_
    refine go_iload_n (pc := 39) rfl dX2_open_39 ?_
    refine gi_iald (pc := 40) (lo := -2147483648) (hi := 2147483647) (len := 40) hv (ti_rfl a2) (by rcases hc15 with rfl | rfl <;> rfl) (by omega) (by omega) (fun _ => by rcases hc15 with rfl | rfl <;> rfl) dX2_open_40 (fun v17 v17l v17u v17w => ?_)
    have k18 := bd_e k16 (congrArg Int32.toInt v17w.symm)
    refine go_invV (pc := 41) (sl := 0) (s_X2_load2_f l (d + 0) hv v17) mL_X2_114 iM_X2_load sM_X2_load (hv.sh rfl) rfl rfl rfl (Nat.le_of_ble_eq_true rfl) (show d + 0 + 1 + 1 ≤ d + 2 by omega) (show 8 + (2 + 11) + 40 * (d + 0 + 1) ≤ 40 * (d + 2) by omega) (g_c0 hv.ln) (Nat.le_of_ble_eq_true rfl) dX2_open_41 ?_
    intro r h19 hq _
    obtain ⟨v21, rfl, v21l, v21u, rfl, f20⟩ := hq
    replace f20 : PE _ _ := f20
    have k22 := bd_e k18 f20.symm
    refine go_istore_n (pc := 44) (Nat.le_of_ble_eq_true rfl) dX2_open_44 (go_lv (lv2 := [(0, .ref 64), (1, .int a2), (2, .int v13), (3, .int v21)]) rfl ?_)
    refine go_aload_n (pc := 45) rfl dX2_open_45 ?_
    refine go_dup (pc := 46) rfl dX2_open_46 ?_
    refine gi_get (pc := 47) (lo := 0) (hi := 30) hv fL_X2_21 rfl (Nat.le_of_ble_eq_true rfl) rfl rfl dX2_open_47 (fun v23 v23l v23u v23w => ?_)
    have v23r : v1 = h.2.1 64 3 := v1w
    have v23q : TI v23 v1.toInt := by rw [v23w.trans v23r.symm]; exact (ti_rfl v1)
    refine go_iconst (pc := 50) (v := 1) (by decide) dX2_open_50 ?_
    refine gf_iadd (pc := 51) v23q (ti_c (v := 1) (a := 1) (by decide)) (by omega) (by omega) dX2_open_51 (fun v24 e25 => ?_)
    refine gi_put (pc := 52) (lo := 0) (hi := 30) hv e25 (fP_X2_21 _) rfl (Nat.le_of_ble_eq_true rfl) rfl rfl (by omega) (by omega) rfl rfl (by decide) (by decide) (by decide) (by decide) dX2_open_52 (fun h26 hv26 hv26e => ?_)
    have fx26 : FX KAm h h26 := FX.pI fx hv26e (by unfold KAm; omega)
    have k27 := bd_e k22 (st_I hv26e e25)
    refine go_aload_n (pc := 55) rfl dX2_open_55 ?_
    refine gi_getF (pc := 56) (q := 67) hv26 fL_X2_18 rfl (Nat.le_of_ble_eq_true rfl) rfl (hv26.rf (by decide)) dX2_open_56 ?_
    refine go_aload_n (pc := 59) rfl dX2_open_59 ?_
    refine gi_get (pc := 60) (lo := 0) (hi := 30) hv26 fL_X2_21 rfl (Nat.le_of_ble_eq_true rfl) rfl rfl dX2_open_60 (fun v28 v28l v28u v28w => ?_)
    have v28r : v24 = h26.2.1 64 3 := (show v24 = h26.2.1 64 3 from by rw [hv26e]; exact g_iS.symm)
    have v28q : TI v28 ((v1.toInt + 1)) := by rw [v28w.trans v28r.symm]; exact e25
    refine go_iload_n (pc := 63) rfl dX2_open_63 ?_
    refine gi_iast (pc := 64) (lo := 0) (hi := 39) (len := 31) hv26 v28q (ti_rfl a2) rfl (by omega) (by omega) (fun _ => rfl) (by omega) (by omega) (by decide) dX2_open_64 (fun h29 hv29 hv29e => ?_)
    have fx29 : FX KAm h h29 := FX.pI fx26 hv29e (by unfold KAm; omega)
    have k30 := bd_e k27 (st_I hv29e (ti_rfl a2))
    refine go_aload_n (pc := 65) rfl dX2_open_65 ?_
    refine go_aload_n (pc := 66) rfl dX2_open_66 ?_
    refine gi_getC (pc := 67) hv29 fL_X2_50 rfl (Nat.le_of_ble_eq_true rfl) rfl (by decide) dX2_open_67 (fun c31 hc31 fc31 => ?_)
    have k32 := bd_e k30 (st_c fc31)
    refine gi_getF (pc := 70) (q := c31 + 7) hv29 fL_X2_129 (by rcases hc31 with rfl | rfl <;> rfl) (Nat.le_of_ble_eq_true rfl) rfl (by rcases hc31 with rfl | rfl <;> exact hv29.rf (by decide)) dX2_open_70 ?_
    refine go_iload_n (pc := 73) rfl dX2_open_73 ?_
    refine gi_iald (pc := 74) (lo := -2) (hi := 4) (len := 40) hv29 (ti_rfl a2) (by rcases hc31 with rfl | rfl <;> rfl) (by omega) (by omega) (fun _ => by rcases hc31 with rfl | rfl <;> rfl) dX2_open_74 (fun v33 v33l v33u v33w => ?_)
    have k34 := bd_e k32 (congrArg Int32.toInt v33w.symm)
    refine go_iload_n (pc := 75) rfl dX2_open_75 ?_
    refine go_iload_n (pc := 76) rfl dX2_open_76 ?_
    have kk : 0 ≤ v33.toInt := by
      rw [v33w]
      refine hv29.2.2.2.2.2.1 c31 hc31 _ ?_
      have e1 : (h29.2.1 (c31 + 2) a2.toInt.toNat) = h.2.1 (c31 + 2) a2.toInt.toNat := by rw [hv29e, hv26e]; rcases hc31 with rfl | rfl <;> rfl
      rw [e1]
      exact hp c31 (by rw [← fc31, hv29e, hv26e]; rfl)
    refine go_invV (pc := 77) (sl := 0) (s_X2_enter2_f l (d + 0) hv29 v33 (by rw [show (v33 : Int32).toInt = v33.toInt from (ti_rfl v33)]; omega) (by rw [show (v33 : Int32).toInt = v33.toInt from (ti_rfl v33)]; omega) v13 v21) mL_X2_60 iM_X2_enter sM_X2_enter (hv29.sh rfl) rfl rfl rfl (Nat.le_of_ble_eq_true rfl) (show d + 0 + 1 + 1 ≤ d + 2 by omega) (show 8 + (6 + 11) + 40 * (d + 0 + 1) ≤ 40 * (d + 2) by omega) (g_c0 hv29.ln) (Nat.le_of_ble_eq_true rfl) dX2_open_77 ?_
    intro r h35 hq _
    obtain ⟨rfl, hv35, f36, f37⟩ := hq
    have fx35 : FX KAm h h35 := FX.tr fx29 f37
    have k38 := bd_e k34 f36.symm
    exact gi_vret (pc := 80) ⟨rfl, hv35, (k38.symm.trans kf), fx35⟩ hv35 dX2_open_80
  ·
    have k39 := if_f k2 (Int.not_lt.mpr q5)
    refine go_aload_n (pc := 11) rfl dX2_open_11 ?_
    refine go_iconst (pc := 12) (v := 2) (by decide) dX2_open_12 ?_
    refine gi_put (pc := 13) (lo := -1) (hi := 3) hv (ti_c (v := 2) (a := 2) (by decide)) (fP_X2_31 _) rfl (Nat.le_of_ble_eq_true rfl) rfl rfl (by omega) (by omega) rfl rfl (by decide) (by decide) (by decide) (by decide) dX2_open_13 (fun h40 hv40 hv40e => ?_)
    have fx40 : FX KAm h h40 := FX.pI fx hv40e (by unfold KAm; omega)
    have k41 := bd_e k39 (st_I hv40e (ti_c (v := 2) (a := 2) (by decide)))
    exact gi_vret (pc := 16) ⟨rfl, hv40, (k41.symm.trans kf), fx40⟩ hv40 dX2_open_16
def f_X2_perform2 (s : ST) (a2 : Int) : ST :=
  bd (s.2.2 64 11) fun c1 => bd (s.1 (c1 + 2) (a2).toNat) fun v3 => if v3 = 0 then (bd (f_X2_compute2 s a2) fun v9 => bd (s.2.2 64 11) fun c11 => bd (s.1 (c11 + 6) (a2).toNat) fun v13 => bd (f_X2_store2 s v13 v9) fun s15 => bd (f_X2_see2 s15 a2 v9) fun s19 => bd (s19.2.2 64 11) fun c23 => bd (s19.1 (c23 + 12) (a2).toNat) fun v25 => bd (sI s19 64 4 v25) fun s27 => s27) else if v3 = 1 then (bd (f_X2_open2 s a2) fun s32 => s32) else if v3 = 2 then (bd (s.2.2 64 11) fun c39 => bd (s.1 (c39 + 9) (a2).toNat) fun v41 => bd (f_X2_load2 s v41) fun v45 => bd (s.2.2 64 11) fun c47 => bd (s.1 (c47 + 10) (a2).toNat) fun v49 => bd (f_X2_load2 s v49) fun v53 => if v53 ≤ v45 then (bd (f_X2_see2 s a2 0) fun s58 => bd (s58.2.2 64 11) fun c63 => bd (s58.1 (c63 + 12) (a2).toNat) fun v65 => bd (sI s58 64 4 v65) fun s67 => s67) else (bd (f_X2_see2 s a2 1) fun s71 => bd (s71.2.2 64 11) fun c76 => bd (s71.1 (c76 + 13) (a2).toNat) fun v78 => bd (sI s71 64 4 v78) fun s80 => s80)) else if v3 = 3 then (bd (s.2.2 64 11) fun c85 => bd (s.1 (c85 + 9) (a2).toNat) fun v87 => bd (f_X2_load2 s v87) fun v91 => bd (s.2.2 64 11) fun c93 => bd (s.1 (c93 + 10) (a2).toNat) fun v95 => bd (f_X2_load2 s v95) fun v99 => if v99 ≤ v91 then (bd (f_X2_see2 s a2 0) fun s104 => bd (s104.2.2 64 11) fun c109 => bd (s104.1 (c109 + 12) (a2).toNat) fun v111 => bd (sI s104 64 4 v111) fun s113 => s113) else (bd (f_X2_see2 s a2 1) fun s117 => bd (s117.2.2 64 11) fun c122 => bd (s117.1 (c122 + 13) (a2).toNat) fun v124 => bd (sI s117 64 4 v124) fun s126 => s126)) else if v3 = 4 then (bd (s.2.2 64 11) fun c131 => bd (s.1 (c131 + 9) (a2).toNat) fun v133 => bd (f_X2_load2 s v133) fun v137 => bd (f_X2_see2 s a2 v137) fun s139 => bd (s139.2.2 64 11) fun c143 => bd (s139.1 (c143 + 9) (a2).toNat) fun v145 => bd (f_X2_load2 s139 v145) fun v149 => bd (f_X2_raise2 s139 a2 v149) fun s151 => s151) else bd (s.2.2 64 11) fun c157 => bd (s.1 (c157 + 9) (a2).toNat) fun v159 => bd (f_X2_load2 s v159) fun v163 => bd (f_X2_see2 s a2 v163) fun s165 => bd (s165.2.2 64 11) fun c169 => bd (s165.1 (c169 + 9) (a2).toNat) fun v171 => bd (f_X2_load2 s165 v171) fun v175 => bd (f_X2_leave2 s165 v175 0) fun s177 => s177
set_option maxHeartbeats 4000000 in
set_option maxRecDepth 100000 in
theorem s_X2_perform2_f (l : Launch) (d : Nat) {P : PP} {h : HP} (hv : Iv P h) (a2 : Int32) (a2l : 0 ≤ a2.toInt) (a2u : a2.toInt ≤ 39) : Mt l yX2_perform cX2_perform 4 none (d + 4) [.ref 64, .int a2] h 0 0 (fun r h' => r = none ∧ Iv P h' ∧ (st h' = f_X2_perform2 (st h) a2.toInt) ∧ (FX KAm h h')) := by
  refine Mt_iv hv (by decide) (Nat.le_of_ble_eq_true rfl) ?_
  show Go l RX2 cX2_perform 4 (g_rm (d + 4) 0 0) "perform" none 117 0 0 (fun _ _ => True) (fun r h' => r = none ∧ Iv P h' ∧ (st h' = f_X2_perform2 (st h) a2.toInt) ∧ (FX KAm h h')) 0 0 [(0, .ref 64), (1, .int a2)] [] h
  have fx : FX KAm h h := FX.rfl
  obtain ⟨fin, kf⟩ : ∃ z, z = f_X2_perform2 (st h) a2.toInt := ⟨_, _root_.rfl⟩
  have k0 := kf
  unfold f_X2_perform2 at k0
  refine go_aload_n (pc := 0) rfl dX2_perform_0 ?_
  refine gi_getC (pc := 1) hv fL_X2_50 rfl (Nat.le_of_ble_eq_true rfl) rfl (by decide) dX2_perform_1 (fun c1 hc1 fc1 => ?_)
  have k2 := bd_e k0 (st_c fc1)
  refine gi_getF (pc := 4) (q := c1 + 2) hv fL_X2_88 (by rcases hc1 with rfl | rfl <;> rfl) (Nat.le_of_ble_eq_true rfl) rfl (by rcases hc1 with rfl | rfl <;> exact hv.rf (by decide)) dX2_perform_4 ?_
  refine go_iload_n (pc := 7) rfl dX2_perform_7 ?_
  refine gi_iald (pc := 8) (lo := 0) (hi := 5) (len := 40) hv (ti_rfl a2) (by rcases hc1 with rfl | rfl <;> rfl) (by omega) (by omega) (fun _ => by rcases hc1 with rfl | rfl <;> rfl) dX2_perform_8 (fun v3 v3l v3u v3w => ?_)
  have k4 := bd_e k2 (congrArg Int32.toInt v3w.symm)
  by_cases q5 : v3.toInt = 0
  ·
    refine go_tableIn (pc := 9) (tgt := 48) (off := 39) (by rw [show (v3 : Int32).toInt = v3.toInt from (ti_rfl v3)]; omega) (by rw [show (v3 : Int32).toInt = v3.toInt from (ti_rfl v3)]; omega) (by rw [show (v3 : Int32).toInt = v3.toInt from (ti_rfl v3), q5]; rfl) (by decide) dX2_perform_9 ?_
    have k6 := if_t k4 q5
    refine go_aload_n (pc := 48) rfl dX2_perform_48 ?_
    refine go_iload_n (pc := 49) rfl dX2_perform_49 ?_
    refine go_invV (pc := 50) (sl := 0) (s_X2_compute2_f l (d + 1) hv a2 (by rw [show (a2 : Int32).toInt = a2.toInt from (ti_rfl a2)]; omega) (by rw [show (a2 : Int32).toInt = a2.toInt from (ti_rfl a2)]; omega)) mL_X2_91 iM_X2_compute sM_X2_compute (hv.sh rfl) rfl rfl rfl (Nat.le_of_ble_eq_true rfl) (show d + 1 + 2 + 1 ≤ d + 4 by omega) (show 8 + (4 + 11) + 40 * (d + 1 + 2) ≤ 40 * (d + 4) by omega) (g_c0 hv.ln) (Nat.le_of_ble_eq_true rfl) dX2_perform_50 ?_
    intro r h7 hq _
    obtain ⟨v9, rfl, v9l, v9u, rfl, f8⟩ := hq
    replace f8 : PE _ _ := f8
    have k10 := bd_e k6 f8.symm
    refine go_istore_n (pc := 53) (Nat.le_of_ble_eq_true rfl) dX2_perform_53 (go_lv (lv2 := [(0, .ref 64), (1, .int a2), (2, .int v9)]) rfl ?_)
    refine go_aload_n (pc := 54) rfl dX2_perform_54 ?_
    refine go_aload_n (pc := 55) rfl dX2_perform_55 ?_
    refine gi_getC (pc := 56) hv fL_X2_50 rfl (Nat.le_of_ble_eq_true rfl) rfl (by decide) dX2_perform_56 (fun c11 hc11 fc11 => ?_)
    have k12 := bd_e k10 (st_c fc11)
    refine gi_getF (pc := 59) (q := c11 + 6) hv fL_X2_95 (by rcases hc11 with rfl | rfl <;> rfl) (Nat.le_of_ble_eq_true rfl) rfl (by rcases hc11 with rfl | rfl <;> exact hv.rf (by decide)) dX2_perform_59 ?_
    refine go_iload_n (pc := 62) rfl dX2_perform_62 ?_
    refine gi_iald (pc := 63) (lo := -1) (hi := 9) (len := 40) hv (ti_rfl a2) (by rcases hc11 with rfl | rfl <;> rfl) (by omega) (by omega) (fun _ => by rcases hc11 with rfl | rfl <;> rfl) dX2_perform_63 (fun v13 v13l v13u v13w => ?_)
    have k14 := bd_e k12 (congrArg Int32.toInt v13w.symm)
    refine go_iload_n (pc := 64) rfl dX2_perform_64 ?_
    refine go_invV (pc := 65) (sl := 0) (s_X2_store2_f l (d + 2) hv v13 (by rw [show (v13 : Int32).toInt = v13.toInt from (ti_rfl v13)]; omega) (by rw [show (v13 : Int32).toInt = v13.toInt from (ti_rfl v13)]; omega) v9) mL_X2_98 iM_X2_store sM_X2_store (hv.sh rfl) rfl rfl rfl (Nat.le_of_ble_eq_true rfl) (show d + 2 + 1 + 1 ≤ d + 4 by omega) (show 8 + (3 + 11) + 40 * (d + 2 + 1) ≤ 40 * (d + 4) by omega) (g_c0 hv.ln) (Nat.le_of_ble_eq_true rfl) dX2_perform_65 ?_
    intro r h15 hq _
    obtain ⟨rfl, hv15, f16, f17⟩ := hq
    have fx15 : FX KAm h h15 := FX.tr fx f17
    have k18 := bd_e k14 f16.symm
    refine go_aload_n (pc := 68) rfl dX2_perform_68 ?_
    refine go_iload_n (pc := 69) rfl dX2_perform_69 ?_
    refine go_iload_n (pc := 70) rfl dX2_perform_70 ?_
    refine go_invV (pc := 71) (sl := 0) (s_X2_see2_f l (d + 2) hv15 a2 v9) mL_X2_102 iM_X2_see sM_X2_see (hv15.sh rfl) rfl rfl rfl (Nat.le_of_ble_eq_true rfl) (show d + 2 + 1 + 1 ≤ d + 4 by omega) (show 8 + (3 + 11) + 40 * (d + 2 + 1) ≤ 40 * (d + 4) by omega) (g_c0 hv15.ln) (Nat.le_of_ble_eq_true rfl) dX2_perform_71 ?_
    intro r h19 hq _
    obtain ⟨rfl, hv19, f20, f21⟩ := hq
    have fx19 : FX KAm h h19 := FX.tr fx15 f21
    have k22 := bd_e k18 f20.symm
    refine go_aload_n (pc := 74) rfl dX2_perform_74 ?_
    refine go_aload_n (pc := 75) rfl dX2_perform_75 ?_
    refine gi_getC (pc := 76) hv19 fL_X2_50 rfl (Nat.le_of_ble_eq_true rfl) rfl (by decide) dX2_perform_76 (fun c23 hc23 fc23 => ?_)
    have k24 := bd_e k22 (st_c fc23)
    refine gi_getF (pc := 79) (q := c23 + 12) hv19 fL_X2_105 (by rcases hc23 with rfl | rfl <;> rfl) (Nat.le_of_ble_eq_true rfl) rfl (by rcases hc23 with rfl | rfl <;> exact hv19.rf (by decide)) dX2_perform_79 ?_
    refine go_iload_n (pc := 82) rfl dX2_perform_82 ?_
    refine gi_iald (pc := 83) (lo := 0) (hi := 44) (len := 40) hv19 (ti_rfl a2) (by rcases hc23 with rfl | rfl <;> rfl) (by omega) (by omega) (fun _ => by rcases hc23 with rfl | rfl <;> rfl) dX2_perform_83 (fun v25 v25l v25u v25w => ?_)
    have k26 := bd_e k24 (congrArg Int32.toInt v25w.symm)
    refine gi_put (pc := 84) (lo := 0) (hi := 44) hv19 (ti_rfl v25) (fP_X2_25 _) rfl (Nat.le_of_ble_eq_true rfl) rfl rfl (by omega) (by omega) rfl rfl (by decide) (by decide) (by decide) (by decide) dX2_perform_84 (fun h27 hv27 hv27e => ?_)
    have fx27 : FX KAm h h27 := FX.pI fx19 hv27e (by unfold KAm; omega)
    have k28 := bd_e k26 (st_I hv27e (ti_rfl v25))
    refine go_goto (pc := 87) (tgt := 254) (by decide) dX2_perform_87 ?_
    exact gi_vret (pc := 254) ⟨rfl, hv27, (k28.symm.trans kf), fx27⟩ hv27 dX2_perform_254
  have k29 := if_f k4 q5
  by_cases q30 : v3.toInt = 1
  ·
    refine go_tableIn (pc := 9) (tgt := 90) (off := 81) (by rw [show (v3 : Int32).toInt = v3.toInt from (ti_rfl v3)]; omega) (by rw [show (v3 : Int32).toInt = v3.toInt from (ti_rfl v3)]; omega) (by rw [show (v3 : Int32).toInt = v3.toInt from (ti_rfl v3), q30]; rfl) (by decide) dX2_perform_9 ?_
    have k31 := if_t k29 q30
    refine go_aload_n (pc := 90) rfl dX2_perform_90 ?_
    refine go_iload_n (pc := 91) rfl dX2_perform_91 ?_
    refine go_invV (pc := 92) (sl := 0) (s_X2_open2_f l (d + 1) hv a2 (by rw [show (a2 : Int32).toInt = a2.toInt from (ti_rfl a2)]; omega) (by rw [show (a2 : Int32).toInt = a2.toInt from (ti_rfl a2)]; omega) (fun c2 hc2 => by have e := fc1.symm.trans hc2; cases e; rw [← v3w]; exact q30)) mL_X2_108 iM_X2_open sM_X2_open (hv.sh rfl) rfl rfl rfl (Nat.le_of_ble_eq_true rfl) (show d + 1 + 2 + 1 ≤ d + 4 by omega) (show 8 + (4 + 11) + 40 * (d + 1 + 2) ≤ 40 * (d + 4) by omega) (g_c0 hv.ln) (Nat.le_of_ble_eq_true rfl) dX2_perform_92 ?_
    intro r h32 hq _
    obtain ⟨rfl, hv32, f33, f34⟩ := hq
    have fx32 : FX KAm h h32 := FX.tr fx f34
    have k35 := bd_e k31 f33.symm
    refine go_goto (pc := 95) (tgt := 254) (by decide) dX2_perform_95 ?_
    exact gi_vret (pc := 254) ⟨rfl, hv32, (k35.symm.trans kf), fx32⟩ hv32 dX2_perform_254
  have k36 := if_f k29 q30
  by_cases q37 : v3.toInt = 2
  ·
    refine go_tableIn (pc := 9) (tgt := 176) (off := 167) (by rw [show (v3 : Int32).toInt = v3.toInt from (ti_rfl v3)]; omega) (by rw [show (v3 : Int32).toInt = v3.toInt from (ti_rfl v3)]; omega) (by rw [show (v3 : Int32).toInt = v3.toInt from (ti_rfl v3), q37]; rfl) (by decide) dX2_perform_9 ?_
    have k38 := if_t k36 q37
    refine go_aload_n (pc := 176) rfl dX2_perform_176 ?_
    refine go_aload_n (pc := 177) rfl dX2_perform_177 ?_
    refine gi_getC (pc := 178) hv fL_X2_50 rfl (Nat.le_of_ble_eq_true rfl) rfl (by decide) dX2_perform_178 (fun c39 hc39 fc39 => ?_)
    have k40 := bd_e k38 (st_c fc39)
    refine gi_getF (pc := 181) (q := c39 + 9) hv fL_X2_111 (by rcases hc39 with rfl | rfl <;> rfl) (Nat.le_of_ble_eq_true rfl) rfl (by rcases hc39 with rfl | rfl <;> exact hv.rf (by decide)) dX2_perform_181 ?_
    refine go_iload_n (pc := 184) rfl dX2_perform_184 ?_
    refine gi_iald (pc := 185) (lo := -2147483648) (hi := 2147483647) (len := 40) hv (ti_rfl a2) (by rcases hc39 with rfl | rfl <;> rfl) (by omega) (by omega) (fun _ => by rcases hc39 with rfl | rfl <;> rfl) dX2_perform_185 (fun v41 v41l v41u v41w => ?_)
    have k42 := bd_e k40 (congrArg Int32.toInt v41w.symm)
    refine go_invV (pc := 186) (sl := 0) (s_X2_load2_f l (d + 2) hv v41) mL_X2_114 iM_X2_load sM_X2_load (hv.sh rfl) rfl rfl rfl (Nat.le_of_ble_eq_true rfl) (show d + 2 + 1 + 1 ≤ d + 4 by omega) (show 8 + (2 + 11) + 40 * (d + 2 + 1) ≤ 40 * (d + 4) by omega) (g_c0 hv.ln) (Nat.le_of_ble_eq_true rfl) dX2_perform_186 ?_
    intro r h43 hq _
    obtain ⟨v45, rfl, v45l, v45u, rfl, f44⟩ := hq
    replace f44 : PE _ _ := f44
    have k46 := bd_e k42 f44.symm
    refine go_aload_n (pc := 189) rfl dX2_perform_189 ?_
    refine go_aload_n (pc := 190) rfl dX2_perform_190 ?_
    refine gi_getC (pc := 191) hv fL_X2_50 rfl (Nat.le_of_ble_eq_true rfl) rfl (by decide) dX2_perform_191 (fun c47 hc47 fc47 => ?_)
    have k48 := bd_e k46 (st_c fc47)
    refine gi_getF (pc := 194) (q := c47 + 10) hv fL_X2_120 (by rcases hc47 with rfl | rfl <;> rfl) (Nat.le_of_ble_eq_true rfl) rfl (by rcases hc47 with rfl | rfl <;> exact hv.rf (by decide)) dX2_perform_194 ?_
    refine go_iload_n (pc := 197) rfl dX2_perform_197 ?_
    refine gi_iald (pc := 198) (lo := -2147483648) (hi := 2147483647) (len := 40) hv (ti_rfl a2) (by rcases hc47 with rfl | rfl <;> rfl) (by omega) (by omega) (fun _ => by rcases hc47 with rfl | rfl <;> rfl) dX2_perform_198 (fun v49 v49l v49u v49w => ?_)
    have k50 := bd_e k48 (congrArg Int32.toInt v49w.symm)
    refine go_invV (pc := 199) (sl := 0) (s_X2_load2_f l (d + 2) hv v49) mL_X2_114 iM_X2_load sM_X2_load (hv.sh rfl) rfl rfl rfl (Nat.le_of_ble_eq_true rfl) (show d + 2 + 1 + 1 ≤ d + 4 by omega) (show 8 + (2 + 11) + 40 * (d + 2 + 1) ≤ 40 * (d + 4) by omega) (g_c0 hv.ln) (Nat.le_of_ble_eq_true rfl) dX2_perform_199 ?_
    intro r h51 hq _
    obtain ⟨v53, rfl, v53l, v53u, rfl, f52⟩ := hq
    replace f52 : PE _ _ := f52
    have k54 := bd_e k50 f52.symm
    refine gf_icmp_ge (pc := 202) (tgt := 209) (ti_rfl v45) (ti_rfl v53) (by decide) dX2_perform_202 (fun q55 => ?_) (fun q55 => ?_)
    ·
      have k56 := if_t k54 q55
      refine go_iconst (pc := 209) (v := 0) (by decide) dX2_perform_209 ?_
      refine go_istore_n (pc := 210) (Nat.le_of_ble_eq_true rfl) dX2_perform_210 (go_lv (lv2 := [(0, .ref 64), (1, .int a2), (3, .int 0)]) rfl ?_)
      refine go_aload_n (pc := 211) rfl dX2_perform_211 ?_
      refine go_iload_n (pc := 212) rfl dX2_perform_212 ?_
      refine go_iload_n (pc := 213) rfl dX2_perform_213 ?_
      refine gf_if_eq (pc := 214) (tgt := 221) (ti_c (v := 0) (a := 0) (by decide)) (by decide) dX2_perform_214 (fun q57 => ?_) (fun q57 => False.elim (by omega))
      refine go_iconst (pc := 221) (v := 0) (by decide) dX2_perform_221 ?_
      refine go_invV (pc := 222) (sl := 0) (s_X2_see2_f l (d + 2) hv a2 0) mL_X2_102 iM_X2_see sM_X2_see (hv.sh rfl) rfl rfl rfl (Nat.le_of_ble_eq_true rfl) (show d + 2 + 1 + 1 ≤ d + 4 by omega) (show 8 + (3 + 11) + 40 * (d + 2 + 1) ≤ 40 * (d + 4) by omega) (g_c0 hv.ln) (Nat.le_of_ble_eq_true rfl) dX2_perform_222 ?_
      intro r h58 hq _
      obtain ⟨rfl, hv58, f59, f60⟩ := hq
      try rw [show (0 : Int32).toInt = 0 from (ti_c (v := 0) (a := 0) (by decide))] at f59
      try rw [show (0 : Int32).toInt = 0 from (ti_c (v := 0) (a := 0) (by decide))] at f60
      have fx58 : FX KAm h h58 := FX.tr fx f60
      have k61 := bd_e k56 f59.symm
      refine go_aload_n (pc := 225) rfl dX2_perform_225 ?_
      refine go_iload_n (pc := 226) rfl dX2_perform_226 ?_
      refine gf_if_eq (pc := 227) (tgt := 242) (ti_c (v := 0) (a := 0) (by decide)) (by decide) dX2_perform_227 (fun q62 => ?_) (fun q62 => False.elim (by omega))
      refine go_aload_n (pc := 242) rfl dX2_perform_242 ?_
      refine gi_getC (pc := 243) hv58 fL_X2_50 rfl (Nat.le_of_ble_eq_true rfl) rfl (by decide) dX2_perform_243 (fun c63 hc63 fc63 => ?_)
      have k64 := bd_e k61 (st_c fc63)
      refine gi_getF (pc := 246) (q := c63 + 12) hv58 fL_X2_105 (by rcases hc63 with rfl | rfl <;> rfl) (Nat.le_of_ble_eq_true rfl) rfl (by rcases hc63 with rfl | rfl <;> exact hv58.rf (by decide)) dX2_perform_246 ?_
      refine go_iload_n (pc := 249) rfl dX2_perform_249 ?_
      refine gi_iald (pc := 250) (lo := 0) (hi := 44) (len := 40) hv58 (ti_rfl a2) (by rcases hc63 with rfl | rfl <;> rfl) (by omega) (by omega) (fun _ => by rcases hc63 with rfl | rfl <;> rfl) dX2_perform_250 (fun v65 v65l v65u v65w => ?_)
      have k66 := bd_e k64 (congrArg Int32.toInt v65w.symm)
      refine gi_put (pc := 251) (lo := 0) (hi := 44) hv58 (ti_rfl v65) (fP_X2_25 _) rfl (Nat.le_of_ble_eq_true rfl) rfl rfl (by omega) (by omega) rfl rfl (by decide) (by decide) (by decide) (by decide) dX2_perform_251 (fun h67 hv67 hv67e => ?_)
      have fx67 : FX KAm h h67 := FX.pI fx58 hv67e (by unfold KAm; omega)
      have k68 := bd_e k66 (st_I hv67e (ti_rfl v65))
      exact gi_vret (pc := 254) ⟨rfl, hv67, (k68.symm.trans kf), fx67⟩ hv67 dX2_perform_254
    ·
      have k69 := if_f k54 (Int.not_le.mpr q55)
      refine go_iconst (pc := 205) (v := 1) (by decide) dX2_perform_205 ?_
      refine go_goto (pc := 206) (tgt := 210) (by decide) dX2_perform_206 ?_
      refine go_istore_n (pc := 210) (Nat.le_of_ble_eq_true rfl) dX2_perform_210 (go_lv (lv2 := [(0, .ref 64), (1, .int a2), (3, .int 1)]) rfl ?_)
      refine go_aload_n (pc := 211) rfl dX2_perform_211 ?_
      refine go_iload_n (pc := 212) rfl dX2_perform_212 ?_
      refine go_iload_n (pc := 213) rfl dX2_perform_213 ?_
      refine gf_if_eq (pc := 214) (tgt := 221) (ti_c (v := 1) (a := 1) (by decide)) (by decide) dX2_perform_214 (fun q70 => False.elim (by omega)) (fun q70 => ?_)
      refine go_iconst (pc := 217) (v := 1) (by decide) dX2_perform_217 ?_
      refine go_goto (pc := 218) (tgt := 222) (by decide) dX2_perform_218 ?_
      refine go_invV (pc := 222) (sl := 0) (s_X2_see2_f l (d + 2) hv a2 1) mL_X2_102 iM_X2_see sM_X2_see (hv.sh rfl) rfl rfl rfl (Nat.le_of_ble_eq_true rfl) (show d + 2 + 1 + 1 ≤ d + 4 by omega) (show 8 + (3 + 11) + 40 * (d + 2 + 1) ≤ 40 * (d + 4) by omega) (g_c0 hv.ln) (Nat.le_of_ble_eq_true rfl) dX2_perform_222 ?_
      intro r h71 hq _
      obtain ⟨rfl, hv71, f72, f73⟩ := hq
      try rw [show (1 : Int32).toInt = 1 from (ti_c (v := 1) (a := 1) (by decide))] at f72
      try rw [show (1 : Int32).toInt = 1 from (ti_c (v := 1) (a := 1) (by decide))] at f73
      have fx71 : FX KAm h h71 := FX.tr fx f73
      have k74 := bd_e k69 f72.symm
      refine go_aload_n (pc := 225) rfl dX2_perform_225 ?_
      refine go_iload_n (pc := 226) rfl dX2_perform_226 ?_
      refine gf_if_eq (pc := 227) (tgt := 242) (ti_c (v := 1) (a := 1) (by decide)) (by decide) dX2_perform_227 (fun q75 => False.elim (by omega)) (fun q75 => ?_)
      refine go_aload_n (pc := 230) rfl dX2_perform_230 ?_
      refine gi_getC (pc := 231) hv71 fL_X2_50 rfl (Nat.le_of_ble_eq_true rfl) rfl (by decide) dX2_perform_231 (fun c76 hc76 fc76 => ?_)
      have k77 := bd_e k74 (st_c fc76)
      refine gi_getF (pc := 234) (q := c76 + 13) hv71 fL_X2_123 (by rcases hc76 with rfl | rfl <;> rfl) (Nat.le_of_ble_eq_true rfl) rfl (by rcases hc76 with rfl | rfl <;> exact hv71.rf (by decide)) dX2_perform_234 ?_
      refine go_iload_n (pc := 237) rfl dX2_perform_237 ?_
      refine gi_iald (pc := 238) (lo := 0) (hi := 44) (len := 40) hv71 (ti_rfl a2) (by rcases hc76 with rfl | rfl <;> rfl) (by omega) (by omega) (fun _ => by rcases hc76 with rfl | rfl <;> rfl) dX2_perform_238 (fun v78 v78l v78u v78w => ?_)
      have k79 := bd_e k77 (congrArg Int32.toInt v78w.symm)
      refine go_goto (pc := 239) (tgt := 251) (by decide) dX2_perform_239 ?_
      refine gi_put (pc := 251) (lo := 0) (hi := 44) hv71 (ti_rfl v78) (fP_X2_25 _) rfl (Nat.le_of_ble_eq_true rfl) rfl rfl (by omega) (by omega) rfl rfl (by decide) (by decide) (by decide) (by decide) dX2_perform_251 (fun h80 hv80 hv80e => ?_)
      have fx80 : FX KAm h h80 := FX.pI fx71 hv80e (by unfold KAm; omega)
      have k81 := bd_e k79 (st_I hv80e (ti_rfl v78))
      exact gi_vret (pc := 254) ⟨rfl, hv80, (k81.symm.trans kf), fx80⟩ hv80 dX2_perform_254
  have k82 := if_f k36 q37
  by_cases q83 : v3.toInt = 3
  ·
    refine go_tableIn (pc := 9) (tgt := 176) (off := 167) (by rw [show (v3 : Int32).toInt = v3.toInt from (ti_rfl v3)]; omega) (by rw [show (v3 : Int32).toInt = v3.toInt from (ti_rfl v3)]; omega) (by rw [show (v3 : Int32).toInt = v3.toInt from (ti_rfl v3), q83]; rfl) (by decide) dX2_perform_9 ?_
    have k84 := if_t k82 q83
    refine go_aload_n (pc := 176) rfl dX2_perform_176 ?_
    refine go_aload_n (pc := 177) rfl dX2_perform_177 ?_
    refine gi_getC (pc := 178) hv fL_X2_50 rfl (Nat.le_of_ble_eq_true rfl) rfl (by decide) dX2_perform_178 (fun c85 hc85 fc85 => ?_)
    have k86 := bd_e k84 (st_c fc85)
    refine gi_getF (pc := 181) (q := c85 + 9) hv fL_X2_111 (by rcases hc85 with rfl | rfl <;> rfl) (Nat.le_of_ble_eq_true rfl) rfl (by rcases hc85 with rfl | rfl <;> exact hv.rf (by decide)) dX2_perform_181 ?_
    refine go_iload_n (pc := 184) rfl dX2_perform_184 ?_
    refine gi_iald (pc := 185) (lo := -2147483648) (hi := 2147483647) (len := 40) hv (ti_rfl a2) (by rcases hc85 with rfl | rfl <;> rfl) (by omega) (by omega) (fun _ => by rcases hc85 with rfl | rfl <;> rfl) dX2_perform_185 (fun v87 v87l v87u v87w => ?_)
    have k88 := bd_e k86 (congrArg Int32.toInt v87w.symm)
    refine go_invV (pc := 186) (sl := 0) (s_X2_load2_f l (d + 2) hv v87) mL_X2_114 iM_X2_load sM_X2_load (hv.sh rfl) rfl rfl rfl (Nat.le_of_ble_eq_true rfl) (show d + 2 + 1 + 1 ≤ d + 4 by omega) (show 8 + (2 + 11) + 40 * (d + 2 + 1) ≤ 40 * (d + 4) by omega) (g_c0 hv.ln) (Nat.le_of_ble_eq_true rfl) dX2_perform_186 ?_
    intro r h89 hq _
    obtain ⟨v91, rfl, v91l, v91u, rfl, f90⟩ := hq
    replace f90 : PE _ _ := f90
    have k92 := bd_e k88 f90.symm
    refine go_aload_n (pc := 189) rfl dX2_perform_189 ?_
    refine go_aload_n (pc := 190) rfl dX2_perform_190 ?_
    refine gi_getC (pc := 191) hv fL_X2_50 rfl (Nat.le_of_ble_eq_true rfl) rfl (by decide) dX2_perform_191 (fun c93 hc93 fc93 => ?_)
    have k94 := bd_e k92 (st_c fc93)
    refine gi_getF (pc := 194) (q := c93 + 10) hv fL_X2_120 (by rcases hc93 with rfl | rfl <;> rfl) (Nat.le_of_ble_eq_true rfl) rfl (by rcases hc93 with rfl | rfl <;> exact hv.rf (by decide)) dX2_perform_194 ?_
    refine go_iload_n (pc := 197) rfl dX2_perform_197 ?_
    refine gi_iald (pc := 198) (lo := -2147483648) (hi := 2147483647) (len := 40) hv (ti_rfl a2) (by rcases hc93 with rfl | rfl <;> rfl) (by omega) (by omega) (fun _ => by rcases hc93 with rfl | rfl <;> rfl) dX2_perform_198 (fun v95 v95l v95u v95w => ?_)
    have k96 := bd_e k94 (congrArg Int32.toInt v95w.symm)
    refine go_invV (pc := 199) (sl := 0) (s_X2_load2_f l (d + 2) hv v95) mL_X2_114 iM_X2_load sM_X2_load (hv.sh rfl) rfl rfl rfl (Nat.le_of_ble_eq_true rfl) (show d + 2 + 1 + 1 ≤ d + 4 by omega) (show 8 + (2 + 11) + 40 * (d + 2 + 1) ≤ 40 * (d + 4) by omega) (g_c0 hv.ln) (Nat.le_of_ble_eq_true rfl) dX2_perform_199 ?_
    intro r h97 hq _
    obtain ⟨v99, rfl, v99l, v99u, rfl, f98⟩ := hq
    replace f98 : PE _ _ := f98
    have k100 := bd_e k96 f98.symm
    refine gf_icmp_ge (pc := 202) (tgt := 209) (ti_rfl v91) (ti_rfl v99) (by decide) dX2_perform_202 (fun q101 => ?_) (fun q101 => ?_)
    ·
      have k102 := if_t k100 q101
      refine go_iconst (pc := 209) (v := 0) (by decide) dX2_perform_209 ?_
      refine go_istore_n (pc := 210) (Nat.le_of_ble_eq_true rfl) dX2_perform_210 (go_lv (lv2 := [(0, .ref 64), (1, .int a2), (3, .int 0)]) rfl ?_)
      refine go_aload_n (pc := 211) rfl dX2_perform_211 ?_
      refine go_iload_n (pc := 212) rfl dX2_perform_212 ?_
      refine go_iload_n (pc := 213) rfl dX2_perform_213 ?_
      refine gf_if_eq (pc := 214) (tgt := 221) (ti_c (v := 0) (a := 0) (by decide)) (by decide) dX2_perform_214 (fun q103 => ?_) (fun q103 => False.elim (by omega))
      refine go_iconst (pc := 221) (v := 0) (by decide) dX2_perform_221 ?_
      refine go_invV (pc := 222) (sl := 0) (s_X2_see2_f l (d + 2) hv a2 0) mL_X2_102 iM_X2_see sM_X2_see (hv.sh rfl) rfl rfl rfl (Nat.le_of_ble_eq_true rfl) (show d + 2 + 1 + 1 ≤ d + 4 by omega) (show 8 + (3 + 11) + 40 * (d + 2 + 1) ≤ 40 * (d + 4) by omega) (g_c0 hv.ln) (Nat.le_of_ble_eq_true rfl) dX2_perform_222 ?_
      intro r h104 hq _
      obtain ⟨rfl, hv104, f105, f106⟩ := hq
      try rw [show (0 : Int32).toInt = 0 from (ti_c (v := 0) (a := 0) (by decide))] at f105
      try rw [show (0 : Int32).toInt = 0 from (ti_c (v := 0) (a := 0) (by decide))] at f106
      have fx104 : FX KAm h h104 := FX.tr fx f106
      have k107 := bd_e k102 f105.symm
      refine go_aload_n (pc := 225) rfl dX2_perform_225 ?_
      refine go_iload_n (pc := 226) rfl dX2_perform_226 ?_
      refine gf_if_eq (pc := 227) (tgt := 242) (ti_c (v := 0) (a := 0) (by decide)) (by decide) dX2_perform_227 (fun q108 => ?_) (fun q108 => False.elim (by omega))
      refine go_aload_n (pc := 242) rfl dX2_perform_242 ?_
      refine gi_getC (pc := 243) hv104 fL_X2_50 rfl (Nat.le_of_ble_eq_true rfl) rfl (by decide) dX2_perform_243 (fun c109 hc109 fc109 => ?_)
      have k110 := bd_e k107 (st_c fc109)
      refine gi_getF (pc := 246) (q := c109 + 12) hv104 fL_X2_105 (by rcases hc109 with rfl | rfl <;> rfl) (Nat.le_of_ble_eq_true rfl) rfl (by rcases hc109 with rfl | rfl <;> exact hv104.rf (by decide)) dX2_perform_246 ?_
      refine go_iload_n (pc := 249) rfl dX2_perform_249 ?_
      refine gi_iald (pc := 250) (lo := 0) (hi := 44) (len := 40) hv104 (ti_rfl a2) (by rcases hc109 with rfl | rfl <;> rfl) (by omega) (by omega) (fun _ => by rcases hc109 with rfl | rfl <;> rfl) dX2_perform_250 (fun v111 v111l v111u v111w => ?_)
      have k112 := bd_e k110 (congrArg Int32.toInt v111w.symm)
      refine gi_put (pc := 251) (lo := 0) (hi := 44) hv104 (ti_rfl v111) (fP_X2_25 _) rfl (Nat.le_of_ble_eq_true rfl) rfl rfl (by omega) (by omega) rfl rfl (by decide) (by decide) (by decide) (by decide) dX2_perform_251 (fun h113 hv113 hv113e => ?_)
      have fx113 : FX KAm h h113 := FX.pI fx104 hv113e (by unfold KAm; omega)
      have k114 := bd_e k112 (st_I hv113e (ti_rfl v111))
      exact gi_vret (pc := 254) ⟨rfl, hv113, (k114.symm.trans kf), fx113⟩ hv113 dX2_perform_254
    ·
      have k115 := if_f k100 (Int.not_le.mpr q101)
      refine go_iconst (pc := 205) (v := 1) (by decide) dX2_perform_205 ?_
      refine go_goto (pc := 206) (tgt := 210) (by decide) dX2_perform_206 ?_
      refine go_istore_n (pc := 210) (Nat.le_of_ble_eq_true rfl) dX2_perform_210 (go_lv (lv2 := [(0, .ref 64), (1, .int a2), (3, .int 1)]) rfl ?_)
      refine go_aload_n (pc := 211) rfl dX2_perform_211 ?_
      refine go_iload_n (pc := 212) rfl dX2_perform_212 ?_
      refine go_iload_n (pc := 213) rfl dX2_perform_213 ?_
      refine gf_if_eq (pc := 214) (tgt := 221) (ti_c (v := 1) (a := 1) (by decide)) (by decide) dX2_perform_214 (fun q116 => False.elim (by omega)) (fun q116 => ?_)
      refine go_iconst (pc := 217) (v := 1) (by decide) dX2_perform_217 ?_
      refine go_goto (pc := 218) (tgt := 222) (by decide) dX2_perform_218 ?_
      refine go_invV (pc := 222) (sl := 0) (s_X2_see2_f l (d + 2) hv a2 1) mL_X2_102 iM_X2_see sM_X2_see (hv.sh rfl) rfl rfl rfl (Nat.le_of_ble_eq_true rfl) (show d + 2 + 1 + 1 ≤ d + 4 by omega) (show 8 + (3 + 11) + 40 * (d + 2 + 1) ≤ 40 * (d + 4) by omega) (g_c0 hv.ln) (Nat.le_of_ble_eq_true rfl) dX2_perform_222 ?_
      intro r h117 hq _
      obtain ⟨rfl, hv117, f118, f119⟩ := hq
      try rw [show (1 : Int32).toInt = 1 from (ti_c (v := 1) (a := 1) (by decide))] at f118
      try rw [show (1 : Int32).toInt = 1 from (ti_c (v := 1) (a := 1) (by decide))] at f119
      have fx117 : FX KAm h h117 := FX.tr fx f119
      have k120 := bd_e k115 f118.symm
      refine go_aload_n (pc := 225) rfl dX2_perform_225 ?_
      refine go_iload_n (pc := 226) rfl dX2_perform_226 ?_
      refine gf_if_eq (pc := 227) (tgt := 242) (ti_c (v := 1) (a := 1) (by decide)) (by decide) dX2_perform_227 (fun q121 => False.elim (by omega)) (fun q121 => ?_)
      refine go_aload_n (pc := 230) rfl dX2_perform_230 ?_
      refine gi_getC (pc := 231) hv117 fL_X2_50 rfl (Nat.le_of_ble_eq_true rfl) rfl (by decide) dX2_perform_231 (fun c122 hc122 fc122 => ?_)
      have k123 := bd_e k120 (st_c fc122)
      refine gi_getF (pc := 234) (q := c122 + 13) hv117 fL_X2_123 (by rcases hc122 with rfl | rfl <;> rfl) (Nat.le_of_ble_eq_true rfl) rfl (by rcases hc122 with rfl | rfl <;> exact hv117.rf (by decide)) dX2_perform_234 ?_
      refine go_iload_n (pc := 237) rfl dX2_perform_237 ?_
      refine gi_iald (pc := 238) (lo := 0) (hi := 44) (len := 40) hv117 (ti_rfl a2) (by rcases hc122 with rfl | rfl <;> rfl) (by omega) (by omega) (fun _ => by rcases hc122 with rfl | rfl <;> rfl) dX2_perform_238 (fun v124 v124l v124u v124w => ?_)
      have k125 := bd_e k123 (congrArg Int32.toInt v124w.symm)
      refine go_goto (pc := 239) (tgt := 251) (by decide) dX2_perform_239 ?_
      refine gi_put (pc := 251) (lo := 0) (hi := 44) hv117 (ti_rfl v124) (fP_X2_25 _) rfl (Nat.le_of_ble_eq_true rfl) rfl rfl (by omega) (by omega) rfl rfl (by decide) (by decide) (by decide) (by decide) dX2_perform_251 (fun h126 hv126 hv126e => ?_)
      have fx126 : FX KAm h h126 := FX.pI fx117 hv126e (by unfold KAm; omega)
      have k127 := bd_e k125 (st_I hv126e (ti_rfl v124))
      exact gi_vret (pc := 254) ⟨rfl, hv126, (k127.symm.trans kf), fx126⟩ hv126 dX2_perform_254
  have k128 := if_f k82 q83
  by_cases q129 : v3.toInt = 4
  ·
    refine go_tableIn (pc := 9) (tgt := 98) (off := 89) (by rw [show (v3 : Int32).toInt = v3.toInt from (ti_rfl v3)]; omega) (by rw [show (v3 : Int32).toInt = v3.toInt from (ti_rfl v3)]; omega) (by rw [show (v3 : Int32).toInt = v3.toInt from (ti_rfl v3), q129]; rfl) (by decide) dX2_perform_9 ?_
    have k130 := if_t k128 q129
    refine go_aload_n (pc := 98) rfl dX2_perform_98 ?_
    refine go_iload_n (pc := 99) rfl dX2_perform_99 ?_
    refine go_aload_n (pc := 100) rfl dX2_perform_100 ?_
    refine go_aload_n (pc := 101) rfl dX2_perform_101 ?_
    refine gi_getC (pc := 102) hv fL_X2_50 rfl (Nat.le_of_ble_eq_true rfl) rfl (by decide) dX2_perform_102 (fun c131 hc131 fc131 => ?_)
    have k132 := bd_e k130 (st_c fc131)
    refine gi_getF (pc := 105) (q := c131 + 9) hv fL_X2_111 (by rcases hc131 with rfl | rfl <;> rfl) (Nat.le_of_ble_eq_true rfl) rfl (by rcases hc131 with rfl | rfl <;> exact hv.rf (by decide)) dX2_perform_105 ?_
    refine go_iload_n (pc := 108) rfl dX2_perform_108 ?_
    refine gi_iald (pc := 109) (lo := -2147483648) (hi := 2147483647) (len := 40) hv (ti_rfl a2) (by rcases hc131 with rfl | rfl <;> rfl) (by omega) (by omega) (fun _ => by rcases hc131 with rfl | rfl <;> rfl) dX2_perform_109 (fun v133 v133l v133u v133w => ?_)
    have k134 := bd_e k132 (congrArg Int32.toInt v133w.symm)
    refine go_invV (pc := 110) (sl := 0) (s_X2_load2_f l (d + 2) hv v133) mL_X2_114 iM_X2_load sM_X2_load (hv.sh rfl) rfl rfl rfl (Nat.le_of_ble_eq_true rfl) (show d + 2 + 1 + 1 ≤ d + 4 by omega) (show 8 + (2 + 11) + 40 * (d + 2 + 1) ≤ 40 * (d + 4) by omega) (g_c0 hv.ln) (Nat.le_of_ble_eq_true rfl) dX2_perform_110 ?_
    intro r h135 hq _
    obtain ⟨v137, rfl, v137l, v137u, rfl, f136⟩ := hq
    replace f136 : PE _ _ := f136
    have k138 := bd_e k134 f136.symm
    refine go_invV (pc := 113) (sl := 0) (s_X2_see2_f l (d + 2) hv a2 v137) mL_X2_102 iM_X2_see sM_X2_see (hv.sh rfl) rfl rfl rfl (Nat.le_of_ble_eq_true rfl) (show d + 2 + 1 + 1 ≤ d + 4 by omega) (show 8 + (3 + 11) + 40 * (d + 2 + 1) ≤ 40 * (d + 4) by omega) (g_c0 hv.ln) (Nat.le_of_ble_eq_true rfl) dX2_perform_113 ?_
    intro r h139 hq _
    obtain ⟨rfl, hv139, f140, f141⟩ := hq
    have fx139 : FX KAm h h139 := FX.tr fx f141
    have k142 := bd_e k138 f140.symm
    refine go_aload_n (pc := 116) rfl dX2_perform_116 ?_
    refine go_iload_n (pc := 117) rfl dX2_perform_117 ?_
    refine go_aload_n (pc := 118) rfl dX2_perform_118 ?_
    refine go_aload_n (pc := 119) rfl dX2_perform_119 ?_
    refine gi_getC (pc := 120) hv139 fL_X2_50 rfl (Nat.le_of_ble_eq_true rfl) rfl (by decide) dX2_perform_120 (fun c143 hc143 fc143 => ?_)
    have k144 := bd_e k142 (st_c fc143)
    refine gi_getF (pc := 123) (q := c143 + 9) hv139 fL_X2_111 (by rcases hc143 with rfl | rfl <;> rfl) (Nat.le_of_ble_eq_true rfl) rfl (by rcases hc143 with rfl | rfl <;> exact hv139.rf (by decide)) dX2_perform_123 ?_
    refine go_iload_n (pc := 126) rfl dX2_perform_126 ?_
    refine gi_iald (pc := 127) (lo := -2147483648) (hi := 2147483647) (len := 40) hv139 (ti_rfl a2) (by rcases hc143 with rfl | rfl <;> rfl) (by omega) (by omega) (fun _ => by rcases hc143 with rfl | rfl <;> rfl) dX2_perform_127 (fun v145 v145l v145u v145w => ?_)
    have k146 := bd_e k144 (congrArg Int32.toInt v145w.symm)
    refine go_invV (pc := 128) (sl := 0) (s_X2_load2_f l (d + 2) hv139 v145) mL_X2_114 iM_X2_load sM_X2_load (hv139.sh rfl) rfl rfl rfl (Nat.le_of_ble_eq_true rfl) (show d + 2 + 1 + 1 ≤ d + 4 by omega) (show 8 + (2 + 11) + 40 * (d + 2 + 1) ≤ 40 * (d + 4) by omega) (g_c0 hv139.ln) (Nat.le_of_ble_eq_true rfl) dX2_perform_128 ?_
    intro r h147 hq _
    obtain ⟨v149, rfl, v149l, v149u, rfl, f148⟩ := hq
    replace f148 : PE _ _ := f148
    have k150 := bd_e k146 f148.symm
    refine go_invV (pc := 131) (sl := 0) (s_X2_raise2_f l (d + 0) hv139 a2 (by rw [show (a2 : Int32).toInt = a2.toInt from (ti_rfl a2)]; omega) (by rw [show (a2 : Int32).toInt = a2.toInt from (ti_rfl a2)]; omega) v149) mL_X2_117 iM_X2_raise sM_X2_raise (hv139.sh rfl) rfl rfl rfl (Nat.le_of_ble_eq_true rfl) (show d + 0 + 3 + 1 ≤ d + 4 by omega) (show 8 + (3 + 11) + 40 * (d + 0 + 3) ≤ 40 * (d + 4) by omega) (g_c0 hv139.ln) (Nat.le_of_ble_eq_true rfl) dX2_perform_131 ?_
    intro r h151 hq _
    obtain ⟨rfl, hv151, f152, f153⟩ := hq
    have fx151 : FX KAm h h151 := FX.tr fx139 f153
    have k154 := bd_e k150 f152.symm
    refine go_goto (pc := 134) (tgt := 254) (by decide) dX2_perform_134 ?_
    exact gi_vret (pc := 254) ⟨rfl, hv151, (k154.symm.trans kf), fx151⟩ hv151 dX2_perform_254
  have k155 := if_f k128 q129
  by_cases q156 : v3.toInt = 5
  ·
    refine go_tableIn (pc := 9) (tgt := 137) (off := 128) (by rw [show (v3 : Int32).toInt = v3.toInt from (ti_rfl v3)]; omega) (by rw [show (v3 : Int32).toInt = v3.toInt from (ti_rfl v3)]; omega) (by rw [show (v3 : Int32).toInt = v3.toInt from (ti_rfl v3), q156]; rfl) (by decide) dX2_perform_9 ?_
    refine go_aload_n (pc := 137) rfl dX2_perform_137 ?_
    refine go_iload_n (pc := 138) rfl dX2_perform_138 ?_
    refine go_aload_n (pc := 139) rfl dX2_perform_139 ?_
    refine go_aload_n (pc := 140) rfl dX2_perform_140 ?_
    refine gi_getC (pc := 141) hv fL_X2_50 rfl (Nat.le_of_ble_eq_true rfl) rfl (by decide) dX2_perform_141 (fun c157 hc157 fc157 => ?_)
    have k158 := bd_e k155 (st_c fc157)
    refine gi_getF (pc := 144) (q := c157 + 9) hv fL_X2_111 (by rcases hc157 with rfl | rfl <;> rfl) (Nat.le_of_ble_eq_true rfl) rfl (by rcases hc157 with rfl | rfl <;> exact hv.rf (by decide)) dX2_perform_144 ?_
    refine go_iload_n (pc := 147) rfl dX2_perform_147 ?_
    refine gi_iald (pc := 148) (lo := -2147483648) (hi := 2147483647) (len := 40) hv (ti_rfl a2) (by rcases hc157 with rfl | rfl <;> rfl) (by omega) (by omega) (fun _ => by rcases hc157 with rfl | rfl <;> rfl) dX2_perform_148 (fun v159 v159l v159u v159w => ?_)
    have k160 := bd_e k158 (congrArg Int32.toInt v159w.symm)
    refine go_invV (pc := 149) (sl := 0) (s_X2_load2_f l (d + 2) hv v159) mL_X2_114 iM_X2_load sM_X2_load (hv.sh rfl) rfl rfl rfl (Nat.le_of_ble_eq_true rfl) (show d + 2 + 1 + 1 ≤ d + 4 by omega) (show 8 + (2 + 11) + 40 * (d + 2 + 1) ≤ 40 * (d + 4) by omega) (g_c0 hv.ln) (Nat.le_of_ble_eq_true rfl) dX2_perform_149 ?_
    intro r h161 hq _
    obtain ⟨v163, rfl, v163l, v163u, rfl, f162⟩ := hq
    replace f162 : PE _ _ := f162
    have k164 := bd_e k160 f162.symm
    refine go_invV (pc := 152) (sl := 0) (s_X2_see2_f l (d + 2) hv a2 v163) mL_X2_102 iM_X2_see sM_X2_see (hv.sh rfl) rfl rfl rfl (Nat.le_of_ble_eq_true rfl) (show d + 2 + 1 + 1 ≤ d + 4 by omega) (show 8 + (3 + 11) + 40 * (d + 2 + 1) ≤ 40 * (d + 4) by omega) (g_c0 hv.ln) (Nat.le_of_ble_eq_true rfl) dX2_perform_152 ?_
    intro r h165 hq _
    obtain ⟨rfl, hv165, f166, f167⟩ := hq
    have fx165 : FX KAm h h165 := FX.tr fx f167
    have k168 := bd_e k164 f166.symm
    refine go_aload_n (pc := 155) rfl dX2_perform_155 ?_
    refine go_aload_n (pc := 156) rfl dX2_perform_156 ?_
    refine go_aload_n (pc := 157) rfl dX2_perform_157 ?_
    refine gi_getC (pc := 158) hv165 fL_X2_50 rfl (Nat.le_of_ble_eq_true rfl) rfl (by decide) dX2_perform_158 (fun c169 hc169 fc169 => ?_)
    have k170 := bd_e k168 (st_c fc169)
    refine gi_getF (pc := 161) (q := c169 + 9) hv165 fL_X2_111 (by rcases hc169 with rfl | rfl <;> rfl) (Nat.le_of_ble_eq_true rfl) rfl (by rcases hc169 with rfl | rfl <;> exact hv165.rf (by decide)) dX2_perform_161 ?_
    refine go_iload_n (pc := 164) rfl dX2_perform_164 ?_
    refine gi_iald (pc := 165) (lo := -2147483648) (hi := 2147483647) (len := 40) hv165 (ti_rfl a2) (by rcases hc169 with rfl | rfl <;> rfl) (by omega) (by omega) (fun _ => by rcases hc169 with rfl | rfl <;> rfl) dX2_perform_165 (fun v171 v171l v171u v171w => ?_)
    have k172 := bd_e k170 (congrArg Int32.toInt v171w.symm)
    refine go_invV (pc := 166) (sl := 0) (s_X2_load2_f l (d + 2) hv165 v171) mL_X2_114 iM_X2_load sM_X2_load (hv165.sh rfl) rfl rfl rfl (Nat.le_of_ble_eq_true rfl) (show d + 2 + 1 + 1 ≤ d + 4 by omega) (show 8 + (2 + 11) + 40 * (d + 2 + 1) ≤ 40 * (d + 4) by omega) (g_c0 hv165.ln) (Nat.le_of_ble_eq_true rfl) dX2_perform_166 ?_
    intro r h173 hq _
    obtain ⟨v175, rfl, v175l, v175u, rfl, f174⟩ := hq
    replace f174 : PE _ _ := f174
    have k176 := bd_e k172 f174.symm
    refine go_iconst (pc := 169) (v := 0) (by decide) dX2_perform_169 ?_
    refine go_invV (pc := 170) (sl := 0) (s_X2_leave2_f l (d + 1) hv165 v175 0 (by rw [show (0 : Int32).toInt = 0 from (ti_c (v := 0) (a := 0) (by decide))]; omega) (by rw [show (0 : Int32).toInt = 0 from (ti_c (v := 0) (a := 0) (by decide))]; omega)) mL_X2_73 iM_X2_leave sM_X2_leave (hv165.sh rfl) rfl rfl rfl (Nat.le_of_ble_eq_true rfl) (show d + 1 + 2 + 1 ≤ d + 4 by omega) (show 8 + (6 + 11) + 40 * (d + 1 + 2) ≤ 40 * (d + 4) by omega) (g_c0 hv165.ln) (Nat.le_of_ble_eq_true rfl) dX2_perform_170 ?_
    intro r h177 hq _
    obtain ⟨rfl, hv177, f178, f179⟩ := hq
    try rw [show (0 : Int32).toInt = 0 from (ti_c (v := 0) (a := 0) (by decide))] at f178
    try rw [show (0 : Int32).toInt = 0 from (ti_c (v := 0) (a := 0) (by decide))] at f179
    have fx177 : FX KAm h h177 := FX.tr fx165 f179
    have k180 := bd_e k176 f178.symm
    refine go_goto (pc := 173) (tgt := 254) (by decide) dX2_perform_173 ?_
    exact gi_vret (pc := 254) ⟨rfl, hv177, (k180.symm.trans kf), fx177⟩ hv177 dX2_perform_254
  exact False.elim (by omega)
def f_X2_step2 (s : ST) : ST :=
  bd (s.1 64 4) fun v1 => if v1 < 40 then (bd (s.2.1 64 12) fun v5 => bd (f_X7_has s v5 v1) fun v10 => if ¬ v10 = 0 then (bd (s.1 64 5) fun v14 => if v14 < 3000 then (bd (sI s 64 5 ((v14 + 1))) fun s21 => bd (f_X2_perform2 s21 v1) fun s24 => s24) else (bd (sI s 64 6 2) fun s29 => s29)) else (bd (s.2.2 64 11) fun c32 => bd (s.1 (c32 + 11) (v1).toNat) fun v35 => bd (sI s 64 4 v35) fun s37 => s37)) else (bd (f_X2_leave2 s 0 0) fun s40 => s40)
set_option maxHeartbeats 4000000 in
set_option maxRecDepth 100000 in
theorem s_X2_step2_f (l : Launch) (d : Nat) {P : PP} {h : HP} (hv : Iv P h)  : Mt l yX2_step cX2_step 1 none (d + 5) [.ref 64] h 0 0 (fun r h' => r = none ∧ Iv P h' ∧ (st h' = f_X2_step2 (st h)) ∧ (FX KAm h h')) := by
  refine Mt_iv hv (by decide) (Nat.le_of_ble_eq_true rfl) ?_
  show Go l RX2 cX2_step 1 (g_rm (d + 5) 0 0) "step" none 117 0 0 (fun _ _ => True) (fun r h' => r = none ∧ Iv P h' ∧ (st h' = f_X2_step2 (st h)) ∧ (FX KAm h h')) 0 0 [(0, .ref 64)] [] h
  have fx : FX KAm h h := FX.rfl
  obtain ⟨fin, kf⟩ : ∃ z, z = f_X2_step2 (st h) := ⟨_, _root_.rfl⟩
  have k0 := kf
  unfold f_X2_step2 at k0
  refine go_aload_n (pc := 0) rfl dX2_step_0 ?_
  refine gi_get (pc := 1) (lo := 0) (hi := 44) hv fL_X2_25 rfl (Nat.le_of_ble_eq_true rfl) rfl rfl dX2_step_1 (fun v1 v1l v1u v1w => ?_)
  have k2 := bd_e k0 (congrArg Int32.toInt v1w.symm)
  refine go_bipush (pc := 4) (v := 40) (by decide) dX2_step_4 ?_
  refine gf_icmp_lt (pc := 6) (tgt := 18) (ti_rfl v1) (ti_c (v := 40) (a := 40) (by decide)) (by decide) dX2_step_6 (fun q3 => ?_) (fun q3 => ?_)
  ·
    have k4 := if_t k2 q3
    refine go_aload_n (pc := 18) rfl dX2_step_18 ?_
    refine gx_getL (pc := 19) hv fL_X2_46 rfl (Nat.le_of_ble_eq_true rfl) rfl dX2_step_19 (fun v5 v5w => ?_)
    have k6 := bd_e k4 v5w.symm
    refine go_aload_n (pc := 22) rfl dX2_step_22 ?_
    refine gi_get (pc := 23) (lo := 0) (hi := 44) hv fL_X2_25 rfl (Nat.le_of_ble_eq_true rfl) rfl rfl dX2_step_23 (fun v7 v7l v7u v7w => ?_)
    have v7r : v1 = h.2.1 64 4 := v1w
    have v7q : TI v7 v1.toInt := by rw [v7w.trans v7r.symm]; exact (ti_rfl v1)
    refine go_invS (pc := 26) (sl := 0) (s_X7_has_f l (d + 3) hv v5 v7) mL_X2_77 iM_X7_has rfl rfl (Nat.le_of_ble_eq_true rfl) (show d + 3 + 1 + 1 ≤ d + 5 by omega) (show 8 + (3 + 11) + 40 * (d + 3 + 1) ≤ 40 * (d + 5) by omega) (g_c0 hv.ln) (Nat.le_of_ble_eq_true rfl) dX2_step_26 ?_
    intro r h8 hq _
    obtain ⟨v10, rfl, v10l, v10u, rfl, f9⟩ := hq
    try rw [show (v7 : Int32).toInt = v1.toInt from v7q] at f9
    replace f9 : PE _ _ := f9
    have k11 := bd_e k6 f9.symm
    refine gf_if_ne (pc := 29) (tgt := 51) (ti_rfl v10) (by decide) dX2_step_29 (fun q12 => ?_) (fun q12 => ?_)
    ·
      have k13 := if_t k11 q12
      refine go_aload_n (pc := 51) rfl dX2_step_51 ?_
      refine gi_get (pc := 52) (lo := 0) (hi := 3000) hv fL_X2_28 rfl (Nat.le_of_ble_eq_true rfl) rfl rfl dX2_step_52 (fun v14 v14l v14u v14w => ?_)
      have k15 := bd_e k13 (congrArg Int32.toInt v14w.symm)
      refine go_sipush (pc := 55) (v := 3000) (by decide) dX2_step_55 ?_
      refine gf_icmp_lt (pc := 58) (tgt := 69) (ti_rfl v14) (ti_c (v := 3000) (a := 3000) (by decide)) (by decide) dX2_step_58 (fun q16 => ?_) (fun q16 => ?_)
      ·
        have k17 := if_t k15 q16
        refine go_aload_n (pc := 69) rfl dX2_step_69 ?_
        refine go_dup (pc := 70) rfl dX2_step_70 ?_
        refine gi_get (pc := 71) (lo := 0) (hi := 3000) hv fL_X2_28 rfl (Nat.le_of_ble_eq_true rfl) rfl rfl dX2_step_71 (fun v18 v18l v18u v18w => ?_)
        have v18r : v14 = h.2.1 64 5 := v14w
        have v18q : TI v18 v14.toInt := by rw [v18w.trans v18r.symm]; exact (ti_rfl v14)
        refine go_iconst (pc := 74) (v := 1) (by decide) dX2_step_74 ?_
        refine gf_iadd (pc := 75) v18q (ti_c (v := 1) (a := 1) (by decide)) (by omega) (by omega) dX2_step_75 (fun v19 e20 => ?_)
        refine gi_put (pc := 76) (lo := 0) (hi := 3000) hv e20 (fP_X2_28 _) rfl (Nat.le_of_ble_eq_true rfl) rfl rfl (by omega) (by omega) rfl rfl (by decide) (by decide) (by decide) (by decide) dX2_step_76 (fun h21 hv21 hv21e => ?_)
        have fx21 : FX KAm h h21 := FX.pI fx hv21e (by unfold KAm; omega)
        have k22 := bd_e k17 (st_I hv21e e20)
        refine go_aload_n (pc := 79) rfl dX2_step_79 ?_
        refine go_aload_n (pc := 80) rfl dX2_step_80 ?_
        refine gi_get (pc := 81) (lo := 0) (hi := 44) hv21 fL_X2_25 rfl (Nat.le_of_ble_eq_true rfl) rfl rfl dX2_step_81 (fun v23 v23l v23u v23w => ?_)
        have v23r : v1 = h21.2.1 64 4 := (show v1 = h21.2.1 64 4 from by rw [hv21e]; exact (g_iI rfl v1w.symm).symm)
        have v23q : TI v23 v1.toInt := by rw [v23w.trans v23r.symm]; exact (ti_rfl v1)
        refine go_invV (pc := 84) (sl := 0) (s_X2_perform2_f l (d + 0) hv21 v23 (by rw [show (v23 : Int32).toInt = v1.toInt from v23q]; omega) (by rw [show (v23 : Int32).toInt = v1.toInt from v23q]; omega)) mL_X2_84 iM_X2_perform sM_X2_perform (hv21.sh rfl) rfl rfl rfl (Nat.le_of_ble_eq_true rfl) (show d + 0 + 4 + 1 ≤ d + 5 by omega) (show 8 + (4 + 11) + 40 * (d + 0 + 4) ≤ 40 * (d + 5) by omega) (g_c0 hv21.ln) (Nat.le_of_ble_eq_true rfl) dX2_step_84 ?_
        intro r h24 hq _
        obtain ⟨rfl, hv24, f25, f26⟩ := hq
        try rw [show (v23 : Int32).toInt = v1.toInt from v23q] at f25
        try rw [show (v23 : Int32).toInt = v1.toInt from v23q] at f26
        have fx24 : FX KAm h h24 := FX.tr fx21 f26
        have k27 := bd_e k22 f25.symm
        exact gi_vret (pc := 87) ⟨rfl, hv24, (k27.symm.trans kf), fx24⟩ hv24 dX2_step_87
      ·
        have k28 := if_f k15 (Int.not_lt.mpr q16)
        refine go_aload_n (pc := 61) rfl dX2_step_61 ?_
        refine go_iconst (pc := 62) (v := 2) (by decide) dX2_step_62 ?_
        refine gi_put (pc := 63) (lo := -1) (hi := 3) hv (ti_c (v := 2) (a := 2) (by decide)) (fP_X2_31 _) rfl (Nat.le_of_ble_eq_true rfl) rfl rfl (by omega) (by omega) rfl rfl (by decide) (by decide) (by decide) (by decide) dX2_step_63 (fun h29 hv29 hv29e => ?_)
        have fx29 : FX KAm h h29 := FX.pI fx hv29e (by unfold KAm; omega)
        have k30 := bd_e k28 (st_I hv29e (ti_c (v := 2) (a := 2) (by decide)))
        refine go_goto (pc := 66) (tgt := 87) (by decide) dX2_step_66 ?_
        exact gi_vret (pc := 87) ⟨rfl, hv29, (k30.symm.trans kf), fx29⟩ hv29 dX2_step_87
    ·
      have k31 := if_f k11 (fun z => z q12)
      refine go_aload_n (pc := 32) rfl dX2_step_32 ?_
      refine go_aload_n (pc := 33) rfl dX2_step_33 ?_
      refine gi_getC (pc := 34) hv fL_X2_50 rfl (Nat.le_of_ble_eq_true rfl) rfl (by decide) dX2_step_34 (fun c32 hc32 fc32 => ?_)
      have k33 := bd_e k31 (st_c fc32)
      refine gi_getF (pc := 37) (q := c32 + 11) hv fL_X2_81 (by rcases hc32 with rfl | rfl <;> rfl) (Nat.le_of_ble_eq_true rfl) rfl (by rcases hc32 with rfl | rfl <;> exact hv.rf (by decide)) dX2_step_37 ?_
      refine go_aload_n (pc := 40) rfl dX2_step_40 ?_
      refine gi_get (pc := 41) (lo := 0) (hi := 44) hv fL_X2_25 rfl (Nat.le_of_ble_eq_true rfl) rfl rfl dX2_step_41 (fun v34 v34l v34u v34w => ?_)
      have v34r : v1 = h.2.1 64 4 := v1w
      have v34q : TI v34 v1.toInt := by rw [v34w.trans v34r.symm]; exact (ti_rfl v1)
      refine gi_iald (pc := 44) (lo := 0) (hi := 44) (len := 40) hv v34q (by rcases hc32 with rfl | rfl <;> rfl) (by omega) (by omega) (fun _ => by rcases hc32 with rfl | rfl <;> rfl) dX2_step_44 (fun v35 v35l v35u v35w => ?_)
      have k36 := bd_e k33 (congrArg Int32.toInt v35w.symm)
      refine gi_put (pc := 45) (lo := 0) (hi := 44) hv (ti_rfl v35) (fP_X2_25 _) rfl (Nat.le_of_ble_eq_true rfl) rfl rfl (by omega) (by omega) rfl rfl (by decide) (by decide) (by decide) (by decide) dX2_step_45 (fun h37 hv37 hv37e => ?_)
      have fx37 : FX KAm h h37 := FX.pI fx hv37e (by unfold KAm; omega)
      have k38 := bd_e k36 (st_I hv37e (ti_rfl v35))
      refine go_goto (pc := 48) (tgt := 87) (by decide) dX2_step_48 ?_
      exact gi_vret (pc := 87) ⟨rfl, hv37, (k38.symm.trans kf), fx37⟩ hv37 dX2_step_87
  ·
    have k39 := if_f k2 (Int.not_lt.mpr q3)
    refine go_aload_n (pc := 9) rfl dX2_step_9 ?_
    refine go_iconst (pc := 10) (v := 0) (by decide) dX2_step_10 ?_
    refine go_iconst (pc := 11) (v := 0) (by decide) dX2_step_11 ?_
    refine go_invV (pc := 12) (sl := 0) (s_X2_leave2_f l (d + 2) hv 0 0 (by rw [show (0 : Int32).toInt = 0 from (ti_c (v := 0) (a := 0) (by decide))]; omega) (by rw [show (0 : Int32).toInt = 0 from (ti_c (v := 0) (a := 0) (by decide))]; omega)) mL_X2_73 iM_X2_leave sM_X2_leave (hv.sh rfl) rfl rfl rfl (Nat.le_of_ble_eq_true rfl) (show d + 2 + 2 + 1 ≤ d + 5 by omega) (show 8 + (6 + 11) + 40 * (d + 2 + 2) ≤ 40 * (d + 5) by omega) (g_c0 hv.ln) (Nat.le_of_ble_eq_true rfl) dX2_step_12 ?_
    intro r h40 hq _
    obtain ⟨rfl, hv40, f41, f42⟩ := hq
    try rw [show (0 : Int32).toInt = 0 from (ti_c (v := 0) (a := 0) (by decide))] at f41
    try rw [show (0 : Int32).toInt = 0 from (ti_c (v := 0) (a := 0) (by decide))] at f41
    try rw [show (0 : Int32).toInt = 0 from (ti_c (v := 0) (a := 0) (by decide))] at f42
    try rw [show (0 : Int32).toInt = 0 from (ti_c (v := 0) (a := 0) (by decide))] at f42
    have fx40 : FX KAm h h40 := FX.tr fx f42
    have k43 := bd_e k39 f41.symm
    refine go_goto (pc := 15) (tgt := 87) (by decide) dX2_step_15 ?_
    exact gi_vret (pc := 87) ⟨rfl, hv40, (k43.symm.trans kf), fx40⟩ hv40 dX2_step_87
noncomputable def f_X2_play2_ : Nat → Nat → Int → ST → ST × Int
  | 0, _, _, sx => (sx, 0)
  | n + 1, _, l6, sx => if 1000000 ≤ l6 then (bd (sx.1 64 6) fun v3 => (sx, v3)) else (bd (sx.1 64 6) fun v6 => if ¬ v6 = 3 then ((sx, v6)) else (bd (f_X2_step2 sx) fun s12 => f_X2_play2_ n 55 ((l6 + 1)) s12))
noncomputable def f_X2_play2 (s : ST) (c2 : Nat) (a3 : Int64) (a4 : Int) (a5 : Int) : ST × Int :=
  bd (sR s 64 11 c2) fun s19 => bd (sL s19 64 12 a3) fun s21 => bd (f_J7_fill_53178_at652 s21 0) fun s23 => bd (sI s23 64 3 0) fun s27 => bd (sI s27 64 5 0) fun s29 => bd (sI s29 64 7 0) fun s31 => bd (sI s31 64 10 0) fun s33 => bd (sI s33 64 6 3) fun s35 => bd (f_X2_enter2 s35 0 a4 a5) fun s37 => f_X2_play2_ (BG 3000019) 55 0 s37
set_option maxHeartbeats 4000000 in
set_option maxRecDepth 100000 in
theorem s_X2_play2_f (l : Launch) (d : Nat) {P : PP} {h : HP} (hv : Iv P h) (c2 : Nat) (hc2 : c2 = 2 ∨ c2 = 18) (a3 : Int64) (a4 : Int32) (a5 : Int32) : Mt l yX2_play cX2_play 7 (some .int) (d + 6) [.ref 64, .ref c2, .long a3, .int a4, .int a5] h 0 0 (fun r h' => ∃ v : Int32, r = some (.int v) ∧ -1 ≤ v.toInt ∧ v.toInt ≤ 3 ∧ Iv P h' ∧ ((st h', v.toInt) = f_X2_play2 (st h) c2 a3 a4.toInt a5.toInt) ∧ (FX KAm h h')) := by
  refine Mt_iv hv (by decide) (Nat.le_of_ble_eq_true rfl) ?_
  show Go l RX2 cX2_play 7 (g_rm (d + 6) 0 0) "play" (some .int) 117 0 0 (fun _ _ => True) (fun r h' => ∃ v : Int32, r = some (.int v) ∧ -1 ≤ v.toInt ∧ v.toInt ≤ 3 ∧ Iv P h' ∧ ((st h', v.toInt) = f_X2_play2 (st h) c2 a3 a4.toInt a5.toInt) ∧ (FX KAm h h')) 0 0 [(0, .ref 64), (1, .ref c2), (2, .long a3), (4, .int a4), (5, .int a5)] [] h
  have fx : FX KAm h h := FX.rfl
  obtain ⟨fin, kf⟩ : ∃ z, z = f_X2_play2 (st h) c2 a3 a4.toInt a5.toInt := ⟨_, _root_.rfl⟩
  have k0 := kf
  unfold f_X2_play2 at k0
  have key : ∀ n : Nat, (∀ (l6 : Int32) (hx : HP), Iv P hx → 0 ≤ l6.toInt → l6.toInt ≤ 1000000 → FX KAm h hx → fin = f_X2_play2_ n 55 l6.toInt (st hx) → (3 * (1000000 - l6.toInt) + 2 : Int) < n → Go l RX2 cX2_play 7 (g_rm (d + 6) 0 0) "play" (some .int) 117 0 0 (fun _ _ => True) (fun r h' => ∃ v : Int32, r = some (.int v) ∧ -1 ≤ v.toInt ∧ v.toInt ≤ 3 ∧ Iv P h' ∧ ((st h', v.toInt) = f_X2_play2 (st h) c2 a3 a4.toInt a5.toInt) ∧ (FX KAm h h')) 0 55 [(0, .ref 64), (6, .int l6)] [] hx) := by
    intro n
    induction n with
    | zero => exact (by intros; omega)
    | succ n ih =>
      refine ?_
      ·
        intro l6 hx hvx l6l l6u fxx kL hm
        rw [f_X2_play2_] at kL
        refine go_iload (pc := 55) rfl dX2_play_55 ?_
        refine go_ldc (pc := 57) kL_X2_64 dX2_play_57 ?_
        refine gf_icmp_ge (pc := 59) (tgt := 80) (ti_rfl l6) (ti_c (v := 1000000) (a := 1000000) (by decide)) (by decide) dX2_play_59 (fun q1 => ?_) (fun q1 => ?_)
        ·
          have k2 := if_t kL q1
          refine go_aload_n (pc := 80) rfl dX2_play_80 ?_
          refine gi_get (pc := 81) (lo := -1) (hi := 3) hvx fL_X2_31 rfl (Nat.le_of_ble_eq_true rfl) rfl rfl dX2_play_81 (fun v3 v3l v3u v3w => ?_)
          have k4 := bd_e k2 (congrArg Int32.toInt v3w.symm)
          exact gi_iret (pc := 84) (ti_rfl v3) ⟨_, rfl, (by rw [show (v3 : Int32).toInt = v3.toInt from (ti_rfl v3)]; omega), (by rw [show (v3 : Int32).toInt = v3.toInt from (ti_rfl v3)]; omega), hvx, (k4.symm.trans kf), fxx⟩ hvx dX2_play_84
        ·
          have k5 := if_f kL (Int.not_le.mpr q1)
          refine go_aload_n (pc := 62) rfl dX2_play_62 ?_
          refine gi_get (pc := 63) (lo := -1) (hi := 3) hvx fL_X2_31 rfl (Nat.le_of_ble_eq_true rfl) rfl rfl dX2_play_63 (fun v6 v6l v6u v6w => ?_)
          have k7 := bd_e k5 (congrArg Int32.toInt v6w.symm)
          refine go_iconst (pc := 66) (v := 3) (by decide) dX2_play_66 ?_
          refine gf_icmp_ne (pc := 67) (tgt := 80) (ti_rfl v6) (ti_c (v := 3) (a := 3) (by decide)) (by decide) dX2_play_67 (fun q8 => ?_) (fun q8 => ?_)
          ·
            have k9 := if_t k7 q8
            refine go_aload_n (pc := 80) rfl dX2_play_80 ?_
            refine gi_get (pc := 81) (lo := -1) (hi := 3) hvx fL_X2_31 rfl (Nat.le_of_ble_eq_true rfl) rfl rfl dX2_play_81 (fun v10 v10l v10u v10w => ?_)
            have v10r : v6 = hx.2.1 64 6 := v6w
            have v10q : TI v10 v6.toInt := by rw [v10w.trans v10r.symm]; exact (ti_rfl v6)
            exact gi_iret (pc := 84) v10q ⟨_, rfl, (by rw [show (v10 : Int32).toInt = v6.toInt from v10q]; omega), (by rw [show (v10 : Int32).toInt = v6.toInt from v10q]; omega), hvx, (by rw [show (v10 : Int32).toInt = v6.toInt from v10q]; exact k9.symm.trans kf), fxx⟩ hvx dX2_play_84
          ·
            have k11 := if_f k7 (fun z => z q8)
            refine go_aload_n (pc := 70) rfl dX2_play_70 ?_
            refine go_invV (pc := 71) (sl := 0) (s_X2_step2_f l (d + 0) hvx ) mL_X2_65 iM_X2_step sM_X2_step (hvx.sh rfl) rfl rfl rfl (Nat.le_of_ble_eq_true rfl) (show d + 0 + 5 + 1 ≤ d + 6 by omega) (show 8 + (1 + 11) + 40 * (d + 0 + 5) ≤ 40 * (d + 6) by omega) (g_c0 hvx.ln) (Nat.le_of_ble_eq_true rfl) dX2_play_71 ?_
            intro r h12 hq _
            obtain ⟨rfl, hv12, f13, f14⟩ := hq
            have fx12 : FX KAm h h12 := FX.tr fxx f14
            have k15 := bd_e k11 f13.symm
            refine gf_iinc (pc := 74) (Nat.le_of_ble_eq_true rfl) rfl (ti_rfl l6) (ti_c (by decide)) (by omega) (by omega) dX2_play_74 (fun v16 e17 => ?_)
            refine go_lv (lv2 := [(0, .ref 64), (6, .int v16)]) rfl ?_
            refine go_goto (pc := 77) (tgt := 55) (by decide) dX2_play_77 ?_
            have z18 : (v16 : Int32).toInt = (l6.toInt + 1) := e17
            exact go_lv rfl (ih v16 h12 hv12 (by omega) (by omega) fx12 (by rw [show (v16 : Int32).toInt = (l6.toInt + 1) from e17]; exact k15) (by omega))
  have bgN : 3000019 ≤ BG 3000019 := BG_le _
  refine go_aload_n (pc := 0) rfl dX2_play_0 ?_
  refine go_aload_n (pc := 1) rfl dX2_play_1 ?_
  refine gi_putC (pc := 2) hv hc2 (fP_X2_50 _) rfl (Nat.le_of_ble_eq_true rfl) rfl (fun _ => rfl) (fun _ => rfl) (by decide) (by decide) (by decide) (by decide) dX2_play_2 (fun h19 hv19 hv19e => ?_)
  have fx19 : FX KAm h h19 := FX.pR fx hv19e (by unfold KAm; omega)
  have k20 := bd_e k0 (st_R hv19e)
  refine go_aload_n (pc := 5) rfl dX2_play_5 ?_
  refine go_lload_n (pc := 6) rfl dX2_play_6 ?_
  refine gi_putL (pc := 7) hv19 (fP_X2_46 _) rfl (Nat.le_of_ble_eq_true rfl) rfl rfl rfl dX2_play_7 (fun h21 hv21 hv21e => ?_)
  have fx21 : FX KAm h h21 := FX.pL fx19 hv21e (by unfold KAm; omega)
  have k22 := bd_e k20 (st_L hv21e)
  refine go_aload_n (pc := 10) rfl dX2_play_10 ?_
  refine gi_getF (pc := 11) (q := 65) hv21 fL_X2_9 rfl (Nat.le_of_ble_eq_true rfl) rfl (hv21.rf (by decide)) dX2_play_11 ?_
  refine go_iconst (pc := 14) (v := 0) (by decide) dX2_play_14 ?_
  refine go_invS (pc := 15) (sl := 0) (s_J7_fill_53178_at652_f l (d + 4) hv21 0) mL_X2_54 iM_J7_fill_53178 rfl rfl (Nat.le_of_ble_eq_true rfl) (show d + 4 + 1 + 1 ≤ d + 6 by omega) (show 8 + (4 + 11) + 40 * (d + 4 + 1) ≤ 40 * (d + 6) by omega) (g_c0 hv21.ln) (Nat.le_of_ble_eq_true rfl) dX2_play_15 ?_
  intro r h23 hq _
  obtain ⟨rfl, hv23, f24, f25⟩ := hq
  try rw [show (0 : Int32).toInt = 0 from (ti_c (v := 0) (a := 0) (by decide))] at f24
  try rw [show (0 : Int32).toInt = 0 from (ti_c (v := 0) (a := 0) (by decide))] at f25
  have fx23 : FX KAm h h23 := FX.tr fx21 f25
  have k26 := bd_e k22 f24.symm
  refine go_aload_n (pc := 18) rfl dX2_play_18 ?_
  refine go_iconst (pc := 19) (v := 0) (by decide) dX2_play_19 ?_
  refine gi_put (pc := 20) (lo := 0) (hi := 30) hv23 (ti_c (v := 0) (a := 0) (by decide)) (fP_X2_21 _) rfl (Nat.le_of_ble_eq_true rfl) rfl rfl (by omega) (by omega) rfl rfl (by decide) (by decide) (by decide) (by decide) dX2_play_20 (fun h27 hv27 hv27e => ?_)
  have fx27 : FX KAm h h27 := FX.pI fx23 hv27e (by unfold KAm; omega)
  have k28 := bd_e k26 (st_I hv27e (ti_c (v := 0) (a := 0) (by decide)))
  refine go_aload_n (pc := 23) rfl dX2_play_23 ?_
  refine go_iconst (pc := 24) (v := 0) (by decide) dX2_play_24 ?_
  refine gi_put (pc := 25) (lo := 0) (hi := 3000) hv27 (ti_c (v := 0) (a := 0) (by decide)) (fP_X2_28 _) rfl (Nat.le_of_ble_eq_true rfl) rfl rfl (by omega) (by omega) rfl rfl (by decide) (by decide) (by decide) (by decide) dX2_play_25 (fun h29 hv29 hv29e => ?_)
  have fx29 : FX KAm h h29 := FX.pI fx27 hv29e (by unfold KAm; omega)
  have k30 := bd_e k28 (st_I hv29e (ti_c (v := 0) (a := 0) (by decide)))
  refine go_aload_n (pc := 28) rfl dX2_play_28 ?_
  refine go_iconst (pc := 29) (v := 0) (by decide) dX2_play_29 ?_
  refine gi_put (pc := 30) (lo := -2147483648) (hi := 2147483647) hv29 (ti_c (v := 0) (a := 0) (by decide)) (fP_X2_34 _) rfl (Nat.le_of_ble_eq_true rfl) rfl rfl (ti_ge (ti_c (v := 0) (a := 0) (by decide))) (ti_le2 (ti_c (v := 0) (a := 0) (by decide))) rfl rfl (by decide) (by decide) (by decide) (by decide) dX2_play_30 (fun h31 hv31 hv31e => ?_)
  have fx31 : FX KAm h h31 := FX.pI fx29 hv31e (by unfold KAm; omega)
  have k32 := bd_e k30 (st_I hv31e (ti_c (v := 0) (a := 0) (by decide)))
  refine go_aload_n (pc := 33) rfl dX2_play_33 ?_
  refine go_iconst (pc := 34) (v := 0) (by decide) dX2_play_34 ?_
  refine gi_put (pc := 35) (lo := 0) (hi := 500) hv31 (ti_c (v := 0) (a := 0) (by decide)) (fP_X2_43 _) rfl (Nat.le_of_ble_eq_true rfl) rfl rfl (by omega) (by omega) rfl rfl (by decide) (by decide) (by decide) (by decide) dX2_play_35 (fun h33 hv33 hv33e => ?_)
  have fx33 : FX KAm h h33 := FX.pI fx31 hv33e (by unfold KAm; omega)
  have k34 := bd_e k32 (st_I hv33e (ti_c (v := 0) (a := 0) (by decide)))
  refine go_aload_n (pc := 38) rfl dX2_play_38 ?_
  refine go_iconst (pc := 39) (v := 3) (by decide) dX2_play_39 ?_
  refine gi_put (pc := 40) (lo := -1) (hi := 3) hv33 (ti_c (v := 3) (a := 3) (by decide)) (fP_X2_31 _) rfl (Nat.le_of_ble_eq_true rfl) rfl rfl (by omega) (by omega) rfl rfl (by decide) (by decide) (by decide) (by decide) dX2_play_40 (fun h35 hv35 hv35e => ?_)
  have fx35 : FX KAm h h35 := FX.pI fx33 hv35e (by unfold KAm; omega)
  have k36 := bd_e k34 (st_I hv35e (ti_c (v := 3) (a := 3) (by decide)))
  refine go_aload_n (pc := 43) rfl dX2_play_43 ?_
  refine go_iconst (pc := 44) (v := 0) (by decide) dX2_play_44 ?_
  refine go_iload (pc := 45) rfl dX2_play_45 ?_
  refine go_iload (pc := 47) rfl dX2_play_47 ?_
  refine go_invV (pc := 49) (sl := 0) (s_X2_enter2_f l (d + 4) hv35 0 (by rw [show (0 : Int32).toInt = 0 from (ti_c (v := 0) (a := 0) (by decide))]; omega) (by rw [show (0 : Int32).toInt = 0 from (ti_c (v := 0) (a := 0) (by decide))]; omega) a4 a5) mL_X2_60 iM_X2_enter sM_X2_enter (hv35.sh rfl) rfl rfl rfl (Nat.le_of_ble_eq_true rfl) (show d + 4 + 1 + 1 ≤ d + 6 by omega) (show 8 + (6 + 11) + 40 * (d + 4 + 1) ≤ 40 * (d + 6) by omega) (g_c0 hv35.ln) (Nat.le_of_ble_eq_true rfl) dX2_play_49 ?_
  intro r h37 hq _
  obtain ⟨rfl, hv37, f38, f39⟩ := hq
  try rw [show (0 : Int32).toInt = 0 from (ti_c (v := 0) (a := 0) (by decide))] at f38
  try rw [show (0 : Int32).toInt = 0 from (ti_c (v := 0) (a := 0) (by decide))] at f39
  have fx37 : FX KAm h h37 := FX.tr fx35 f39
  have k40 := bd_e k36 f38.symm
  refine go_iconst (pc := 52) (v := 0) (by decide) dX2_play_52 ?_
  refine go_istore (pc := 53) (Nat.le_of_ble_eq_true rfl) dX2_play_53 (go_lv (lv2 := [(0, .ref 64), (1, .ref c2), (2, .long a3), (4, .int a4), (5, .int a5), (6, .int 0)]) rfl ?_)
  have z41 : (0 : Int32).toInt = 0 := (ti_c (v := 0) (a := 0) (by decide))
  exact go_lv rfl ((key (BG 3000019)) 0 h37 hv37 (by omega) (by omega) fx37 (by rw [show (0 : Int32).toInt = 0 from (ti_c (v := 0) (a := 0) (by decide))]; exact k40) (by omega))
noncomputable def f_X7_run2 (s : ST) (a2 : Int) (a3 : Int) : ST × Int :=
  bd (s.2.2 0 3) fun c1 => bd (s.1 c1 1) fun v3 => if ¬ v3 = 0 then (bd (s.2.2 0 3) fun c7 => bd2 (f_X2_play2 s c7 (1099511627775 : Int64) a2 a3) fun s9 v12 => (s9, v12)) else ((s, (-1)))
set_option maxHeartbeats 4000000 in
set_option maxRecDepth 100000 in
theorem s_X7_run2_f (l : Launch) (d : Nat) {P : PP} {h : HP} (hv : Iv P h) (a2 : Int32) (a3 : Int32) : Mt l yX7_run cX7_run 3 (some .int) (d + 7) [.ref 0, .int a2, .int a3] h 0 0 (fun r h' => ∃ v : Int32, r = some (.int v) ∧ -2147483648 ≤ v.toInt ∧ v.toInt ≤ 2147483647 ∧ Iv P h' ∧ ((st h', v.toInt) = f_X7_run2 (st h) a2.toInt a3.toInt) ∧ (FX KAm h h')) := by
  refine Mt_iv hv (by decide) (Nat.le_of_ble_eq_true rfl) ?_
  show Go l RX7 cX7_run 3 (g_rm (d + 7) 0 0) "run" (some .int) 117 0 0 (fun _ _ => True) (fun r h' => ∃ v : Int32, r = some (.int v) ∧ -2147483648 ≤ v.toInt ∧ v.toInt ≤ 2147483647 ∧ Iv P h' ∧ ((st h', v.toInt) = f_X7_run2 (st h) a2.toInt a3.toInt) ∧ (FX KAm h h')) 0 0 [(0, .ref 0), (1, .int a2), (2, .int a3)] [] h
  have fx : FX KAm h h := FX.rfl
  obtain ⟨fin, kf⟩ : ∃ z, z = f_X7_run2 (st h) a2.toInt a3.toInt := ⟨_, _root_.rfl⟩
  have k0 := kf
  unfold f_X7_run2 at k0
  refine go_aload_n (pc := 0) rfl dX7_run_0 ?_
  refine gi_getC (pc := 1) hv fL_X7_23 rfl (Nat.le_of_ble_eq_true rfl) rfl (by decide) dX7_run_1 (fun c1 hc1 fc1 => ?_)
  have k2 := bd_e k0 (st_c fc1)
  refine gi_get (pc := 4) (lo := 0) (hi := 5) hv fL_X7_68 (by rcases hc1 with rfl | rfl <;> rfl) (Nat.le_of_ble_eq_true rfl) rfl (by rcases hc1 with rfl | rfl <;> rfl) dX7_run_4 (fun v3 v3l v3u v3w => ?_)
  have k4 := bd_e k2 (congrArg Int32.toInt v3w.symm)
  refine gf_if_ne (pc := 7) (tgt := 12) (ti_rfl v3) (by decide) dX7_run_7 (fun q5 => ?_) (fun q5 => ?_)
  ·
    have k6 := if_t k4 q5
    refine go_aload_n (pc := 12) rfl dX7_run_12 ?_
    refine gi_getF (pc := 13) (q := 64) hv fL_X7_49 rfl (Nat.le_of_ble_eq_true rfl) rfl (hv.rf (by decide)) dX7_run_13 ?_
    refine go_aload_n (pc := 16) rfl dX7_run_16 ?_
    refine gi_getC (pc := 17) hv fL_X7_23 rfl (Nat.le_of_ble_eq_true rfl) rfl (by decide) dX7_run_17 (fun c7 hc7 fc7 => ?_)
    have k8 := bd_e k6 (st_c fc7)
    refine go_ldc2 (pc := 20) kL_X7_156 dX7_run_20 ?_
    refine go_iload_n (pc := 23) rfl dX7_run_23 ?_
    refine go_iload_n (pc := 24) rfl dX7_run_24 ?_
    refine go_invV (pc := 25) (sl := 0) (s_X2_play2_f l (d + 0) hv c7 hc7 (1099511627775 : Int64) a2 a3) mL_X7_158 iM_X2_play sM_X2_play (hv.sh rfl) rfl rfl rfl (Nat.le_of_ble_eq_true rfl) (show d + 0 + 6 + 1 ≤ d + 7 by omega) (show 8 + (7 + 11) + 40 * (d + 0 + 6) ≤ 40 * (d + 7) by omega) (g_c0 hv.ln) (Nat.le_of_ble_eq_true rfl) dX7_run_25 ?_
    intro r h9 hq _
    obtain ⟨v12, rfl, v12l, v12u, hv9, f10, f11⟩ := hq
    have fx9 : FX KAm h h9 := FX.tr fx f11
    have k13 := bd2_e k8 f10
    exact gi_iret (pc := 28) (ti_rfl v12) ⟨_, rfl, (ti_lo _), (ti_hi _), hv9, (k13.symm.trans kf), fx9⟩ hv9 dX7_run_28
  ·
    have k14 := if_f k4 (fun z => z q5)
    refine go_iconst (pc := 10) (v := (-1)) (by decide) dX7_run_10 ?_
    exact gi_iret (pc := 11) (ti_c (v := (-1)) (a := (-1)) (by decide)) ⟨_, rfl, (ti_lo _), (ti_hi _), hv, (by rw [show ((-1) : Int32).toInt = (-1) from (ti_c (v := (-1)) (a := (-1)) (by decide))]; exact k14.symm.trans kf), fx⟩ hv dX7_run_11

