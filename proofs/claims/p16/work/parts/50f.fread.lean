def f_X3_finish (s : ST) : ST :=
  bd (s.1 34 3) fun v1 => if v1 = 0 then (bd (s.2.2 34 4) fun c5 => bd (f_X0_callsOnlyTold s c5) fun v9 => if ¬ v9 = 0 then (bd (s.2.2 34 4) fun c13 => bd (f_X6_wire s c13) fun s15 => bd (s15.2.2 34 4) fun c19 => bd (f_X0_settleEnds s15 c19) fun s21 => bd (s21.2.2 34 4) fun c25 => bd (f_X0_allMayEnd s21 c25) fun v29 => if ¬ v29 = 0 then (s21) else (bd (s21.1 34 1) fun v34 => bd (f_X3_blame s21 6 v34) fun s36 => s36)) else (bd (s.1 34 1) fun v45 => bd (f_X3_blame s 5 v45) fun s47 => s47)) else (s)
set_option maxHeartbeats 4000000 in
set_option maxRecDepth 100000 in
theorem s_X3_finish_f (l : Launch) (d : Nat) {P : PP} {h : HP} (hv : Iv P h)  : Mt l yX3_finish cX3_finish 1 none (d + 17) [.ref 34] h 0 0 (fun r h' => r = none ∧ Iv P h' ∧ (st h' = f_X3_finish (st h)) ∧ (FX KC0 h h')) := by
  refine Mt_iv hv (by decide) (Nat.le_of_ble_eq_true rfl) ?_
  show Go l RX3 cX3_finish 1 (g_rm (d + 17) 0 0) "finish" none 117 0 0 (fun _ _ => True) (fun r h' => r = none ∧ Iv P h' ∧ (st h' = f_X3_finish (st h)) ∧ (FX KC0 h h')) 0 0 [(0, .ref 34)] [] h
  have fx : FX KC0 h h := FX.rfl
  obtain ⟨fin, kf⟩ : ∃ z, z = f_X3_finish (st h) := ⟨_, _root_.rfl⟩
  have k0 := kf
  unfold f_X3_finish at k0
  refine go_aload_n (pc := 0) rfl dX3_finish_0 ?_
  refine gi_get (pc := 1) (lo := -2147483648) (hi := 2147483647) hv fL_X3_22 rfl (Nat.le_of_ble_eq_true rfl) rfl rfl dX3_finish_1 (fun v1 v1l v1u v1w => ?_)
  have k2 := bd_e k0 (congrArg Int32.toInt v1w.symm)
  refine gf_if_eq (pc := 4) (tgt := 8) (ti_rfl v1) (by decide) dX3_finish_4 (fun q3 => ?_) (fun q3 => ?_)
  ·
    have k4 := if_t k2 q3
    refine go_aload_n (pc := 8) rfl dX3_finish_8 ?_
    refine gi_getC (pc := 9) hv fL_X3_46 rfl (Nat.le_of_ble_eq_true rfl) rfl (by decide) dX3_finish_9 (fun c5 hc5 fc5 => ?_)
    have k6 := bd_e k4 (st_c fc5)
    refine go_invV (pc := 12) (sl := 0) (s_X0_callsOnlyTold_f l (d + 15) hv c5 hc5) mL_X3_97 iM_X0_callsOnlyTold sM_X0_callsOnlyTold (hv.sh (by rcases hc5 with rfl | rfl <;> rfl)) rfl rfl rfl (Nat.le_of_ble_eq_true rfl) (show d + 15 + 1 + 1 ≤ d + 17 by omega) (show 8 + (3 + 11) + 40 * (d + 15 + 1) ≤ 40 * (d + 17) by omega) (g_c0 hv.ln) (Nat.le_of_ble_eq_true rfl) dX3_finish_12 ?_
    intro r h7 hq _
    obtain ⟨v9, rfl, v9l, v9u, rfl, f8⟩ := hq
    replace f8 : PE _ _ := f8
    have k10 := bd_e k6 f8.symm
    refine gf_if_ne (pc := 15) (tgt := 28) (ti_rfl v9) (by decide) dX3_finish_15 (fun q11 => ?_) (fun q11 => ?_)
    ·
      have k12 := if_t k10 q11
      refine go_aload_n (pc := 28) rfl dX3_finish_28 ?_
      refine gi_getF (pc := 29) (q := 48) hv fL_X3_55 rfl (Nat.le_of_ble_eq_true rfl) rfl (hv.rf (by decide)) dX3_finish_29 ?_
      refine go_aload_n (pc := 32) rfl dX3_finish_32 ?_
      refine gi_getC (pc := 33) hv fL_X3_46 rfl (Nat.le_of_ble_eq_true rfl) rfl (by decide) dX3_finish_33 (fun c13 hc13 fc13 => ?_)
      have k14 := bd_e k12 (st_c fc13)
      refine go_invV (pc := 36) (sl := 0) (s_X6_wire_f l (d + 0) hv c13 hc13) mL_X3_105 iM_X6_wire sM_X6_wire (hv.sh rfl) rfl rfl rfl (Nat.le_of_ble_eq_true rfl) (show d + 0 + 16 + 1 ≤ d + 17 by omega) (show 8 + (4 + 11) + 40 * (d + 0 + 16) ≤ 40 * (d + 17) by omega) (g_c0 hv.ln) (Nat.le_of_ble_eq_true rfl) dX3_finish_36 ?_
      intro r h15 hq _
      obtain ⟨rfl, hv15, f16, f17⟩ := hq
      have fx15 : FX KC0 h h15 := FX.tr fx f17
      have k18 := bd_e k14 f16.symm
      refine go_aload_n (pc := 39) rfl dX3_finish_39 ?_
      refine gi_getC (pc := 40) hv15 fL_X3_46 rfl (Nat.le_of_ble_eq_true rfl) rfl (by decide) dX3_finish_40 (fun c19 hc19 fc19 => ?_)
      have k20 := bd_e k18 (st_c fc19)
      refine go_invV (pc := 43) (sl := 0) (s_X0_settleEnds_f l (d + 12) hv15 c19 hc19) mL_X3_109 iM_X0_settleEnds sM_X0_settleEnds (hv15.sh (by rcases hc19 with rfl | rfl <;> rfl)) rfl rfl rfl (Nat.le_of_ble_eq_true rfl) (show d + 12 + 4 + 1 ≤ d + 17 by omega) (show 8 + (6 + 11) + 40 * (d + 12 + 4) ≤ 40 * (d + 17) by omega) (g_c0 hv15.ln) (Nat.le_of_ble_eq_true rfl) dX3_finish_43 ?_
      intro r h21 hq _
      obtain ⟨rfl, hv21, f22, f23⟩ := hq
      have fx21 : FX KC0 h h21 := FX.tr fx15 f23
      have k24 := bd_e k20 f22.symm
      refine go_aload_n (pc := 46) rfl dX3_finish_46 ?_
      refine gi_getC (pc := 47) hv21 fL_X3_46 rfl (Nat.le_of_ble_eq_true rfl) rfl (by decide) dX3_finish_47 (fun c25 hc25 fc25 => ?_)
      have k26 := bd_e k24 (st_c fc25)
      refine go_invV (pc := 50) (sl := 0) (s_X0_allMayEnd_f l (d + 15) hv21 c25 hc25) mL_X3_112 iM_X0_allMayEnd sM_X0_allMayEnd (hv21.sh (by rcases hc25 with rfl | rfl <;> rfl)) rfl rfl rfl (Nat.le_of_ble_eq_true rfl) (show d + 15 + 1 + 1 ≤ d + 17 by omega) (show 8 + (1 + 11) + 40 * (d + 15 + 1) ≤ 40 * (d + 17) by omega) (g_c0 hv21.ln) (Nat.le_of_ble_eq_true rfl) dX3_finish_50 ?_
      intro r h27 hq _
      obtain ⟨v29, rfl, v29l, v29u, rfl, f28⟩ := hq
      replace f28 : PE _ _ := f28
      have k30 := bd_e k26 f28.symm
      refine gf_if_ne (pc := 53) (tgt := 66) (ti_rfl v29) (by decide) dX3_finish_53 (fun q31 => ?_) (fun q31 => ?_)
      ·
        have k32 := if_t k30 q31
        exact gi_vret (pc := 66) ⟨rfl, hv21, (k32.symm.trans kf), fx21⟩ hv21 dX3_finish_66
      ·
        have k33 := if_f k30 (fun z => z q31)
        refine go_aload_n (pc := 56) rfl dX3_finish_56 ?_
        refine go_bipush (pc := 57) (v := 6) (by decide) dX3_finish_57 ?_
        refine go_aload_n (pc := 59) rfl dX3_finish_59 ?_
        refine gi_get (pc := 60) (lo := 0) (hi := 500) hv21 fL_X3_15 rfl (Nat.le_of_ble_eq_true rfl) rfl rfl dX3_finish_60 (fun v34 v34l v34u v34w => ?_)
        have k35 := bd_e k33 (congrArg Int32.toInt v34w.symm)
        refine go_invV (pc := 63) (sl := 0) (s_X3_blame_f l (d + 15) hv21 6 (by rw [show (6 : Int32).toInt = 6 from (ti_c (v := 6) (a := 6) (by decide))]; omega) (by rw [show (6 : Int32).toInt = 6 from (ti_c (v := 6) (a := 6) (by decide))]; omega) v34 (by rw [show (v34 : Int32).toInt = v34.toInt from (ti_rfl v34)]; omega) (by rw [show (v34 : Int32).toInt = v34.toInt from (ti_rfl v34)]; omega)) mL_X3_101 iM_X3_blame sM_X3_blame (hv21.sh rfl) rfl rfl rfl (Nat.le_of_ble_eq_true rfl) (show d + 15 + 1 + 1 ≤ d + 17 by omega) (show 8 + (3 + 11) + 40 * (d + 15 + 1) ≤ 40 * (d + 17) by omega) (g_c0 hv21.ln) (Nat.le_of_ble_eq_true rfl) dX3_finish_63 ?_
        intro r h36 hq _
        obtain ⟨rfl, hv36, f37, f38, f39, f40, f41, f42, pt36⟩ := hq
        try rw [show (6 : Int32).toInt = 6 from (ti_c (v := 6) (a := 6) (by decide))] at f37
        try rw [show (6 : Int32).toInt = 6 from (ti_c (v := 6) (a := 6) (by decide))] at f38
        try rw [show (6 : Int32).toInt = 6 from (ti_c (v := 6) (a := 6) (by decide))] at f39
        try rw [show (6 : Int32).toInt = 6 from (ti_c (v := 6) (a := 6) (by decide))] at f40
        try rw [show (6 : Int32).toInt = 6 from (ti_c (v := 6) (a := 6) (by decide))] at f41
        try rw [show (6 : Int32).toInt = 6 from (ti_c (v := 6) (a := 6) (by decide))] at f42
        have fx36 : FX KC0 h h36 := FX.tr fx21 f42
        have k43 := bd_e k35 f41.symm
        exact gi_vret (pc := 66) ⟨rfl, hv36, (k43.symm.trans kf), fx36⟩ hv36 dX3_finish_66
    ·
      have k44 := if_f k10 (fun z => z q11)
      refine go_aload_n (pc := 18) rfl dX3_finish_18 ?_
      refine go_iconst (pc := 19) (v := 5) (by decide) dX3_finish_19 ?_
      refine go_aload_n (pc := 20) rfl dX3_finish_20 ?_
      refine gi_get (pc := 21) (lo := 0) (hi := 500) hv fL_X3_15 rfl (Nat.le_of_ble_eq_true rfl) rfl rfl dX3_finish_21 (fun v45 v45l v45u v45w => ?_)
      have k46 := bd_e k44 (congrArg Int32.toInt v45w.symm)
      refine go_invV (pc := 24) (sl := 0) (s_X3_blame_f l (d + 15) hv 5 (by rw [show (5 : Int32).toInt = 5 from (ti_c (v := 5) (a := 5) (by decide))]; omega) (by rw [show (5 : Int32).toInt = 5 from (ti_c (v := 5) (a := 5) (by decide))]; omega) v45 (by rw [show (v45 : Int32).toInt = v45.toInt from (ti_rfl v45)]; omega) (by rw [show (v45 : Int32).toInt = v45.toInt from (ti_rfl v45)]; omega)) mL_X3_101 iM_X3_blame sM_X3_blame (hv.sh rfl) rfl rfl rfl (Nat.le_of_ble_eq_true rfl) (show d + 15 + 1 + 1 ≤ d + 17 by omega) (show 8 + (3 + 11) + 40 * (d + 15 + 1) ≤ 40 * (d + 17) by omega) (g_c0 hv.ln) (Nat.le_of_ble_eq_true rfl) dX3_finish_24 ?_
      intro r h47 hq _
      obtain ⟨rfl, hv47, f48, f49, f50, f51, f52, f53, pt47⟩ := hq
      try rw [show (5 : Int32).toInt = 5 from (ti_c (v := 5) (a := 5) (by decide))] at f48
      try rw [show (5 : Int32).toInt = 5 from (ti_c (v := 5) (a := 5) (by decide))] at f49
      try rw [show (5 : Int32).toInt = 5 from (ti_c (v := 5) (a := 5) (by decide))] at f50
      try rw [show (5 : Int32).toInt = 5 from (ti_c (v := 5) (a := 5) (by decide))] at f51
      try rw [show (5 : Int32).toInt = 5 from (ti_c (v := 5) (a := 5) (by decide))] at f52
      try rw [show (5 : Int32).toInt = 5 from (ti_c (v := 5) (a := 5) (by decide))] at f53
      have fx47 : FX KC0 h h47 := FX.tr fx f53
      have k54 := bd_e k46 f52.symm
      exact gi_vret (pc := 27) ⟨rfl, hv47, (k54.symm.trans kf), fx47⟩ hv47 dX3_finish_27
  ·
    have k55 := if_f k2 q3
    exact gi_vret (pc := 7) ⟨rfl, hv, (k55.symm.trans kf), fx⟩ hv dX3_finish_7
def f_X3_read_ : Nat → Nat → Int → ST → ST × Int
  | 0, _, _, sx => (sx, 0)
  | n + 1, _, l4, sx => if 500 < l4 then (bd (f_X3_finish sx) fun s9 => bd (s9.1 34 3) fun u15 => (s9, u15)) else (bd (sx.1 34 3) fun v21 => if ¬ v21 = 0 then (bd (f_X3_finish sx) fun s33 => bd (s33.1 34 3) fun u39 => (s33, u39)) else (bd2 (f_X3_look sx) fun s52 v58 => bd (s52.1 34 7) fun u64 => if ¬ u64 = 0 then (if ¬ v58 = 125 then (if ¬ v58 = 37 then (bd (f_X3_readStatement s52 v58) fun s84 => f_X3_read_ n 14 ((l4 + 1)) s84) else (bd (f_X3_readTry s52) fun s121 => f_X3_read_ n 14 ((l4 + 1)) s121)) else (bd (f_X3_closeBlock s52) fun s153 => f_X3_read_ n 14 ((l4 + 1)) s153)) else (if ¬ v58 = (-1) then (bd (f_X3_readProcedure s52) fun s189 => f_X3_read_ n 14 ((l4 + 1)) s189) else (bd (f_X3_finish s52) fun s222 => bd (s222.1 34 3) fun u228 => (s222, u228)))))
def f_X3_read (s : ST) (a3 : Int) (c4 : Nat) : ST × Int :=
  bd (f_X3_start s a3 c4) fun s239 => bd (f_X3_readProcedure s239) fun s258 => f_X3_read_ 1522 14 0 s258
set_option maxHeartbeats 4000000 in
set_option maxRecDepth 100000 in
theorem s_X3_read_f (l : Launch) (d : Nat) {P : PP} {h : HP} (hv : Iv P h) (a3 : Int32) (a3l : 0 ≤ a3.toInt) (a3u : a3.toInt ≤ 500) (c4 : Nat) (hc4 : c4 = 2 ∨ c4 = 18) : Mt l yX3_read cX3_read 6 (some .int) (d + 18) [.ref 34, .ref 1, .int a3, .ref c4] h 0 0 (fun r h' => ∃ v : Int32, r = some (.int v) ∧ -2147483648 ≤ v.toInt ∧ v.toInt ≤ 2147483647 ∧ (∃ Q : PP, Iv Q h' ∧ RQ P Q) ∧ ((st h', v.toInt) = f_X3_read (st h) a3.toInt c4) ∧ (FX KC0 h h')) := by
  refine Mt_iv hv (by decide) (Nat.le_of_ble_eq_true rfl) ?_
  show Go l RX3 cX3_read 6 (g_rm (d + 18) 0 0) "read" (some .int) 117 0 0 (fun _ _ => True) (fun r h' => ∃ v : Int32, r = some (.int v) ∧ -2147483648 ≤ v.toInt ∧ v.toInt ≤ 2147483647 ∧ (∃ Q : PP, Iv Q h' ∧ RQ P Q) ∧ ((st h', v.toInt) = f_X3_read (st h) a3.toInt c4) ∧ (FX KC0 h h')) 0 0 [(0, .ref 34), (1, .ref 1), (2, .int a3), (3, .ref c4)] [] h
  have fx : FX KC0 h h := FX.rfl
  obtain ⟨fin, kf⟩ : ∃ z, z = f_X3_read (st h) a3.toInt c4 := ⟨_, _root_.rfl⟩
  have k0 := kf
  unfold f_X3_read at k0
  have key : ∀ n : Nat, (∀ (l4 : Int32) (Qx : PP) (hx : HP), Iv Qx hx → RQ P Qx → 0 ≤ l4.toInt → l4.toInt ≤ 501 → ((hx.2.1 34 3).toInt = 0 → PR hx) → (0 : Int) ≤ (hx.2.1 34 2).toInt → (hx.2.1 34 2).toInt ≤ 500 → (-2147483648 : Int) ≤ (hx.2.1 34 3).toInt → (hx.2.1 34 3).toInt ≤ 2147483647 → (0 : Int) ≤ (hx.2.1 34 7).toInt → (hx.2.1 34 7).toInt ≤ 7 → FX KC0 h hx → fin = f_X3_read_ n 14 l4.toInt (st hx) → (3 * (501 - l4.toInt) + 2 : Int) < n → Go l RX3 cX3_read 6 (g_rm (d + 18) 0 0) "read" (some .int) 117 0 0 (fun _ _ => True) (fun r h' => ∃ v : Int32, r = some (.int v) ∧ -2147483648 ≤ v.toInt ∧ v.toInt ≤ 2147483647 ∧ (∃ Q : PP, Iv Q h' ∧ RQ P Q) ∧ ((st h', v.toInt) = f_X3_read (st h) a3.toInt c4) ∧ (FX KC0 h h')) 0 14 [(0, .ref 34), (4, .int l4)] [] hx) := by
    intro n
    induction n with
    | zero => exact (by intros; omega)
    | succ n ih =>
      refine ?_
      ·
        intro l4 Qx hx hvx sqx l4l l4u x0 y0l y0u y1l y1u y2l y2u fxx kL hm
        rw [f_X3_read_] at kL
        refine go_iload (pc := 14) rfl dX3_read_14 ?_
        refine go_sipush (pc := 16) (v := 500) (by decide) dX3_read_16 ?_
        refine gf_icmp_gt (pc := 19) (tgt := 105) (ti_rfl l4) (ti_c (v := 500) (a := 500) (by decide)) (by decide) dX3_read_19 (fun q1 => ?_) (fun q1 => ?_)
        ·
          have k2 := if_t kL q1
          refine go_aload_n (pc := 105) rfl dX3_read_105 ?_
          have g3 : (0 : Int) ≤ (hx.2.1 34 2).toInt := (hvx.2.1 34 2).1
          have g4 : (hx.2.1 34 2).toInt ≤ 500 := (hvx.2.1 34 2).2
          have g5 : (-2147483648 : Int) ≤ (hx.2.1 34 3).toInt := (hvx.2.1 34 3).1
          have g6 : (hx.2.1 34 3).toInt ≤ 2147483647 := (hvx.2.1 34 3).2
          have g7 : (0 : Int) ≤ (hx.2.1 34 7).toInt := (hvx.2.1 34 7).1
          have g8 : (hx.2.1 34 7).toInt ≤ 7 := (hvx.2.1 34 7).2
          refine go_invV (pc := 106) (sl := 0) (s_X3_finish_f l (d + 0) hvx ) mL_X3_80 iM_X3_finish sM_X3_finish (hvx.sh rfl) rfl rfl rfl (Nat.le_of_ble_eq_true rfl) (show d + 0 + 17 + 1 ≤ d + 18 by omega) (show 8 + (1 + 11) + 40 * (d + 0 + 17) ≤ 40 * (d + 18) by omega) (g_c0 hvx.ln) (Nat.le_of_ble_eq_true rfl) dX3_read_106 ?_
          intro r h9 hq _
          obtain ⟨rfl, hv9, f10, f11⟩ := hq
          have fx9 : FX KC0 h h9 := FX.tr fxx f11
          have k12 := bd_e k2 f10.symm
          obtain ⟨u13, u13w⟩ : ∃ v : Int32, v = h9.2.1 34 2 := ⟨_, rfl⟩
          have u13e : (h9.2.1 34 2).toInt = u13.toInt := by rw [u13w]
          have u13l : 0 ≤ u13.toInt := by rw [u13w]; exact (hv9.2.1 34 2).1
          have u13u : u13.toInt ≤ 500 := by rw [u13w]; exact (hv9.2.1 34 2).2
          have k14 := k12
          obtain ⟨u15, u15w⟩ : ∃ v : Int32, v = h9.2.1 34 3 := ⟨_, rfl⟩
          have u15e : (h9.2.1 34 3).toInt = u15.toInt := by rw [u15w]
          have u15l : -2147483648 ≤ u15.toInt := by rw [u15w]; exact (hv9.2.1 34 3).1
          have u15u : u15.toInt ≤ 2147483647 := by rw [u15w]; exact (hv9.2.1 34 3).2
          have k16 := bd_e k14 (congrArg Int32.toInt u15w.symm)
          obtain ⟨u17, u17w⟩ : ∃ v : Int32, v = h9.2.1 34 7 := ⟨_, rfl⟩
          have u17e : (h9.2.1 34 7).toInt = u17.toInt := by rw [u17w]
          have u17l : 0 ≤ u17.toInt := by rw [u17w]; exact (hv9.2.1 34 7).1
          have u17u : u17.toInt ≤ 7 := by rw [u17w]; exact (hv9.2.1 34 7).2
          have k18 := k16
          refine go_aload_n (pc := 109) rfl dX3_read_109 ?_
          refine gi_get (pc := 110) (lo := -2147483648) (hi := 2147483647) hv9 fL_X3_22 rfl (Nat.le_of_ble_eq_true rfl) rfl rfl dX3_read_110 (fun v19 v19l v19u v19w => ?_)
          have v19r : u15 = h9.2.1 34 3 := u15w
          have v19q : TI v19 u15.toInt := by rw [v19w.trans v19r.symm]; exact (ti_rfl u15)
          exact gi_iret (pc := 113) v19q ⟨_, rfl, (ti_lo _), (ti_hi _), ⟨_, hv9, sqx⟩, (by rw [show (v19 : Int32).toInt = u15.toInt from v19q]; exact k18.symm.trans kf), fx9⟩ hv9 dX3_read_113
        ·
          have k20 := if_f kL (Int.not_lt.mpr q1)
          refine go_aload_n (pc := 22) rfl dX3_read_22 ?_
          refine gi_get (pc := 23) (lo := -2147483648) (hi := 2147483647) hvx fL_X3_22 rfl (Nat.le_of_ble_eq_true rfl) rfl rfl dX3_read_23 (fun v21 v21l v21u v21w => ?_)
          have k22 := bd_e k20 (congrArg Int32.toInt v21w.symm)
          have g23 : (hx.2.1 34 3).toInt = v21.toInt := by rw [v21w]
          refine gf_if_ne (pc := 26) (tgt := 105) (ti_rfl v21) (by decide) dX3_read_26 (fun q24 => ?_) (fun q24 => ?_)
          ·
            have k25 := if_t k22 q24
            refine go_aload_n (pc := 105) rfl dX3_read_105 ?_
            have g26 : (0 : Int) ≤ (hx.2.1 34 2).toInt := (hvx.2.1 34 2).1
            have g27 : (hx.2.1 34 2).toInt ≤ 500 := (hvx.2.1 34 2).2
            have g28 : (-2147483648 : Int) ≤ (hx.2.1 34 3).toInt := (hvx.2.1 34 3).1
            have g29 : (hx.2.1 34 3).toInt ≤ 2147483647 := (hvx.2.1 34 3).2
            have g30 : (0 : Int) ≤ (hx.2.1 34 7).toInt := (hvx.2.1 34 7).1
            have g31 : (hx.2.1 34 7).toInt ≤ 7 := (hvx.2.1 34 7).2
            have g32 : (hx.2.1 34 3).toInt = v21.toInt := by rw [← (show v21 = hx.2.1 34 3 from v21w)] <;> exact (ti_rfl v21)
            refine go_invV (pc := 106) (sl := 0) (s_X3_finish_f l (d + 0) hvx ) mL_X3_80 iM_X3_finish sM_X3_finish (hvx.sh rfl) rfl rfl rfl (Nat.le_of_ble_eq_true rfl) (show d + 0 + 17 + 1 ≤ d + 18 by omega) (show 8 + (1 + 11) + 40 * (d + 0 + 17) ≤ 40 * (d + 18) by omega) (g_c0 hvx.ln) (Nat.le_of_ble_eq_true rfl) dX3_read_106 ?_
            intro r h33 hq _
            obtain ⟨rfl, hv33, f34, f35⟩ := hq
            have fx33 : FX KC0 h h33 := FX.tr fxx f35
            have k36 := bd_e k25 f34.symm
            obtain ⟨u37, u37w⟩ : ∃ v : Int32, v = h33.2.1 34 2 := ⟨_, rfl⟩
            have u37e : (h33.2.1 34 2).toInt = u37.toInt := by rw [u37w]
            have u37l : 0 ≤ u37.toInt := by rw [u37w]; exact (hv33.2.1 34 2).1
            have u37u : u37.toInt ≤ 500 := by rw [u37w]; exact (hv33.2.1 34 2).2
            have k38 := k36
            obtain ⟨u39, u39w⟩ : ∃ v : Int32, v = h33.2.1 34 3 := ⟨_, rfl⟩
            have u39e : (h33.2.1 34 3).toInt = u39.toInt := by rw [u39w]
            have u39l : -2147483648 ≤ u39.toInt := by rw [u39w]; exact (hv33.2.1 34 3).1
            have u39u : u39.toInt ≤ 2147483647 := by rw [u39w]; exact (hv33.2.1 34 3).2
            have k40 := bd_e k38 (congrArg Int32.toInt u39w.symm)
            obtain ⟨u41, u41w⟩ : ∃ v : Int32, v = h33.2.1 34 7 := ⟨_, rfl⟩
            have u41e : (h33.2.1 34 7).toInt = u41.toInt := by rw [u41w]
            have u41l : 0 ≤ u41.toInt := by rw [u41w]; exact (hv33.2.1 34 7).1
            have u41u : u41.toInt ≤ 7 := by rw [u41w]; exact (hv33.2.1 34 7).2
            have k42 := k40
            refine go_aload_n (pc := 109) rfl dX3_read_109 ?_
            refine gi_get (pc := 110) (lo := -2147483648) (hi := 2147483647) hv33 fL_X3_22 rfl (Nat.le_of_ble_eq_true rfl) rfl rfl dX3_read_110 (fun v43 v43l v43u v43w => ?_)
            have v43r : u39 = h33.2.1 34 3 := u39w
            have v43q : TI v43 u39.toInt := by rw [v43w.trans v43r.symm]; exact (ti_rfl u39)
            exact gi_iret (pc := 113) v43q ⟨_, rfl, (ti_lo _), (ti_hi _), ⟨_, hv33, sqx⟩, (by rw [show (v43 : Int32).toInt = u39.toInt from v43q]; exact k42.symm.trans kf), fx33⟩ hv33 dX3_read_113
          ·
            have k44 := if_f k22 (fun z => z q24)
            have prx0 : PR hx := x0 (by rw [← v21w]; omega)
            refine go_aload_n (pc := 29) rfl dX3_read_29 ?_
            have g45 : (0 : Int) ≤ (hx.2.1 34 2).toInt := (hvx.2.1 34 2).1
            have g46 : (hx.2.1 34 2).toInt ≤ 500 := (hvx.2.1 34 2).2
            have g47 : (-2147483648 : Int) ≤ (hx.2.1 34 3).toInt := (hvx.2.1 34 3).1
            have g48 : (hx.2.1 34 3).toInt ≤ 2147483647 := (hvx.2.1 34 3).2
            have g49 : (0 : Int) ≤ (hx.2.1 34 7).toInt := (hvx.2.1 34 7).1
            have g50 : (hx.2.1 34 7).toInt ≤ 7 := (hvx.2.1 34 7).2
            have g51 : (hx.2.1 34 3).toInt = v21.toInt := by rw [← (show v21 = hx.2.1 34 3 from v21w)] <;> exact (ti_rfl v21)
            refine go_invV (pc := 30) (sl := 0) (s_X3_look_f l (d + 16) hvx ) mL_X3_66 iM_X3_look sM_X3_look (hvx.sh rfl) rfl rfl rfl (Nat.le_of_ble_eq_true rfl) (show d + 16 + 1 + 1 ≤ d + 18 by omega) (show 8 + (1 + 11) + 40 * (d + 16 + 1) ≤ 40 * (d + 18) by omega) (g_c0 hvx.ln) (Nat.le_of_ble_eq_true rfl) dX3_read_30 ?_
            intro r h52 hq _
            obtain ⟨v58, rfl, v58l, v58u, hv52, f53, f54, f55, f56, f57, pt52⟩ := hq
            have fx52 : FX KC0 h h52 := FX.tr fxx f57
            have k59 := bd2_e k44 f56
            obtain ⟨u60, u60w⟩ : ∃ v : Int32, v = h52.2.1 34 2 := ⟨_, rfl⟩
            have u60e : (h52.2.1 34 2).toInt = u60.toInt := by rw [u60w]
            have u60l : 0 ≤ u60.toInt := by rw [u60w]; exact (hv52.2.1 34 2).1
            have u60u : u60.toInt ≤ 500 := by rw [u60w]; exact (hv52.2.1 34 2).2
            have k61 := k59
            obtain ⟨u62, u62w⟩ : ∃ v : Int32, v = h52.2.1 34 3 := ⟨_, rfl⟩
            have u62e : (h52.2.1 34 3).toInt = u62.toInt := by rw [u62w]
            have u62l : -2147483648 ≤ u62.toInt := by rw [u62w]; exact (hv52.2.1 34 3).1
            have u62u : u62.toInt ≤ 2147483647 := by rw [u62w]; exact (hv52.2.1 34 3).2
            have k63 := k61
            obtain ⟨u64, u64w⟩ : ∃ v : Int32, v = h52.2.1 34 7 := ⟨_, rfl⟩
            have u64e : (h52.2.1 34 7).toInt = u64.toInt := by rw [u64w]
            have u64l : 0 ≤ u64.toInt := by rw [u64w]; exact (hv52.2.1 34 7).1
            have u64u : u64.toInt ≤ 7 := by rw [u64w]; exact (hv52.2.1 34 7).2
            have k65 := bd_e k63 (congrArg Int32.toInt u64w.symm)
            have prl : PR h52 := pt52 prx0
            refine go_istore (pc := 33) (Nat.le_of_ble_eq_true rfl) dX3_read_33 (go_lv (lv2 := [(0, .ref 34), (4, .int l4), (5, .int v58)]) rfl ?_)
            refine go_aload_n (pc := 35) rfl dX3_read_35 ?_
            refine gi_get (pc := 36) (lo := 0) (hi := 7) hv52 fL_X3_32 rfl (Nat.le_of_ble_eq_true rfl) rfl rfl dX3_read_36 (fun v66 v66l v66u v66w => ?_)
            have v66r : u64 = h52.2.1 34 7 := u64w
            have v66q : TI v66 u64.toInt := by rw [v66w.trans v66r.symm]; exact (ti_rfl u64)
            refine gf_if_ne (pc := 39) (tgt := 51) v66q (by decide) dX3_read_39 (fun q67 => ?_) (fun q67 => ?_)
            ·
              have k68 := if_t k65 q67
              refine go_aload_n (pc := 51) rfl dX3_read_51 ?_
              refine gi_get (pc := 52) (lo := 0) (hi := 7) hv52 fL_X3_32 rfl (Nat.le_of_ble_eq_true rfl) rfl rfl dX3_read_52 (fun v69 v69l v69u v69w => ?_)
              have v69r : u64 = h52.2.1 34 7 := u64w
              have v69q : TI v69 u64.toInt := by rw [v69w.trans v69r.symm]; exact (ti_rfl u64)
              refine gf_if_ne (pc := 55) (tgt := 65) v69q (by decide) dX3_read_55 (fun q70 => ?_) (fun q70 => False.elim (by omega))
              refine go_iload (pc := 65) rfl dX3_read_65 ?_
              refine go_bipush (pc := 67) (v := 125) (by decide) dX3_read_67 ?_
              refine gf_icmp_ne (pc := 69) (tgt := 79) (ti_rfl v58) (ti_c (v := 125) (a := 125) (by decide)) (by decide) dX3_read_69 (fun q71 => ?_) (fun q71 => ?_)
              ·
                have k72 := if_t k68 q71
                refine go_iload (pc := 79) rfl dX3_read_79 ?_
                refine go_bipush (pc := 81) (v := 37) (by decide) dX3_read_81 ?_
                refine gf_icmp_ne (pc := 83) (tgt := 93) (ti_rfl v58) (ti_c (v := 37) (a := 37) (by decide)) (by decide) dX3_read_83 (fun q73 => ?_) (fun q73 => ?_)
                ·
                  have k74 := if_t k72 q73
                  refine go_aload_n (pc := 93) rfl dX3_read_93 ?_
                  refine go_iload (pc := 94) rfl dX3_read_94 ?_
                  have g75 : (0 : Int) ≤ (h52.2.1 34 2).toInt := (hv52.2.1 34 2).1
                  have g76 : (h52.2.1 34 2).toInt ≤ 500 := (hv52.2.1 34 2).2
                  have g77 : (-2147483648 : Int) ≤ (h52.2.1 34 3).toInt := (hv52.2.1 34 3).1
                  have g78 : (h52.2.1 34 3).toInt ≤ 2147483647 := (hv52.2.1 34 3).2
                  have g79 : (0 : Int) ≤ (h52.2.1 34 7).toInt := (hv52.2.1 34 7).1
                  have g80 : (h52.2.1 34 7).toInt ≤ 7 := (hv52.2.1 34 7).2
                  have g81 : (h52.2.1 34 2).toInt = u60.toInt := by rw [← (show u60 = h52.2.1 34 2 from u60w)] <;> exact (ti_rfl u60)
                  have g82 : (h52.2.1 34 3).toInt = u62.toInt := by rw [← (show u62 = h52.2.1 34 3 from u62w)] <;> exact (ti_rfl u62)
                  have g83 : (h52.2.1 34 7).toInt = u64.toInt := by rw [← (show u64 = h52.2.1 34 7 from u64w)] <;> exact (ti_rfl u64)
                  refine go_invV (pc := 96) (sl := 0) (s_X3_readStatement_f l (d + 11) hv52 v58 (by rw [show (v58 : Int32).toInt = v58.toInt from (ti_rfl v58)]; omega) (by rw [show (v58 : Int32).toInt = v58.toInt from (ti_rfl v58)]; omega) (by omega) (by omega)) mL_X3_76 iM_X3_readStatement sM_X3_readStatement (hv52.sh rfl) rfl rfl rfl (Nat.le_of_ble_eq_true rfl) (show d + 11 + 6 + 1 ≤ d + 18 by omega) (show 8 + (5 + 11) + 40 * (d + 11 + 6) ≤ 40 * (d + 18) by omega) (g_c0 hv52.ln) (Nat.le_of_ble_eq_true rfl) dX3_read_96 ?_
                  intro r h84 hq _
                  obtain ⟨rfl, ⟨Q85, hv84, r86, r87, r88, r89⟩, f90, f91, pt84⟩ := hq
                  have fx84 : FX KC0 h h84 := FX.tr fx52 f91
                  have k92 := bd_e k74 f90.symm
                  have r86 : (0 : Int) = 0 := r86
                  obtain ⟨u93, u93w⟩ : ∃ v : Int32, v = h84.2.1 34 2 := ⟨_, rfl⟩
                  have u93e : (h84.2.1 34 2).toInt = u93.toInt := by rw [u93w]
                  have u93l : 0 ≤ u93.toInt := by rw [u93w]; exact (hv84.2.1 34 2).1
                  have u93u : u93.toInt ≤ 500 := by rw [u93w]; exact (hv84.2.1 34 2).2
                  have k94 := k92
                  obtain ⟨u95, u95w⟩ : ∃ v : Int32, v = h84.2.1 34 3 := ⟨_, rfl⟩
                  have u95e : (h84.2.1 34 3).toInt = u95.toInt := by rw [u95w]
                  have u95l : -2147483648 ≤ u95.toInt := by rw [u95w]; exact (hv84.2.1 34 3).1
                  have u95u : u95.toInt ≤ 2147483647 := by rw [u95w]; exact (hv84.2.1 34 3).2
                  have k96 := k94
                  obtain ⟨u97, u97w⟩ : ∃ v : Int32, v = h84.2.1 34 7 := ⟨_, rfl⟩
                  have u97e : (h84.2.1 34 7).toInt = u97.toInt := by rw [u97w]
                  have u97l : 0 ≤ u97.toInt := by rw [u97w]; exact (hv84.2.1 34 7).1
                  have u97u : u97.toInt ≤ 7 := by rw [u97w]; exact (hv84.2.1 34 7).2
                  have k98 := k96
                  refine gf_iinc (pc := 99) (Nat.le_of_ble_eq_true rfl) rfl (ti_rfl l4) (ti_c (by decide)) (by omega) (by omega) dX3_read_99 (fun v99 e100 => ?_)
                  refine go_lv (lv2 := [(0, .ref 34), (4, .int v99), (5, .int v58)]) rfl ?_
                  refine go_goto (pc := 102) (tgt := 14) (by decide) dX3_read_102 ?_
                  have z101 : (v99 : Int32).toInt = (l4.toInt + 1) := e100
                  have g102 : (0 : Int) ≤ (h84.2.1 34 2).toInt := (hv84.2.1 34 2).1
                  have g103 : (h84.2.1 34 2).toInt ≤ 500 := (hv84.2.1 34 2).2
                  have g104 : (-2147483648 : Int) ≤ (h84.2.1 34 3).toInt := (hv84.2.1 34 3).1
                  have g105 : (h84.2.1 34 3).toInt ≤ 2147483647 := (hv84.2.1 34 3).2
                  have g106 : (0 : Int) ≤ (h84.2.1 34 7).toInt := (hv84.2.1 34 7).1
                  have g107 : (h84.2.1 34 7).toInt ≤ 7 := (hv84.2.1 34 7).2
                  have g108 : (h84.2.1 34 2).toInt = u93.toInt := by rw [← (show u93 = h84.2.1 34 2 from u93w)] <;> exact (ti_rfl u93)
                  have g109 : (h84.2.1 34 3).toInt = u95.toInt := by rw [← (show u95 = h84.2.1 34 3 from u95w)] <;> exact (ti_rfl u95)
                  have g110 : (h84.2.1 34 7).toInt = u97.toInt := by rw [← (show u97 = h84.2.1 34 7 from u97w)] <;> exact (ti_rfl u97)
                  exact go_lv rfl (ih v99 _ h84 hv84 (RQ.trans sqx ⟨r87, r88, r89⟩) (by omega) (by omega) (fun _ => pt84 prl) (by omega) (by omega) (by omega) (by omega) (by omega) (by omega) fx84 (by rw [show (v99 : Int32).toInt = (l4.toInt + 1) from e100]; exact k98) (by omega))
                ·
                  have k111 := if_f k72 (fun z => z q73)
                  refine go_aload_n (pc := 86) rfl dX3_read_86 ?_
                  have g112 : (0 : Int) ≤ (h52.2.1 34 2).toInt := (hv52.2.1 34 2).1
                  have g113 : (h52.2.1 34 2).toInt ≤ 500 := (hv52.2.1 34 2).2
                  have g114 : (-2147483648 : Int) ≤ (h52.2.1 34 3).toInt := (hv52.2.1 34 3).1
                  have g115 : (h52.2.1 34 3).toInt ≤ 2147483647 := (hv52.2.1 34 3).2
                  have g116 : (0 : Int) ≤ (h52.2.1 34 7).toInt := (hv52.2.1 34 7).1
                  have g117 : (h52.2.1 34 7).toInt ≤ 7 := (hv52.2.1 34 7).2
                  have g118 : (h52.2.1 34 2).toInt = u60.toInt := by rw [← (show u60 = h52.2.1 34 2 from u60w)] <;> exact (ti_rfl u60)
                  have g119 : (h52.2.1 34 3).toInt = u62.toInt := by rw [← (show u62 = h52.2.1 34 3 from u62w)] <;> exact (ti_rfl u62)
                  have g120 : (h52.2.1 34 7).toInt = u64.toInt := by rw [← (show u64 = h52.2.1 34 7 from u64w)] <;> exact (ti_rfl u64)
                  refine go_invV (pc := 87) (sl := 0) (s_X3_readTry_f l (d + 14) hv52 (by omega) (by omega)) mL_X3_73 iM_X3_readTry sM_X3_readTry (hv52.sh rfl) rfl rfl rfl (Nat.le_of_ble_eq_true rfl) (show d + 14 + 3 + 1 ≤ d + 18 by omega) (show 8 + (2 + 11) + 40 * (d + 14 + 3) ≤ 40 * (d + 18) by omega) (g_c0 hv52.ln) (Nat.le_of_ble_eq_true rfl) dX3_read_87 ?_
                  intro r h121 hq _
                  obtain ⟨rfl, hv121, f122, f123, pt121⟩ := hq
                  have fx121 : FX KC0 h h121 := FX.tr fx52 f123
                  have k124 := bd_e k111 f122.symm
                  obtain ⟨u125, u125w⟩ : ∃ v : Int32, v = h121.2.1 34 2 := ⟨_, rfl⟩
                  have u125e : (h121.2.1 34 2).toInt = u125.toInt := by rw [u125w]
                  have u125l : 0 ≤ u125.toInt := by rw [u125w]; exact (hv121.2.1 34 2).1
                  have u125u : u125.toInt ≤ 500 := by rw [u125w]; exact (hv121.2.1 34 2).2
                  have k126 := k124
                  obtain ⟨u127, u127w⟩ : ∃ v : Int32, v = h121.2.1 34 3 := ⟨_, rfl⟩
                  have u127e : (h121.2.1 34 3).toInt = u127.toInt := by rw [u127w]
                  have u127l : -2147483648 ≤ u127.toInt := by rw [u127w]; exact (hv121.2.1 34 3).1
                  have u127u : u127.toInt ≤ 2147483647 := by rw [u127w]; exact (hv121.2.1 34 3).2
                  have k128 := k126
                  obtain ⟨u129, u129w⟩ : ∃ v : Int32, v = h121.2.1 34 7 := ⟨_, rfl⟩
                  have u129e : (h121.2.1 34 7).toInt = u129.toInt := by rw [u129w]
                  have u129l : 0 ≤ u129.toInt := by rw [u129w]; exact (hv121.2.1 34 7).1
                  have u129u : u129.toInt ≤ 7 := by rw [u129w]; exact (hv121.2.1 34 7).2
                  have k130 := k128
                  refine go_goto (pc := 90) (tgt := 99) (by decide) dX3_read_90 ?_
                  refine gf_iinc (pc := 99) (Nat.le_of_ble_eq_true rfl) rfl (ti_rfl l4) (ti_c (by decide)) (by omega) (by omega) dX3_read_99 (fun v131 e132 => ?_)
                  refine go_lv (lv2 := [(0, .ref 34), (4, .int v131), (5, .int v58)]) rfl ?_
                  refine go_goto (pc := 102) (tgt := 14) (by decide) dX3_read_102 ?_
                  have z133 : (v131 : Int32).toInt = (l4.toInt + 1) := e132
                  have g134 : (0 : Int) ≤ (h121.2.1 34 2).toInt := (hv121.2.1 34 2).1
                  have g135 : (h121.2.1 34 2).toInt ≤ 500 := (hv121.2.1 34 2).2
                  have g136 : (-2147483648 : Int) ≤ (h121.2.1 34 3).toInt := (hv121.2.1 34 3).1
                  have g137 : (h121.2.1 34 3).toInt ≤ 2147483647 := (hv121.2.1 34 3).2
                  have g138 : (0 : Int) ≤ (h121.2.1 34 7).toInt := (hv121.2.1 34 7).1
                  have g139 : (h121.2.1 34 7).toInt ≤ 7 := (hv121.2.1 34 7).2
                  have g140 : (h121.2.1 34 2).toInt = u125.toInt := by rw [← (show u125 = h121.2.1 34 2 from u125w)] <;> exact (ti_rfl u125)
                  have g141 : (h121.2.1 34 3).toInt = u127.toInt := by rw [← (show u127 = h121.2.1 34 3 from u127w)] <;> exact (ti_rfl u127)
                  have g142 : (h121.2.1 34 7).toInt = u129.toInt := by rw [← (show u129 = h121.2.1 34 7 from u129w)] <;> exact (ti_rfl u129)
                  exact go_lv rfl (ih v131 _ h121 hv121 sqx (by omega) (by omega) (fun _ => pt121 prl) (by omega) (by omega) (by omega) (by omega) (by omega) (by omega) fx121 (by rw [show (v131 : Int32).toInt = (l4.toInt + 1) from e132]; exact k130) (by omega))
              ·
                have k143 := if_f k68 (fun z => z q71)
                refine go_aload_n (pc := 72) rfl dX3_read_72 ?_
                have g144 : (0 : Int) ≤ (h52.2.1 34 2).toInt := (hv52.2.1 34 2).1
                have g145 : (h52.2.1 34 2).toInt ≤ 500 := (hv52.2.1 34 2).2
                have g146 : (-2147483648 : Int) ≤ (h52.2.1 34 3).toInt := (hv52.2.1 34 3).1
                have g147 : (h52.2.1 34 3).toInt ≤ 2147483647 := (hv52.2.1 34 3).2
                have g148 : (0 : Int) ≤ (h52.2.1 34 7).toInt := (hv52.2.1 34 7).1
                have g149 : (h52.2.1 34 7).toInt ≤ 7 := (hv52.2.1 34 7).2
                have g150 : (h52.2.1 34 2).toInt = u60.toInt := by rw [← (show u60 = h52.2.1 34 2 from u60w)] <;> exact (ti_rfl u60)
                have g151 : (h52.2.1 34 3).toInt = u62.toInt := by rw [← (show u62 = h52.2.1 34 3 from u62w)] <;> exact (ti_rfl u62)
                have g152 : (h52.2.1 34 7).toInt = u64.toInt := by rw [← (show u64 = h52.2.1 34 7 from u64w)] <;> exact (ti_rfl u64)
                refine go_invV (pc := 73) (sl := 0) (s_X3_closeBlock_f l (d + 13) hv52 (by omega) (by omega) prl) mL_X3_70 iM_X3_closeBlock sM_X3_closeBlock (hv52.sh rfl) rfl rfl rfl (Nat.le_of_ble_eq_true rfl) (show d + 13 + 4 + 1 ≤ d + 18 by omega) (show 8 + (2 + 11) + 40 * (d + 13 + 4) ≤ 40 * (d + 18) by omega) (g_c0 hv52.ln) (Nat.le_of_ble_eq_true rfl) dX3_read_73 ?_
                intro r h153 hq _
                obtain ⟨rfl, hv153, f154, f155, pt153⟩ := hq
                have fx153 : FX KC0 h h153 := FX.tr fx52 f155
                have k156 := bd_e k143 f154.symm
                obtain ⟨u157, u157w⟩ : ∃ v : Int32, v = h153.2.1 34 2 := ⟨_, rfl⟩
                have u157e : (h153.2.1 34 2).toInt = u157.toInt := by rw [u157w]
                have u157l : 0 ≤ u157.toInt := by rw [u157w]; exact (hv153.2.1 34 2).1
                have u157u : u157.toInt ≤ 500 := by rw [u157w]; exact (hv153.2.1 34 2).2
                have k158 := k156
                obtain ⟨u159, u159w⟩ : ∃ v : Int32, v = h153.2.1 34 3 := ⟨_, rfl⟩
                have u159e : (h153.2.1 34 3).toInt = u159.toInt := by rw [u159w]
                have u159l : -2147483648 ≤ u159.toInt := by rw [u159w]; exact (hv153.2.1 34 3).1
                have u159u : u159.toInt ≤ 2147483647 := by rw [u159w]; exact (hv153.2.1 34 3).2
                have k160 := k158
                obtain ⟨u161, u161w⟩ : ∃ v : Int32, v = h153.2.1 34 7 := ⟨_, rfl⟩
                have u161e : (h153.2.1 34 7).toInt = u161.toInt := by rw [u161w]
                have u161l : 0 ≤ u161.toInt := by rw [u161w]; exact (hv153.2.1 34 7).1
                have u161u : u161.toInt ≤ 7 := by rw [u161w]; exact (hv153.2.1 34 7).2
                have k162 := k160
                refine go_goto (pc := 76) (tgt := 99) (by decide) dX3_read_76 ?_
                refine gf_iinc (pc := 99) (Nat.le_of_ble_eq_true rfl) rfl (ti_rfl l4) (ti_c (by decide)) (by omega) (by omega) dX3_read_99 (fun v163 e164 => ?_)
                refine go_lv (lv2 := [(0, .ref 34), (4, .int v163), (5, .int v58)]) rfl ?_
                refine go_goto (pc := 102) (tgt := 14) (by decide) dX3_read_102 ?_
                have z165 : (v163 : Int32).toInt = (l4.toInt + 1) := e164
                have g166 : (0 : Int) ≤ (h153.2.1 34 2).toInt := (hv153.2.1 34 2).1
                have g167 : (h153.2.1 34 2).toInt ≤ 500 := (hv153.2.1 34 2).2
                have g168 : (-2147483648 : Int) ≤ (h153.2.1 34 3).toInt := (hv153.2.1 34 3).1
                have g169 : (h153.2.1 34 3).toInt ≤ 2147483647 := (hv153.2.1 34 3).2
                have g170 : (0 : Int) ≤ (h153.2.1 34 7).toInt := (hv153.2.1 34 7).1
                have g171 : (h153.2.1 34 7).toInt ≤ 7 := (hv153.2.1 34 7).2
                have g172 : (h153.2.1 34 2).toInt = u157.toInt := by rw [← (show u157 = h153.2.1 34 2 from u157w)] <;> exact (ti_rfl u157)
                have g173 : (h153.2.1 34 3).toInt = u159.toInt := by rw [← (show u159 = h153.2.1 34 3 from u159w)] <;> exact (ti_rfl u159)
                have g174 : (h153.2.1 34 7).toInt = u161.toInt := by rw [← (show u161 = h153.2.1 34 7 from u161w)] <;> exact (ti_rfl u161)
                exact go_lv rfl (ih v163 _ h153 hv153 sqx (by omega) (by omega) (fun _ => pt153 prl) (by omega) (by omega) (by omega) (by omega) (by omega) (by omega) fx153 (by rw [show (v163 : Int32).toInt = (l4.toInt + 1) from e164]; exact k162) (by omega))
            ·
              have k175 := if_f k65 (fun z => z q67)
              refine go_iload (pc := 42) rfl dX3_read_42 ?_
              refine go_iconst (pc := 44) (v := (-1)) (by decide) dX3_read_44 ?_
              refine gf_icmp_ne (pc := 45) (tgt := 51) (ti_rfl v58) (ti_c (v := (-1)) (a := (-1)) (by decide)) (by decide) dX3_read_45 (fun q176 => ?_) (fun q176 => ?_)
              ·
                have k177 := if_t k175 q176
                refine go_aload_n (pc := 51) rfl dX3_read_51 ?_
                refine gi_get (pc := 52) (lo := 0) (hi := 7) hv52 fL_X3_32 rfl (Nat.le_of_ble_eq_true rfl) rfl rfl dX3_read_52 (fun v178 v178l v178u v178w => ?_)
                have v178r : u64 = h52.2.1 34 7 := u64w
                have v178q : TI v178 u64.toInt := by rw [v178w.trans v178r.symm]; exact (ti_rfl u64)
                refine gf_if_ne (pc := 55) (tgt := 65) v178q (by decide) dX3_read_55 (fun q179 => False.elim (by omega)) (fun q179 => ?_)
                refine go_aload_n (pc := 58) rfl dX3_read_58 ?_
                have g180 : (0 : Int) ≤ (h52.2.1 34 2).toInt := (hv52.2.1 34 2).1
                have g181 : (h52.2.1 34 2).toInt ≤ 500 := (hv52.2.1 34 2).2
                have g182 : (-2147483648 : Int) ≤ (h52.2.1 34 3).toInt := (hv52.2.1 34 3).1
                have g183 : (h52.2.1 34 3).toInt ≤ 2147483647 := (hv52.2.1 34 3).2
                have g184 : (0 : Int) ≤ (h52.2.1 34 7).toInt := (hv52.2.1 34 7).1
                have g185 : (h52.2.1 34 7).toInt ≤ 7 := (hv52.2.1 34 7).2
                have g186 : (h52.2.1 34 2).toInt = u60.toInt := by rw [← (show u60 = h52.2.1 34 2 from u60w)] <;> exact (ti_rfl u60)
                have g187 : (h52.2.1 34 3).toInt = u62.toInt := by rw [← (show u62 = h52.2.1 34 3 from u62w)] <;> exact (ti_rfl u62)
                have g188 : (h52.2.1 34 7).toInt = u64.toInt := by rw [← (show u64 = h52.2.1 34 7 from u64w)] <;> exact (ti_rfl u64)
                refine go_invV (pc := 59) (sl := 0) (s_X3_readProcedure_f l (d + 14) hv52 ) mL_X3_63 iM_X3_readProcedure sM_X3_readProcedure (hv52.sh rfl) rfl rfl rfl (Nat.le_of_ble_eq_true rfl) (show d + 14 + 3 + 1 ≤ d + 18 by omega) (show 8 + (2 + 11) + 40 * (d + 14 + 3) ≤ 40 * (d + 18) by omega) (g_c0 hv52.ln) (Nat.le_of_ble_eq_true rfl) dX3_read_59 ?_
                intro r h189 hq _
                obtain ⟨rfl, hv189, f190, f191, f192⟩ := hq
                have fx189 : FX KC0 h h189 := FX.tr fx52 f192
                have k193 := bd_e k177 f191.symm
                obtain ⟨u194, u194w⟩ : ∃ v : Int32, v = h189.2.1 34 2 := ⟨_, rfl⟩
                have u194e : (h189.2.1 34 2).toInt = u194.toInt := by rw [u194w]
                have u194l : 0 ≤ u194.toInt := by rw [u194w]; exact (hv189.2.1 34 2).1
                have u194u : u194.toInt ≤ 500 := by rw [u194w]; exact (hv189.2.1 34 2).2
                have k195 := k193
                obtain ⟨u196, u196w⟩ : ∃ v : Int32, v = h189.2.1 34 3 := ⟨_, rfl⟩
                have u196e : (h189.2.1 34 3).toInt = u196.toInt := by rw [u196w]
                have u196l : -2147483648 ≤ u196.toInt := by rw [u196w]; exact (hv189.2.1 34 3).1
                have u196u : u196.toInt ≤ 2147483647 := by rw [u196w]; exact (hv189.2.1 34 3).2
                have k197 := k195
                obtain ⟨u198, u198w⟩ : ∃ v : Int32, v = h189.2.1 34 7 := ⟨_, rfl⟩
                have u198e : (h189.2.1 34 7).toInt = u198.toInt := by rw [u198w]
                have u198l : 0 ≤ u198.toInt := by rw [u198w]; exact (hv189.2.1 34 7).1
                have u198u : u198.toInt ≤ 7 := by rw [u198w]; exact (hv189.2.1 34 7).2
                have k199 := k197
                refine go_goto (pc := 62) (tgt := 99) (by decide) dX3_read_62 ?_
                refine gf_iinc (pc := 99) (Nat.le_of_ble_eq_true rfl) rfl (ti_rfl l4) (ti_c (by decide)) (by omega) (by omega) dX3_read_99 (fun v200 e201 => ?_)
                refine go_lv (lv2 := [(0, .ref 34), (4, .int v200), (5, .int v58)]) rfl ?_
                refine go_goto (pc := 102) (tgt := 14) (by decide) dX3_read_102 ?_
                have z202 : (v200 : Int32).toInt = (l4.toInt + 1) := e201
                have g203 : (0 : Int) ≤ (h189.2.1 34 2).toInt := (hv189.2.1 34 2).1
                have g204 : (h189.2.1 34 2).toInt ≤ 500 := (hv189.2.1 34 2).2
                have g205 : (-2147483648 : Int) ≤ (h189.2.1 34 3).toInt := (hv189.2.1 34 3).1
                have g206 : (h189.2.1 34 3).toInt ≤ 2147483647 := (hv189.2.1 34 3).2
                have g207 : (0 : Int) ≤ (h189.2.1 34 7).toInt := (hv189.2.1 34 7).1
                have g208 : (h189.2.1 34 7).toInt ≤ 7 := (hv189.2.1 34 7).2
                have g209 : (h189.2.1 34 2).toInt = u194.toInt := by rw [← (show u194 = h189.2.1 34 2 from u194w)] <;> exact (ti_rfl u194)
                have g210 : (h189.2.1 34 3).toInt = u196.toInt := by rw [← (show u196 = h189.2.1 34 3 from u196w)] <;> exact (ti_rfl u196)
                have g211 : (h189.2.1 34 7).toInt = u198.toInt := by rw [← (show u198 = h189.2.1 34 7 from u198w)] <;> exact (ti_rfl u198)
                exact go_lv rfl (ih v200 _ h189 hv189 sqx (by omega) (by omega) f190 (by omega) (by omega) (by omega) (by omega) (by omega) (by omega) fx189 (by rw [show (v200 : Int32).toInt = (l4.toInt + 1) from e201]; exact k199) (by omega))
              ·
                have k212 := if_f k175 (fun z => z q176)
                refine go_goto (pc := 48) (tgt := 105) (by decide) dX3_read_48 ?_
                refine go_aload_n (pc := 105) rfl dX3_read_105 ?_
                have g213 : (0 : Int) ≤ (h52.2.1 34 2).toInt := (hv52.2.1 34 2).1
                have g214 : (h52.2.1 34 2).toInt ≤ 500 := (hv52.2.1 34 2).2
                have g215 : (-2147483648 : Int) ≤ (h52.2.1 34 3).toInt := (hv52.2.1 34 3).1
                have g216 : (h52.2.1 34 3).toInt ≤ 2147483647 := (hv52.2.1 34 3).2
                have g217 : (0 : Int) ≤ (h52.2.1 34 7).toInt := (hv52.2.1 34 7).1
                have g218 : (h52.2.1 34 7).toInt ≤ 7 := (hv52.2.1 34 7).2
                have g219 : (h52.2.1 34 2).toInt = u60.toInt := by rw [← (show u60 = h52.2.1 34 2 from u60w)] <;> exact (ti_rfl u60)
                have g220 : (h52.2.1 34 3).toInt = u62.toInt := by rw [← (show u62 = h52.2.1 34 3 from u62w)] <;> exact (ti_rfl u62)
                have g221 : (h52.2.1 34 7).toInt = u64.toInt := by rw [← (show u64 = h52.2.1 34 7 from u64w)] <;> exact (ti_rfl u64)
                refine go_invV (pc := 106) (sl := 0) (s_X3_finish_f l (d + 0) hv52 ) mL_X3_80 iM_X3_finish sM_X3_finish (hv52.sh rfl) rfl rfl rfl (Nat.le_of_ble_eq_true rfl) (show d + 0 + 17 + 1 ≤ d + 18 by omega) (show 8 + (1 + 11) + 40 * (d + 0 + 17) ≤ 40 * (d + 18) by omega) (g_c0 hv52.ln) (Nat.le_of_ble_eq_true rfl) dX3_read_106 ?_
                intro r h222 hq _
                obtain ⟨rfl, hv222, f223, f224⟩ := hq
                have fx222 : FX KC0 h h222 := FX.tr fx52 f224
                have k225 := bd_e k212 f223.symm
                obtain ⟨u226, u226w⟩ : ∃ v : Int32, v = h222.2.1 34 2 := ⟨_, rfl⟩
                have u226e : (h222.2.1 34 2).toInt = u226.toInt := by rw [u226w]
                have u226l : 0 ≤ u226.toInt := by rw [u226w]; exact (hv222.2.1 34 2).1
                have u226u : u226.toInt ≤ 500 := by rw [u226w]; exact (hv222.2.1 34 2).2
                have k227 := k225
                obtain ⟨u228, u228w⟩ : ∃ v : Int32, v = h222.2.1 34 3 := ⟨_, rfl⟩
                have u228e : (h222.2.1 34 3).toInt = u228.toInt := by rw [u228w]
                have u228l : -2147483648 ≤ u228.toInt := by rw [u228w]; exact (hv222.2.1 34 3).1
                have u228u : u228.toInt ≤ 2147483647 := by rw [u228w]; exact (hv222.2.1 34 3).2
                have k229 := bd_e k227 (congrArg Int32.toInt u228w.symm)
                obtain ⟨u230, u230w⟩ : ∃ v : Int32, v = h222.2.1 34 7 := ⟨_, rfl⟩
                have u230e : (h222.2.1 34 7).toInt = u230.toInt := by rw [u230w]
                have u230l : 0 ≤ u230.toInt := by rw [u230w]; exact (hv222.2.1 34 7).1
                have u230u : u230.toInt ≤ 7 := by rw [u230w]; exact (hv222.2.1 34 7).2
                have k231 := k229
                refine go_aload_n (pc := 109) rfl dX3_read_109 ?_
                refine gi_get (pc := 110) (lo := -2147483648) (hi := 2147483647) hv222 fL_X3_22 rfl (Nat.le_of_ble_eq_true rfl) rfl rfl dX3_read_110 (fun v232 v232l v232u v232w => ?_)
                have v232r : u228 = h222.2.1 34 3 := u228w
                have v232q : TI v232 u228.toInt := by rw [v232w.trans v232r.symm]; exact (ti_rfl u228)
                exact gi_iret (pc := 113) v232q ⟨_, rfl, (ti_lo _), (ti_hi _), ⟨_, hv222, sqx⟩, (by rw [show (v232 : Int32).toInt = u228.toInt from v232q]; exact k231.symm.trans kf), fx222⟩ hv222 dX3_read_113
  refine go_aload_n (pc := 0) rfl dX3_read_0 ?_
  refine go_aload_n (pc := 1) rfl dX3_read_1 ?_
  refine go_iload_n (pc := 2) rfl dX3_read_2 ?_
  refine go_aload_n (pc := 3) rfl dX3_read_3 ?_
  have g233 : (0 : Int) ≤ (h.2.1 34 2).toInt := (hv.2.1 34 2).1
  have g234 : (h.2.1 34 2).toInt ≤ 500 := (hv.2.1 34 2).2
  have g235 : (-2147483648 : Int) ≤ (h.2.1 34 3).toInt := (hv.2.1 34 3).1
  have g236 : (h.2.1 34 3).toInt ≤ 2147483647 := (hv.2.1 34 3).2
  have g237 : (0 : Int) ≤ (h.2.1 34 7).toInt := (hv.2.1 34 7).1
  have g238 : (h.2.1 34 7).toInt ≤ 7 := (hv.2.1 34 7).2
  refine go_invV (pc := 4) (sl := 0) (s_X3_start_f l (d + 15) hv a3 (by rw [show (a3 : Int32).toInt = a3.toInt from (ti_rfl a3)]; omega) (by rw [show (a3 : Int32).toInt = a3.toInt from (ti_rfl a3)]; omega) c4 hc4) mL_X3_59 iM_X3_start sM_X3_start (hv.sh rfl) rfl rfl rfl (Nat.le_of_ble_eq_true rfl) (show d + 15 + 2 + 1 ≤ d + 18 by omega) (show 8 + (4 + 11) + 40 * (d + 15 + 2) ≤ 40 * (d + 18) by omega) (g_c0 hv.ln) (Nat.le_of_ble_eq_true rfl) dX3_read_4 ?_
  intro r h239 hq _
  obtain ⟨rfl, hv239, f240, f241⟩ := hq
  have fx239 : FX KC0 h h239 := FX.tr fx f241
  have k242 := bd_e k0 f240.symm
  obtain ⟨u243, u243w⟩ : ∃ v : Int32, v = h239.2.1 34 2 := ⟨_, rfl⟩
  have u243e : (h239.2.1 34 2).toInt = u243.toInt := by rw [u243w]
  have u243l : 0 ≤ u243.toInt := by rw [u243w]; exact (hv239.2.1 34 2).1
  have u243u : u243.toInt ≤ 500 := by rw [u243w]; exact (hv239.2.1 34 2).2
  have k244 := k242
  obtain ⟨u245, u245w⟩ : ∃ v : Int32, v = h239.2.1 34 3 := ⟨_, rfl⟩
  have u245e : (h239.2.1 34 3).toInt = u245.toInt := by rw [u245w]
  have u245l : -2147483648 ≤ u245.toInt := by rw [u245w]; exact (hv239.2.1 34 3).1
  have u245u : u245.toInt ≤ 2147483647 := by rw [u245w]; exact (hv239.2.1 34 3).2
  have k246 := k244
  obtain ⟨u247, u247w⟩ : ∃ v : Int32, v = h239.2.1 34 7 := ⟨_, rfl⟩
  have u247e : (h239.2.1 34 7).toInt = u247.toInt := by rw [u247w]
  have u247l : 0 ≤ u247.toInt := by rw [u247w]; exact (hv239.2.1 34 7).1
  have u247u : u247.toInt ≤ 7 := by rw [u247w]; exact (hv239.2.1 34 7).2
  have k248 := k246
  refine go_aload_n (pc := 7) rfl dX3_read_7 ?_
  have g249 : (0 : Int) ≤ (h239.2.1 34 2).toInt := (hv239.2.1 34 2).1
  have g250 : (h239.2.1 34 2).toInt ≤ 500 := (hv239.2.1 34 2).2
  have g251 : (-2147483648 : Int) ≤ (h239.2.1 34 3).toInt := (hv239.2.1 34 3).1
  have g252 : (h239.2.1 34 3).toInt ≤ 2147483647 := (hv239.2.1 34 3).2
  have g253 : (0 : Int) ≤ (h239.2.1 34 7).toInt := (hv239.2.1 34 7).1
  have g254 : (h239.2.1 34 7).toInt ≤ 7 := (hv239.2.1 34 7).2
  have g255 : (h239.2.1 34 2).toInt = u243.toInt := by rw [← (show u243 = h239.2.1 34 2 from u243w)] <;> exact (ti_rfl u243)
  have g256 : (h239.2.1 34 3).toInt = u245.toInt := by rw [← (show u245 = h239.2.1 34 3 from u245w)] <;> exact (ti_rfl u245)
  have g257 : (h239.2.1 34 7).toInt = u247.toInt := by rw [← (show u247 = h239.2.1 34 7 from u247w)] <;> exact (ti_rfl u247)
  refine go_invV (pc := 8) (sl := 0) (s_X3_readProcedure_f l (d + 14) hv239 ) mL_X3_63 iM_X3_readProcedure sM_X3_readProcedure (hv239.sh rfl) rfl rfl rfl (Nat.le_of_ble_eq_true rfl) (show d + 14 + 3 + 1 ≤ d + 18 by omega) (show 8 + (2 + 11) + 40 * (d + 14 + 3) ≤ 40 * (d + 18) by omega) (g_c0 hv239.ln) (Nat.le_of_ble_eq_true rfl) dX3_read_8 ?_
  intro r h258 hq _
  obtain ⟨rfl, hv258, f259, f260, f261⟩ := hq
  have fx258 : FX KC0 h h258 := FX.tr fx239 f261
  have k262 := bd_e k248 f260.symm
  obtain ⟨u263, u263w⟩ : ∃ v : Int32, v = h258.2.1 34 2 := ⟨_, rfl⟩
  have u263e : (h258.2.1 34 2).toInt = u263.toInt := by rw [u263w]
  have u263l : 0 ≤ u263.toInt := by rw [u263w]; exact (hv258.2.1 34 2).1
  have u263u : u263.toInt ≤ 500 := by rw [u263w]; exact (hv258.2.1 34 2).2
  have k264 := k262
  obtain ⟨u265, u265w⟩ : ∃ v : Int32, v = h258.2.1 34 3 := ⟨_, rfl⟩
  have u265e : (h258.2.1 34 3).toInt = u265.toInt := by rw [u265w]
  have u265l : -2147483648 ≤ u265.toInt := by rw [u265w]; exact (hv258.2.1 34 3).1
  have u265u : u265.toInt ≤ 2147483647 := by rw [u265w]; exact (hv258.2.1 34 3).2
  have k266 := k264
  obtain ⟨u267, u267w⟩ : ∃ v : Int32, v = h258.2.1 34 7 := ⟨_, rfl⟩
  have u267e : (h258.2.1 34 7).toInt = u267.toInt := by rw [u267w]
  have u267l : 0 ≤ u267.toInt := by rw [u267w]; exact (hv258.2.1 34 7).1
  have u267u : u267.toInt ≤ 7 := by rw [u267w]; exact (hv258.2.1 34 7).2
  have k268 := k266
  refine go_iconst (pc := 11) (v := 0) (by decide) dX3_read_11 ?_
  refine go_istore (pc := 12) (Nat.le_of_ble_eq_true rfl) dX3_read_12 (go_lv (lv2 := [(0, .ref 34), (1, .ref 1), (2, .int a3), (3, .ref c4), (4, .int 0)]) rfl ?_)
  have z269 : (0 : Int32).toInt = 0 := (ti_c (v := 0) (a := 0) (by decide))
  have g270 : (0 : Int) ≤ (h258.2.1 34 2).toInt := (hv258.2.1 34 2).1
  have g271 : (h258.2.1 34 2).toInt ≤ 500 := (hv258.2.1 34 2).2
  have g272 : (-2147483648 : Int) ≤ (h258.2.1 34 3).toInt := (hv258.2.1 34 3).1
  have g273 : (h258.2.1 34 3).toInt ≤ 2147483647 := (hv258.2.1 34 3).2
  have g274 : (0 : Int) ≤ (h258.2.1 34 7).toInt := (hv258.2.1 34 7).1
  have g275 : (h258.2.1 34 7).toInt ≤ 7 := (hv258.2.1 34 7).2
  have g276 : (h258.2.1 34 2).toInt = u263.toInt := by rw [← (show u263 = h258.2.1 34 2 from u263w)] <;> exact (ti_rfl u263)
  have g277 : (h258.2.1 34 3).toInt = u265.toInt := by rw [← (show u265 = h258.2.1 34 3 from u265w)] <;> exact (ti_rfl u265)
  have g278 : (h258.2.1 34 7).toInt = u267.toInt := by rw [← (show u267 = h258.2.1 34 7 from u267w)] <;> exact (ti_rfl u267)
  exact go_lv rfl ((key 1522) 0 _ h258 hv258 (RQ.rfl _) (by omega) (by omega) f259 (by omega) (by omega) (by omega) (by omega) (by omega) (by omega) fx258 (by rw [show (0 : Int32).toInt = 0 from (ti_c (v := 0) (a := 0) (by decide))]; exact k268) (by omega))
def f_X4_forget (s : ST) : ST :=
  bd (sI s 49 2 0) fun s1 => s1
set_option maxHeartbeats 4000000 in
set_option maxRecDepth 100000 in
theorem s_X4_forget_f (l : Launch) (d : Nat) {P : PP} {h : HP} (hv : Iv P h)  : Mt l yX4_forget cX4_forget 1 none (d + 1) [.ref 49] h 0 0 (fun r h' => r = none ∧ Iv P h' ∧ (st h' = f_X4_forget (st h)) ∧ (FX KC0 h h')) := by
  refine Mt_iv hv (by decide) (Nat.le_of_ble_eq_true rfl) ?_
  show Go l RX4 cX4_forget 1 (g_rm (d + 1) 0 0) "forget" none 117 0 0 (fun _ _ => True) (fun r h' => r = none ∧ Iv P h' ∧ (st h' = f_X4_forget (st h)) ∧ (FX KC0 h h')) 0 0 [(0, .ref 49)] [] h
  have fx : FX KC0 h h := FX.rfl
  obtain ⟨fin, kf⟩ : ∃ z, z = f_X4_forget (st h) := ⟨_, _root_.rfl⟩
  have k0 := kf
  unfold f_X4_forget at k0
  refine go_aload_n (pc := 0) rfl dX4_forget_0 ?_
  refine go_iconst (pc := 1) (v := 0) (by decide) dX4_forget_1 ?_
  refine gi_put (pc := 2) (lo := 0) (hi := 1) hv (ti_c (v := 0) (a := 0) (by decide)) (fP_X4_9 _) rfl (Nat.le_of_ble_eq_true rfl) rfl rfl (by omega) (by omega) (ti_nb (by rw [show (0 : Int32).toInt = 0 from (ti_c (v := 0) (a := 0) (by decide))]; omega) (by rw [show (0 : Int32).toInt = 0 from (ti_c (v := 0) (a := 0) (by decide))]; omega)) (ti_fb (by rw [show (0 : Int32).toInt = 0 from (ti_c (v := 0) (a := 0) (by decide))]; omega) (by rw [show (0 : Int32).toInt = 0 from (ti_c (v := 0) (a := 0) (by decide))]; omega)) (by decide) (by decide) (by decide) (by decide) dX4_forget_2 (fun h1 hv1 hv1e => ?_)
  have fx1 : FX KC0 h h1 := FX.pI fx hv1e (by unfold KC0; omega)
  have k2 := bd_e k0 (st_I hv1e (ti_c (v := 0) (a := 0) (by decide)))
  exact gi_vret (pc := 5) ⟨rfl, hv1, (k2.symm.trans kf), fx1⟩ hv1 dX4_forget_5
def f_X2_forget (s : ST) : ST :=
  bd (sI s 64 6 (-1)) fun s1 => bd (sI s1 64 10 0) fun s3 => s3
set_option maxHeartbeats 4000000 in
set_option maxRecDepth 100000 in
theorem s_X2_forget_f (l : Launch) (d : Nat) {P : PP} {h : HP} (hv : Iv P h)  : Mt l yX2_forget cX2_forget 1 none (d + 1) [.ref 64] h 0 0 (fun r h' => r = none ∧ Iv P h' ∧ (st h' = f_X2_forget (st h)) ∧ (FX KC0 h h')) := by
  refine Mt_iv hv (by decide) (Nat.le_of_ble_eq_true rfl) ?_
  show Go l RX2 cX2_forget 1 (g_rm (d + 1) 0 0) "forget" none 117 0 0 (fun _ _ => True) (fun r h' => r = none ∧ Iv P h' ∧ (st h' = f_X2_forget (st h)) ∧ (FX KC0 h h')) 0 0 [(0, .ref 64)] [] h
  have fx : FX KC0 h h := FX.rfl
  obtain ⟨fin, kf⟩ : ∃ z, z = f_X2_forget (st h) := ⟨_, _root_.rfl⟩
  have k0 := kf
  unfold f_X2_forget at k0
  refine go_aload_n (pc := 0) rfl dX2_forget_0 ?_
  refine go_iconst (pc := 1) (v := (-1)) (by decide) dX2_forget_1 ?_
  refine gi_put (pc := 2) (lo := -1) (hi := 3) hv (ti_c (v := (-1)) (a := (-1)) (by decide)) (fP_X2_31 _) rfl (Nat.le_of_ble_eq_true rfl) rfl rfl (by omega) (by omega) rfl rfl (by decide) (by decide) (by decide) (by decide) dX2_forget_2 (fun h1 hv1 hv1e => ?_)
  have fx1 : FX KC0 h h1 := FX.pI fx hv1e (by unfold KC0; omega)
  have k2 := bd_e k0 (st_I hv1e (ti_c (v := (-1)) (a := (-1)) (by decide)))
  refine go_aload_n (pc := 5) rfl dX2_forget_5 ?_
  refine go_iconst (pc := 6) (v := 0) (by decide) dX2_forget_6 ?_
  refine gi_put (pc := 7) (lo := 0) (hi := 500) hv1 (ti_c (v := 0) (a := 0) (by decide)) (fP_X2_43 _) rfl (Nat.le_of_ble_eq_true rfl) rfl rfl (by omega) (by omega) rfl rfl (by decide) (by decide) (by decide) (by decide) dX2_forget_7 (fun h3 hv3 hv3e => ?_)
  have fx3 : FX KC0 h h3 := FX.pI fx1 hv3e (by unfold KC0; omega)
  have k4 := bd_e k2 (st_I hv3e (ti_c (v := 0) (a := 0) (by decide)))
  exact gi_vret (pc := 10) ⟨rfl, hv3, (k4.symm.trans kf), fx3⟩ hv3 dX2_forget_10
def f_X7_program (s : ST) : ST × Int :=
  bd (s.1 0 1) fun v1 => bd (sI s 0 1 0) fun s3 => bd (s3.2.2 0 4) fun c6 => bd2 (f_X3_read s3 v1 c6) fun s8 v13 => bd (sI s8 0 2 v13) fun s17 => if v13 = 0 then (bd (s17.2.2 0 3) fun c22 => bd (s17.2.2 0 4) fun c24 => bd (sR s17 0 3 c24) fun s26 => bd (sR s26 0 4 c22) fun s28 => bd (f_X4_forget s28) fun s30 => bd (f_X2_forget s30) fun s34 => bd (s34.2.2 0 3) fun c38 => bd (s34.1 c38 0) fun v40 => (s34, v40)) else ((s17, (-2)))
set_option maxHeartbeats 4000000 in
set_option maxRecDepth 100000 in
theorem s_X7_program_f (l : Launch) (d : Nat) {P : PP} {h : HP} (hv : Iv P h)  : Mt l yX7_program cX7_program 3 (some .int) (d + 19) [.ref 0] h 0 0 (fun r h' => ∃ v : Int32, r = some (.int v) ∧ -2147483648 ≤ v.toInt ∧ v.toInt ≤ 2147483647 ∧ (∃ Q : PP, Iv Q h' ∧ (Q.1.toInt = 0) ∧ Q.2.1 = P.2.1 ∧ Q.2.2.2.2 = P.2.2.2.2) ∧ ((st h', v.toInt) = f_X7_program (st h)) ∧ (FX KC h h') ∧ (∃ c, (c = 2 ∨ c = 18) ∧ h.2.2.2 0 4 = .ref c ∧ ((f_X3_read (sI (st h) 0 1 0) (h.2.1 0 1).toInt c).2 = 0 → h'.2.2.2 0 3 = .ref c))) := by
  refine Mt_iv hv (by decide) (Nat.le_of_ble_eq_true rfl) ?_
  show Go l RX7 cX7_program 3 (g_rm (d + 19) 0 0) "program" (some .int) 117 0 0 (fun _ _ => True) (fun r h' => ∃ v : Int32, r = some (.int v) ∧ -2147483648 ≤ v.toInt ∧ v.toInt ≤ 2147483647 ∧ (∃ Q : PP, Iv Q h' ∧ (Q.1.toInt = 0) ∧ Q.2.1 = P.2.1 ∧ Q.2.2.2.2 = P.2.2.2.2) ∧ ((st h', v.toInt) = f_X7_program (st h)) ∧ (FX KC h h') ∧ (∃ c, (c = 2 ∨ c = 18) ∧ h.2.2.2 0 4 = .ref c ∧ ((f_X3_read (sI (st h) 0 1 0) (h.2.1 0 1).toInt c).2 = 0 → h'.2.2.2 0 3 = .ref c))) 0 0 [(0, .ref 0)] [] h
  have fx : FX KC h h := FX.rfl
  obtain ⟨fin, kf⟩ : ∃ z, z = f_X7_program (st h) := ⟨_, _root_.rfl⟩
  have k0 := kf
  unfold f_X7_program at k0
  refine go_aload_n (pc := 0) rfl dX7_program_0 ?_
  refine gi_get (pc := 1) (lo := 0) (hi := 500) hv fL_X7_13 rfl (Nat.le_of_ble_eq_true rfl) rfl rfl dX7_program_1 (fun v1 v1l v1u v1w => ?_)
  have v1p : v1.toInt = P.1.toInt := by rw [v1w]; exact congrArg Int32.toInt hv.t0
  have k2 := bd_e k0 (congrArg Int32.toInt v1w.symm)
  refine go_istore_n (pc := 4) (Nat.le_of_ble_eq_true rfl) dX7_program_4 (go_lv (lv2 := [(0, .ref 0), (1, .int v1)]) rfl ?_)
  refine go_aload_n (pc := 5) rfl dX7_program_5 ?_
  refine go_iconst (pc := 6) (v := 0) (by decide) dX7_program_6 ?_
  refine gi_put0 (pc := 7) hv (ti_c (v := 0) (a := 0) (by decide)) (fP_X7_13 _) (by omega) (by omega) dX7_program_7 (fun h3 hv3 hv3e => ?_)
  have z4 : (0 : Int32).toInt = 0 := (ti_c (v := 0) (a := 0) (by decide))
  have fx3 : FX KC h h3 := FX.pI fx hv3e (by unfold KC; omega)
  have k5 := bd_e k2 (st_I hv3e (ti_c (v := 0) (a := 0) (by decide)))
  refine go_aload_n (pc := 10) rfl dX7_program_10 ?_
  refine go_aload_n (pc := 11) rfl dX7_program_11 ?_
  refine gi_getF (pc := 12) (q := 34) hv3 fL_X7_35 rfl (Nat.le_of_ble_eq_true rfl) rfl (hv3.rf (by decide)) dX7_program_12 ?_
  refine go_aload_n (pc := 15) rfl dX7_program_15 ?_
  refine gi_getF (pc := 16) (q := 1) hv3 fL_X7_9 rfl (Nat.le_of_ble_eq_true rfl) rfl (hv3.rf (by decide)) dX7_program_16 ?_
  refine go_iload_n (pc := 19) rfl dX7_program_19 ?_
  refine go_aload_n (pc := 20) rfl dX7_program_20 ?_
  refine gi_getC (pc := 21) hv3 fL_X7_27 rfl (Nat.le_of_ble_eq_true rfl) rfl (by decide) dX7_program_21 (fun c6 hc6 fc6 => ?_)
  have k7 := bd_e k5 (st_c fc6)
  refine go_invV (pc := 24) (sl := 0) (s_X3_read_f l (d + 0) hv3 v1 (by rw [show (v1 : Int32).toInt = v1.toInt from (ti_rfl v1)]; omega) (by rw [show (v1 : Int32).toInt = v1.toInt from (ti_rfl v1)]; omega) c6 hc6) mL_X7_57 iM_X3_read sM_X3_read (hv3.sh rfl) rfl rfl rfl (Nat.le_of_ble_eq_true rfl) (show d + 0 + 18 + 1 ≤ d + 19 by omega) (show 8 + (6 + 11) + 40 * (d + 0 + 18) ≤ 40 * (d + 19) by omega) (g_c0 hv3.ln) (Nat.le_of_ble_eq_true rfl) dX7_program_24 ?_
  intro r h8 hq _
  obtain ⟨v13, rfl, v13l, v13u, ⟨Q9, hv8, sq10⟩, f11, f12⟩ := hq
  have fx8 : FX KC h h8 := FX.tr fx3 (FX.mono (fun c j z => by unfold KC at z; unfold KC0; omega) f12)
  have k14 := bd2_e k7 f11
  have z15 : Q9.1.toInt = (0 : Int32).toInt := by rw [sq10.1]
  have z16 : Q9.2.1.toInt = P.2.1.toInt := by rw [sq10.2.1]
  refine gi_put (pc := 27) (lo := -2147483648) (hi := 2147483647) hv8 (ti_rfl v13) (fP_X7_17 _) rfl (Nat.le_of_ble_eq_true rfl) rfl rfl (ti_ge (ti_rfl v13)) (ti_le2 (ti_rfl v13)) rfl rfl (by decide) (by decide) (by decide) (by decide) dX7_program_27 (fun h17 hv17 hv17e => ?_)
  have fx17 : FX KC h h17 := FX.pI fx8 hv17e (by unfold KC; omega)
  have k18 := bd_e k14 (st_I hv17e (ti_rfl v13))
  refine go_aload_n (pc := 30) rfl dX7_program_30 ?_
  refine gi_get (pc := 31) (lo := -2147483648) (hi := 2147483647) hv17 fL_X7_17 rfl (Nat.le_of_ble_eq_true rfl) rfl rfl dX7_program_31 (fun v19 v19l v19u v19w => ?_)
  have v19r : v13 = h17.2.1 0 2 := (show v13 = h17.2.1 0 2 from by rw [hv17e]; exact g_iS.symm)
  have v19q : TI v19 v13.toInt := by rw [v19w.trans v19r.symm]; exact (ti_rfl v13)
  refine gf_if_eq (pc := 34) (tgt := 40) v19q (by decide) dX7_program_34 (fun q20 => ?_) (fun q20 => ?_)
  ·
    have k21 := if_t k18 q20
    refine go_aload_n (pc := 40) rfl dX7_program_40 ?_
    refine gi_getC (pc := 41) hv17 fL_X7_23 rfl (Nat.le_of_ble_eq_true rfl) rfl (by decide) dX7_program_41 (fun c22 hc22 fc22 => ?_)
    have k23 := bd_e k21 (st_c fc22)
    refine go_astore_n (pc := 44) (Nat.le_of_ble_eq_true rfl) dX7_program_44 (go_lv (lv2 := [(0, .ref 0), (1, .int v1), (2, .ref c22)]) rfl ?_)
    refine go_aload_n (pc := 45) rfl dX7_program_45 ?_
    refine go_aload_n (pc := 46) rfl dX7_program_46 ?_
    refine gi_getC (pc := 47) hv17 fL_X7_27 rfl (Nat.le_of_ble_eq_true rfl) rfl (by decide) dX7_program_47 (fun c24 hc24 fc24 => ?_)
    have k25 := bd_e k23 (st_c fc24)
    refine gi_putX (pc := 50) hv17 hc24 (fP_X7_23 _) dX7_program_50 (fun h26 hv26 hv26e => ?_)
    have fx26 : FX KC h h26 := FX.pR fx17 hv26e (by unfold KC; omega)
    have k27 := bd_e k25 (st_R hv26e)
    refine go_aload_n (pc := 53) rfl dX7_program_53 ?_
    refine go_aload_n (pc := 54) rfl dX7_program_54 ?_
    refine gi_putC (pc := 55) hv26 hc22 (fP_X7_27 _) rfl (Nat.le_of_ble_eq_true rfl) rfl (fun _ => rfl) (fun _ => rfl) (by decide) (by decide) (by decide) (by decide) dX7_program_55 (fun h28 hv28 hv28e => ?_)
    have fx28 : FX KC h h28 := FX.pR fx26 hv28e (by unfold KC; omega)
    have k29 := bd_e k27 (st_R hv28e)
    refine go_aload_n (pc := 58) rfl dX7_program_58 ?_
    refine gi_getF (pc := 59) (q := 49) hv28 fL_X7_42 rfl (Nat.le_of_ble_eq_true rfl) rfl (hv28.rf (by decide)) dX7_program_59 ?_
    refine go_invV (pc := 62) (sl := 0) (s_X4_forget_f l (d + 17) hv28 ) mL_X7_61 iM_X4_forget sM_X4_forget (hv28.sh rfl) rfl rfl rfl (Nat.le_of_ble_eq_true rfl) (show d + 17 + 1 + 1 ≤ d + 19 by omega) (show 8 + (1 + 11) + 40 * (d + 17 + 1) ≤ 40 * (d + 19) by omega) (g_c0 hv28.ln) (Nat.le_of_ble_eq_true rfl) dX7_program_62 ?_
    intro r h30 hq _
    obtain ⟨rfl, hv30, f31, f32⟩ := hq
    have fx30 : FX KC h h30 := FX.tr fx28 (FX.mono (fun c j z => by unfold KC at z; unfold KC0; omega) f32)
    have k33 := bd_e k29 f31.symm
    refine go_aload_n (pc := 65) rfl dX7_program_65 ?_
    refine gi_getF (pc := 66) (q := 64) hv30 fL_X7_49 rfl (Nat.le_of_ble_eq_true rfl) rfl (hv30.rf (by decide)) dX7_program_66 ?_
    refine go_invV (pc := 69) (sl := 0) (s_X2_forget_f l (d + 17) hv30 ) mL_X7_64 iM_X2_forget sM_X2_forget (hv30.sh rfl) rfl rfl rfl (Nat.le_of_ble_eq_true rfl) (show d + 17 + 1 + 1 ≤ d + 19 by omega) (show 8 + (1 + 11) + 40 * (d + 17 + 1) ≤ 40 * (d + 19) by omega) (g_c0 hv30.ln) (Nat.le_of_ble_eq_true rfl) dX7_program_69 ?_
    intro r h34 hq _
    obtain ⟨rfl, hv34, f35, f36⟩ := hq
    have fx34 : FX KC h h34 := FX.tr fx30 (FX.mono (fun c j z => by unfold KC at z; unfold KC0; omega) f36)
    have k37 := bd_e k33 f35.symm
    refine go_aload_n (pc := 72) rfl dX7_program_72 ?_
    refine gi_getC (pc := 73) hv34 fL_X7_23 rfl (Nat.le_of_ble_eq_true rfl) rfl (by decide) dX7_program_73 (fun c38 hc38 fc38 => ?_)
    have k39 := bd_e k37 (st_c fc38)
    refine gi_get (pc := 76) (lo := 0) (hi := 40) hv34 fL_X7_65 (by rcases hc38 with rfl | rfl <;> rfl) (Nat.le_of_ble_eq_true rfl) rfl (by rcases hc38 with rfl | rfl <;> rfl) dX7_program_76 (fun v40 v40l v40u v40w => ?_)
    have k41 := bd_e k39 (congrArg Int32.toInt v40w.symm)
    have xp4 : h.2.2.2 0 4 = .ref c6 := by have z := fc6; rw [hv3e] at z; exact z
    have xp8 : h8.2.2.2 0 4 = .ref c6 := (f12 0 4 (by unfold KC0; omega)).2.2.trans fc6
    have xpe : (.ref c24 : Value) = .ref c6 := by have z := fc24; rw [hv17e] at z; exact z.symm.trans xp8
    have xp28 : h28.2.2.2 0 3 = .ref c24 := by rw [hv28e, hv26e]; rfl
    exact gi_iret (pc := 79) (ti_rfl v40) ⟨_, rfl, (ti_lo _), (ti_hi _), ⟨(Q9.1, Q9.2.1, Q9.2.2.1, c24, Q9.2.2.2.2), hv34, (by show Q9.1.toInt = 0; omega), (by first | rfl | (simp only [sq10.2.2, sq10.2.1, sq10.1])), (by first | rfl | (simp only [sq10.2.2, sq10.2.1, sq10.1]))⟩, (k41.symm.trans kf), fx34, ⟨c6, hc6, xp4, fun _ => ((f36 0 3 (by unfold KC0; omega)).2.2.trans ((f32 0 3 (by unfold KC0; omega)).2.2.trans xp28)).trans xpe⟩⟩ hv34 dX7_program_79
  ·
    have k42 := if_f k18 q20
    refine go_bipush (pc := 37) (v := (-2)) (by decide) dX7_program_37 ?_
    have z43 : ((-2) : Int32).toInt = (-2) := (ti_c (v := (-2)) (a := (-2)) (by decide))
    have xp4 : h.2.2.2 0 4 = .ref c6 := by have z := fc6; rw [hv3e] at z; exact z
    have xp3 : st h3 = sI (st h) 0 1 0 := (st_I hv3e (ti_c (v := 0) (a := 0) (by decide))).symm
    exact gi_iret (pc := 39) (ti_c (v := (-2)) (a := (-2)) (by decide)) ⟨_, rfl, (ti_lo _), (ti_hi _), ⟨Q9, hv17, (by show Q9.1.toInt = 0; omega), (by first | rfl | (simp only [sq10.2.2, sq10.2.1, sq10.1])), (by first | rfl | (simp only [sq10.2.2, sq10.2.1, sq10.1]))⟩, (by rw [show ((-2) : Int32).toInt = (-2) from (ti_c (v := (-2)) (a := (-2)) (by decide))]; exact k42.symm.trans kf), fx17, ⟨c6, hc6, xp4, fun z => False.elim (by have y : v13.toInt = 0 := (congrArg Prod.snd f11).trans (by rw [xp3, v1w]; exact z); omega)⟩⟩ hv17 dX7_program_39

