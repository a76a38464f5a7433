def f_X8_isIn (s : ST) (a1 : Int) (a2 : Int) (a3 : Int) : Int :=
  if a1 < a2 then (0) else (if a3 < a1 then (0) else (1))
set_option maxHeartbeats 4000000 in
set_option maxRecDepth 100000 in
theorem s_X8_isIn_f (l : Launch) (d : Nat) {P : PP} {h : HP} (hv : Iv P h) (a1 : Int32) (a2 : Int32) (a3 : Int32) : Mt l yX8_isIn cX8_isIn 3 (some .boolean) (d + 1) [.int a1, .int a2, .int a3] h 0 0 (fun r h' => ∃ v : Int32, r = some (.int v) ∧ 0 ≤ v.toInt ∧ v.toInt ≤ 1 ∧ h = h' ∧ (v.toInt = 1 → a2.toInt ≤ a1.toInt ∧ a1.toInt ≤ a3.toInt) ∧ (v.toInt = 0 → ¬ (a2.toInt ≤ a1.toInt ∧ a1.toInt ≤ a3.toInt)) ∧ (v.toInt = f_X8_isIn (st h) a1.toInt a2.toInt a3.toInt)) := by
  refine Mt_iv hv (by decide) (Nat.le_of_ble_eq_true rfl) ?_
  show Go l RX8 cX8_isIn 3 (g_rm (d + 1) 0 0) "isIn" (some .boolean) 117 0 0 (fun _ _ => True) (fun r h' => ∃ v : Int32, r = some (.int v) ∧ 0 ≤ v.toInt ∧ v.toInt ≤ 1 ∧ h = h' ∧ (v.toInt = 1 → a2.toInt ≤ a1.toInt ∧ a1.toInt ≤ a3.toInt) ∧ (v.toInt = 0 → ¬ (a2.toInt ≤ a1.toInt ∧ a1.toInt ≤ a3.toInt)) ∧ (v.toInt = f_X8_isIn (st h) a1.toInt a2.toInt a3.toInt)) 0 0 [(0, .int a1), (1, .int a2), (2, .int a3)] [] h
  obtain ⟨fin, kf⟩ : ∃ z, z = f_X8_isIn (st h) a1.toInt a2.toInt a3.toInt := ⟨_, _root_.rfl⟩
  have k0 := kf
  unfold f_X8_isIn at k0
  refine go_iload_n (pc := 0) rfl dX8_isIn_0 ?_
  refine go_iload_n (pc := 1) rfl dX8_isIn_1 ?_
  refine gf_icmp_lt (pc := 2) (tgt := 14) (ti_rfl a1) (ti_rfl a2) (by decide) dX8_isIn_2 (fun q1 => ?_) (fun q1 => ?_)
  ·
    have k2 := if_t k0 q1
    refine go_iconst (pc := 14) (v := 0) (by decide) dX8_isIn_14 ?_
    exact gi_zret (pc := 15) (ti_c (v := 0) (a := 0) (by decide)) (by omega) (by omega) ⟨_, rfl, (by rw [show (0 : Int32).toInt = 0 from (ti_c (v := 0) (a := 0) (by decide))]; omega), (by rw [show (0 : Int32).toInt = 0 from (ti_c (v := 0) (a := 0) (by decide))]; omega), rfl, (by rw [show (0 : Int32).toInt = 0 from (ti_c (v := 0) (a := 0) (by decide))]; omega), (by rw [show (0 : Int32).toInt = 0 from (ti_c (v := 0) (a := 0) (by decide))]; omega), (by rw [show (0 : Int32).toInt = 0 from (ti_c (v := 0) (a := 0) (by decide))]; exact k2.symm.trans kf)⟩ hv dX8_isIn_15
  ·
    have k3 := if_f k0 (Int.not_lt.mpr q1)
    refine go_iload_n (pc := 5) rfl dX8_isIn_5 ?_
    refine go_iload_n (pc := 6) rfl dX8_isIn_6 ?_
    refine gf_icmp_gt (pc := 7) (tgt := 14) (ti_rfl a1) (ti_rfl a3) (by decide) dX8_isIn_7 (fun q4 => ?_) (fun q4 => ?_)
    ·
      have k5 := if_t k3 q4
      refine go_iconst (pc := 14) (v := 0) (by decide) dX8_isIn_14 ?_
      exact gi_zret (pc := 15) (ti_c (v := 0) (a := 0) (by decide)) (by omega) (by omega) ⟨_, rfl, (by rw [show (0 : Int32).toInt = 0 from (ti_c (v := 0) (a := 0) (by decide))]; omega), (by rw [show (0 : Int32).toInt = 0 from (ti_c (v := 0) (a := 0) (by decide))]; omega), rfl, (by rw [show (0 : Int32).toInt = 0 from (ti_c (v := 0) (a := 0) (by decide))]; omega), (by rw [show (0 : Int32).toInt = 0 from (ti_c (v := 0) (a := 0) (by decide))]; omega), (by rw [show (0 : Int32).toInt = 0 from (ti_c (v := 0) (a := 0) (by decide))]; exact k5.symm.trans kf)⟩ hv dX8_isIn_15
    ·
      have k6 := if_f k3 (Int.not_lt.mpr q4)
      refine go_iconst (pc := 10) (v := 1) (by decide) dX8_isIn_10 ?_
      refine go_goto (pc := 11) (tgt := 15) (by decide) dX8_isIn_11 ?_
      exact gi_zret (pc := 15) (ti_c (v := 1) (a := 1) (by decide)) (by omega) (by omega) ⟨_, rfl, (by rw [show (1 : Int32).toInt = 1 from (ti_c (v := 1) (a := 1) (by decide))]; omega), (by rw [show (1 : Int32).toInt = 1 from (ti_c (v := 1) (a := 1) (by decide))]; omega), rfl, (by rw [show (1 : Int32).toInt = 1 from (ti_c (v := 1) (a := 1) (by decide))]; omega), (by rw [show (1 : Int32).toInt = 1 from (ti_c (v := 1) (a := 1) (by decide))]; omega), (by rw [show (1 : Int32).toInt = 1 from (ti_c (v := 1) (a := 1) (by decide))]; exact k6.symm.trans kf)⟩ hv dX8_isIn_15
def f_X8_isGood (s : ST) : Int :=
  bd (s.1 70 5) fun v1 => if ¬ v1 = 0 then (0) else (1)
set_option maxHeartbeats 4000000 in
set_option maxRecDepth 100000 in
theorem s_X8_isGood_f (l : Launch) (d : Nat) {P : PP} {h : HP} (hv : Iv P h)  : Mt l yX8_isGood cX8_isGood 1 (some .boolean) (d + 1) [.ref 70] h 0 0 (fun r h' => ∃ v : Int32, r = some (.int v) ∧ 0 ≤ v.toInt ∧ v.toInt ≤ 1 ∧ h = h' ∧ (v.toInt = 1 → (h.2.1 70 5).toInt = 0) ∧ (v.toInt = 0 → ¬ (h.2.1 70 5).toInt = 0) ∧ (v.toInt = f_X8_isGood (st h))) := by
  refine Mt_iv hv (by decide) (Nat.le_of_ble_eq_true rfl) ?_
  show Go l RX8 cX8_isGood 1 (g_rm (d + 1) 0 0) "isGood" (some .boolean) 117 0 0 (fun _ _ => True) (fun r h' => ∃ v : Int32, r = some (.int v) ∧ 0 ≤ v.toInt ∧ v.toInt ≤ 1 ∧ h = h' ∧ (v.toInt = 1 → (h.2.1 70 5).toInt = 0) ∧ (v.toInt = 0 → ¬ (h.2.1 70 5).toInt = 0) ∧ (v.toInt = f_X8_isGood (st h))) 0 0 [(0, .ref 70)] [] h
  obtain ⟨fin, kf⟩ : ∃ z, z = f_X8_isGood (st h) := ⟨_, _root_.rfl⟩
  have k0 := kf
  unfold f_X8_isGood at k0
  refine go_aload_n (pc := 0) rfl dX8_isGood_0 ?_
  refine gi_get (pc := 1) (lo := -2147483648) (hi := 2147483647) hv fL_X8_169 rfl (Nat.le_of_ble_eq_true rfl) rfl rfl dX8_isGood_1 (fun v1 v1l v1u v1w => ?_)
  have k2 := bd_e k0 (congrArg Int32.toInt v1w.symm)
  have g3 : (h.2.1 70 5).toInt = v1.toInt := by rw [v1w]
  refine gf_if_ne (pc := 4) (tgt := 11) (ti_rfl v1) (by decide) dX8_isGood_4 (fun q4 => ?_) (fun q4 => ?_)
  ·
    have k5 := if_t k2 q4
    refine go_iconst (pc := 11) (v := 0) (by decide) dX8_isGood_11 ?_
    have g6 : (-2147483648 : Int) ≤ (h.2.1 70 5).toInt := (hv.2.1 70 5).1
    have g7 : (h.2.1 70 5).toInt ≤ 2147483647 := (hv.2.1 70 5).2
    have g8 : (h.2.1 70 5).toInt = v1.toInt := by rw [← (show v1 = h.2.1 70 5 from v1w)] <;> exact (ti_rfl v1)
    exact gi_zret (pc := 12) (ti_c (v := 0) (a := 0) (by decide)) (by omega) (by omega) ⟨_, rfl, (by rw [show (0 : Int32).toInt = 0 from (ti_c (v := 0) (a := 0) (by decide))]; omega), (by rw [show (0 : Int32).toInt = 0 from (ti_c (v := 0) (a := 0) (by decide))]; omega), rfl, (by rw [show (0 : Int32).toInt = 0 from (ti_c (v := 0) (a := 0) (by decide))]; omega), (by rw [show (0 : Int32).toInt = 0 from (ti_c (v := 0) (a := 0) (by decide))]; omega), (by rw [show (0 : Int32).toInt = 0 from (ti_c (v := 0) (a := 0) (by decide))]; exact k5.symm.trans kf)⟩ hv dX8_isGood_12
  ·
    have k9 := if_f k2 (fun z => z q4)
    refine go_iconst (pc := 7) (v := 1) (by decide) dX8_isGood_7 ?_
    refine go_goto (pc := 8) (tgt := 12) (by decide) dX8_isGood_8 ?_
    have g10 : (-2147483648 : Int) ≤ (h.2.1 70 5).toInt := (hv.2.1 70 5).1
    have g11 : (h.2.1 70 5).toInt ≤ 2147483647 := (hv.2.1 70 5).2
    have g12 : (h.2.1 70 5).toInt = v1.toInt := by rw [← (show v1 = h.2.1 70 5 from v1w)] <;> exact (ti_rfl v1)
    exact gi_zret (pc := 12) (ti_c (v := 1) (a := 1) (by decide)) (by omega) (by omega) ⟨_, rfl, (by rw [show (1 : Int32).toInt = 1 from (ti_c (v := 1) (a := 1) (by decide))]; omega), (by rw [show (1 : Int32).toInt = 1 from (ti_c (v := 1) (a := 1) (by decide))]; omega), rfl, (by rw [show (1 : Int32).toInt = 1 from (ti_c (v := 1) (a := 1) (by decide))]; omega), (by rw [show (1 : Int32).toInt = 1 from (ti_c (v := 1) (a := 1) (by decide))]; omega), (by rw [show (1 : Int32).toInt = 1 from (ti_c (v := 1) (a := 1) (by decide))]; exact k9.symm.trans kf)⟩ hv dX8_isGood_12
def f_X8_fails (s : ST) (a2 : Int) : ST :=
  bd (s.1 70 4) fun u70_4 => bd (s.1 70 5) fun v2 => if ¬ v2 = 0 then (s) else (bd (sI s 70 5 ((a2 + (8 * u70_4)))) fun s19 => s19)
set_option maxHeartbeats 4000000 in
set_option maxRecDepth 100000 in
theorem s_X8_fails_f (l : Launch) (d : Nat) {P : PP} {h : HP} (hv : Iv P h) (a2 : Int32) (a2l : 1 ≤ a2.toInt) (a2u : a2.toInt ≤ 6) : Mt l yX8_fails cX8_fails 2 none (d + 1) [.ref 70, .int a2] h 0 0 (fun r h' => r = none ∧ Iv P h' ∧ (¬ (h'.2.1 70 5).toInt = 0) ∧ ((h'.2.1 70 4).toInt = (h.2.1 70 4).toInt) ∧ (st h' = f_X8_fails (st h) a2.toInt) ∧ (FX KRt h h')) := by
  refine Mt_iv hv (by decide) (Nat.le_of_ble_eq_true rfl) ?_
  show Go l RX8 cX8_fails 2 (g_rm (d + 1) 0 0) "fails" none 117 0 0 (fun _ _ => True) (fun r h' => r = none ∧ Iv P h' ∧ (¬ (h'.2.1 70 5).toInt = 0) ∧ ((h'.2.1 70 4).toInt = (h.2.1 70 4).toInt) ∧ (st h' = f_X8_fails (st h) a2.toInt) ∧ (FX KRt h h')) 0 0 [(0, .ref 70), (1, .int a2)] [] h
  have fx : FX KRt h h := FX.rfl
  obtain ⟨fin, kf⟩ : ∃ z, z = f_X8_fails (st h) a2.toInt := ⟨_, _root_.rfl⟩
  have k0 := kf
  unfold f_X8_fails at k0
  obtain ⟨u70_4, u70_4w⟩ : ∃ v : Int32, v = h.2.1 70 4 := ⟨_, rfl⟩
  have u70_4e : (h.2.1 70 4).toInt = u70_4.toInt := by rw [u70_4w]
  have u70_4l : 0 ≤ u70_4.toInt := by rw [u70_4w]; exact (hv.2.1 70 4).1
  have u70_4u : u70_4.toInt ≤ 500 := by rw [u70_4w]; exact (hv.2.1 70 4).2
  have k1 := bd_e k0 (congrArg Int32.toInt u70_4w.symm)
  refine go_aload_n (pc := 0) rfl dX8_fails_0 ?_
  refine gi_get (pc := 1) (lo := -2147483648) (hi := 2147483647) hv fL_X8_169 rfl (Nat.le_of_ble_eq_true rfl) rfl rfl dX8_fails_1 (fun v2 v2l v2u v2w => ?_)
  have k3 := bd_e k1 (congrArg Int32.toInt v2w.symm)
  have g4 : (h.2.1 70 5).toInt = v2.toInt := by rw [v2w]
  refine gf_if_ne (pc := 4) (tgt := 20) (ti_rfl v2) (by decide) dX8_fails_4 (fun q5 => ?_) (fun q5 => ?_)
  ·
    have k6 := if_t k3 q5
    have g7 : (0 : Int) ≤ (h.2.1 70 4).toInt := (hv.2.1 70 4).1
    have g8 : (h.2.1 70 4).toInt ≤ 500 := (hv.2.1 70 4).2
    have g9 : (-2147483648 : Int) ≤ (h.2.1 70 5).toInt := (hv.2.1 70 5).1
    have g10 : (h.2.1 70 5).toInt ≤ 2147483647 := (hv.2.1 70 5).2
    have g11 : (h.2.1 70 4).toInt = u70_4.toInt := by rw [← (show u70_4 = h.2.1 70 4 from u70_4w)] <;> exact (ti_rfl u70_4)
    have g12 : (h.2.1 70 5).toInt = v2.toInt := by rw [← (show v2 = h.2.1 70 5 from v2w)] <;> exact (ti_rfl v2)
    exact gi_vret (pc := 20) ⟨rfl, hv, (by omega), (by omega), (k6.symm.trans kf), fx⟩ hv dX8_fails_20
  ·
    have k13 := if_f k3 (fun z => z q5)
    refine go_aload_n (pc := 7) rfl dX8_fails_7 ?_
    refine go_iload_n (pc := 8) rfl dX8_fails_8 ?_
    refine go_bipush (pc := 9) (v := 8) (by decide) dX8_fails_9 ?_
    refine go_aload_n (pc := 11) rfl dX8_fails_11 ?_
    refine gi_get (pc := 12) (lo := 0) (hi := 500) hv fL_X8_163 rfl (Nat.le_of_ble_eq_true rfl) rfl rfl dX8_fails_12 (fun v14 v14l v14u v14w => ?_)
    have v14r : u70_4 = h.2.1 70 4 := u70_4w
    have v14q : TI v14 u70_4.toInt := by rw [v14w.trans v14r.symm]; exact (ti_rfl u70_4)
    refine gf_imul (pc := 15) (ti_c (v := 8) (a := 8) (by decide)) v14q (by omega) (by omega) dX8_fails_15 (fun v15 e16 => ?_)
    refine gf_iadd (pc := 16) (ti_rfl a2) e16 (by omega) (by omega) dX8_fails_16 (fun v17 e18 => ?_)
    refine gi_put (pc := 17) (lo := -2147483648) (hi := 2147483647) hv e18 (fP_X8_169 _) rfl (Nat.le_of_ble_eq_true rfl) rfl rfl (ti_ge e18) (ti_le2 e18) rfl rfl (by decide) (by decide) (by decide) (by decide) dX8_fails_17 (fun h19 hv19 hv19e => ?_)
    have fx19 : FX KRt h h19 := FX.pI fx hv19e (by unfold KRt; omega)
    have k20 := bd_e k13 (st_I hv19e e18)
    have g21 : (0 : Int) ≤ (h19.2.1 70 4).toInt := (hv19.2.1 70 4).1
    have g22 : (h19.2.1 70 4).toInt ≤ 500 := (hv19.2.1 70 4).2
    have g23 : (-2147483648 : Int) ≤ (h19.2.1 70 5).toInt := (hv19.2.1 70 5).1
    have g24 : (h19.2.1 70 5).toInt ≤ 2147483647 := (hv19.2.1 70 5).2
    have g25 : (h19.2.1 70 4).toInt = u70_4.toInt := by rw [← (show u70_4 = h19.2.1 70 4 from (show u70_4 = h19.2.1 70 4 from by rw [hv19e]; exact (g_iI rfl u70_4w.symm).symm))] <;> exact (ti_rfl u70_4)
    have g26 : (h19.2.1 70 5).toInt = (a2.toInt + (8 * u70_4.toInt)) := by rw [← (show v17 = h19.2.1 70 5 from (show v17 = h19.2.1 70 5 from by rw [hv19e]; exact g_iS.symm))] <;> exact e18
    exact gi_vret (pc := 20) ⟨rfl, hv19, (by omega), (by omega), (k20.symm.trans kf), fx19⟩ hv19 dX8_fails_20
def f_X8_here_ : Nat → Nat → ST → ST × Int
  | 0, _, sx => (sx, 0)
  | n + 1, _, sx => bd (sx.1 70 5) fun u70_5 => bd (sx.1 70 4) fun v2 => bd (sI sx 70 4 ((v2 + 1))) fun s7 => bd (s7.1 70 3) fun v10 => if v10 ≤ (v2 + 1) then (if v10 ≤ (v2 + 1) then ((s7, (-1))) else (bd (s7.1 72 ((v2 + 1)).toNat) fun v30 => bd (o_iand v30 255) fun v32 => (s7, v32))) else (bd (s7.1 72 ((v2 + 1)).toNat) fun v45 => if v45 = 32 then (f_X8_here_ n 39 s7) else (bd (s7.1 72 ((v2 + 1)).toNat) fun v60 => if ¬ v60 = 10 then (if v10 ≤ (v2 + 1) then ((s7, (-1))) else (bd (s7.1 72 ((v2 + 1)).toNat) fun v79 => bd (o_iand v79 255) fun v81 => (s7, v81))) else (f_X8_here_ n 39 s7)))
def f_X8_here (s : ST) : ST × Int :=
  bd (s.1 70 5) fun u70_5 => bd (s.1 70 4) fun v103 => bd (s.1 70 3) fun v106 => if v106 ≤ v103 then (if v106 ≤ v103 then ((s, (-1))) else (bd (s.1 72 (v103).toNat) fun v126 => bd (o_iand v126 255) fun v128 => (s, v128))) else (bd (s.1 72 (v103).toNat) fun v141 => if v141 = 32 then (f_X8_here_ 1519 39 s) else (bd (s.1 72 (v103).toNat) fun v156 => if ¬ v156 = 10 then (if v106 ≤ v103 then ((s, (-1))) else (bd (s.1 72 (v103).toNat) fun v175 => bd (o_iand v175 255) fun v177 => (s, v177))) else (f_X8_here_ 1519 39 s)))
set_option maxHeartbeats 4000000 in
set_option maxRecDepth 100000 in
theorem s_X8_here_f (l : Launch) (d : Nat) {P : PP} {h : HP} (hv : Iv P h)  : Mt l yX8_here cX8_here 1 (some .int) (d + 1) [.ref 70] h 0 0 (fun r h' => ∃ v : Int32, r = some (.int v) ∧ -1 ≤ v.toInt ∧ v.toInt ≤ 255 ∧ Iv P h' ∧ (0 ≤ v.toInt → (h'.2.1 70 4).toInt ≤ 499) ∧ ((h.2.1 70 4).toInt ≤ (h'.2.1 70 4).toInt) ∧ ((h'.2.1 70 5).toInt = (h.2.1 70 5).toInt) ∧ (0 ≤ v.toInt → NS h' v) ∧ ((st h', v.toInt) = f_X8_here (st h)) ∧ (FX KRt h h')) := by
  refine Mt_iv hv (by decide) (Nat.le_of_ble_eq_true rfl) ?_
  show Go l RX8 cX8_here 1 (g_rm (d + 1) 0 0) "here" (some .int) 117 0 0 (fun _ _ => True) (fun r h' => ∃ v : Int32, r = some (.int v) ∧ -1 ≤ v.toInt ∧ v.toInt ≤ 255 ∧ Iv P h' ∧ (0 ≤ v.toInt → (h'.2.1 70 4).toInt ≤ 499) ∧ ((h.2.1 70 4).toInt ≤ (h'.2.1 70 4).toInt) ∧ ((h'.2.1 70 5).toInt = (h.2.1 70 5).toInt) ∧ (0 ≤ v.toInt → NS h' v) ∧ ((st h', v.toInt) = f_X8_here (st h)) ∧ (FX KRt h h')) 0 0 [(0, .ref 70)] [] h
  have fx : FX KRt h h := FX.rfl
  obtain ⟨fin, kf⟩ : ∃ z, z = f_X8_here (st h) := ⟨_, _root_.rfl⟩
  have k0 := kf
  unfold f_X8_here at k0
  have key : ∀ n : Nat, (∀  (hx : HP), Iv P hx → ((hx.2.1 70 4).toInt ≤ 499) → ((h.2.1 70 4).toInt ≤ (hx.2.1 70 4).toInt) → (hx.2.1 70 5).toInt = (h.2.1 70 5).toInt → (0 : Int) ≤ (hx.2.1 70 3).toInt → (hx.2.1 70 3).toInt ≤ 500 → (0 : Int) ≤ (hx.2.1 70 4).toInt → (hx.2.1 70 4).toInt ≤ 500 → (-2147483648 : Int) ≤ (hx.2.1 70 5).toInt → (hx.2.1 70 5).toInt ≤ 2147483647 → FX KRt h hx → fin = f_X8_here_ n 39 (st hx) → (3 * (500 - (hx.2.1 70 4).toInt) + 2 : Int) < n → Go l RX8 cX8_here 1 (g_rm (d + 1) 0 0) "here" (some .int) 117 0 0 (fun _ _ => True) (fun r h' => ∃ v : Int32, r = some (.int v) ∧ -1 ≤ v.toInt ∧ v.toInt ≤ 255 ∧ Iv P h' ∧ (0 ≤ v.toInt → (h'.2.1 70 4).toInt ≤ 499) ∧ ((h.2.1 70 4).toInt ≤ (h'.2.1 70 4).toInt) ∧ ((h'.2.1 70 5).toInt = (h.2.1 70 5).toInt) ∧ (0 ≤ v.toInt → NS h' v) ∧ ((st h', v.toInt) = f_X8_here (st h)) ∧ (FX KRt h h')) 0 39 [(0, .ref 70)] [] hx) := by
    intro n
    induction n with
    | zero => exact (by intros; omega)
    | succ n ih =>
      refine ?_
      ·
        intro hx hvx x0 x1 t0 y0l y0u y1l y1u y2l y2u fxx kL hm
        obtain ⟨u70_5, u70_5w⟩ : ∃ v : Int32, v = hx.2.1 70 5 := ⟨_, rfl⟩
        have u70_5e : (hx.2.1 70 5).toInt = u70_5.toInt := by rw [u70_5w]
        have u70_5l : -2147483648 ≤ u70_5.toInt := by rw [u70_5w]; exact (hvx.2.1 70 5).1
        have u70_5u : u70_5.toInt ≤ 2147483647 := by rw [u70_5w]; exact (hvx.2.1 70 5).2
        rw [f_X8_here_] at kL
        have k1 := bd_e kL (congrArg Int32.toInt u70_5w.symm)
        refine go_aload_n (pc := 39) rfl dX8_here_39 ?_
        refine go_dup (pc := 40) rfl dX8_here_40 ?_
        refine gi_get (pc := 41) (lo := 0) (hi := 500) hvx fL_X8_163 rfl (Nat.le_of_ble_eq_true rfl) rfl rfl dX8_here_41 (fun v2 v2l v2u v2w => ?_)
        have k3 := bd_e k1 (congrArg Int32.toInt v2w.symm)
        have g4 : (hx.2.1 70 4).toInt = v2.toInt := by rw [v2w]
        refine go_iconst (pc := 44) (v := 1) (by decide) dX8_here_44 ?_
        refine gf_iadd (pc := 45) (ti_rfl v2) (ti_c (v := 1) (a := 1) (by decide)) (by omega) (by omega) dX8_here_45 (fun v5 e6 => ?_)
        refine gi_put (pc := 46) (lo := 0) (hi := 500) hvx e6 (fP_X8_163 _) rfl (Nat.le_of_ble_eq_true rfl) rfl rfl (by omega) (by omega) rfl rfl (by decide) (by decide) (by decide) (by decide) dX8_here_46 (fun h7 hv7 hv7e => ?_)
        have fx7 : FX KRt h h7 := FX.pI fxx hv7e (by unfold KRt; omega)
        have k8 := bd_e k3 (st_I hv7e e6)
        refine go_goto (pc := 49) (tgt := 0) (by decide) dX8_here_49 ?_
        refine go_aload_n (pc := 0) rfl dX8_here_0 ?_
        refine gi_get (pc := 1) (lo := 0) (hi := 500) hv7 fL_X8_163 rfl (Nat.le_of_ble_eq_true rfl) rfl rfl dX8_here_1 (fun v9 v9l v9u v9w => ?_)
        have v9r : v5 = h7.2.1 70 4 := (show v5 = h7.2.1 70 4 from by rw [hv7e]; exact g_iS.symm)
        have v9q : TI v9 ((v2.toInt + 1)) := by rw [v9w.trans v9r.symm]; exact e6
        refine go_aload_n (pc := 4) rfl dX8_here_4 ?_
        refine gi_get (pc := 5) (lo := 0) (hi := 500) hv7 fL_X8_166 rfl (Nat.le_of_ble_eq_true rfl) rfl rfl dX8_here_5 (fun v10 v10l v10u v10w => ?_)
        have k11 := bd_e k8 (congrArg Int32.toInt v10w.symm)
        have g12 : (h7.2.1 70 3).toInt = v10.toInt := by rw [v10w]
        refine gf_icmp_ge (pc := 8) (tgt := 52) v9q (ti_rfl v10) (by decide) dX8_here_8 (fun q13 => ?_) (fun q13 => ?_)
        ·
          have k14 := if_t k11 q13
          refine go_aload_n (pc := 52) rfl dX8_here_52 ?_
          refine gi_get (pc := 53) (lo := 0) (hi := 500) hv7 fL_X8_163 rfl (Nat.le_of_ble_eq_true rfl) rfl rfl dX8_here_53 (fun v15 v15l v15u v15w => ?_)
          have v15r : v5 = h7.2.1 70 4 := (show v5 = h7.2.1 70 4 from by rw [hv7e]; exact g_iS.symm)
          have v15q : TI v15 ((v2.toInt + 1)) := by rw [v15w.trans v15r.symm]; exact e6
          refine go_aload_n (pc := 56) rfl dX8_here_56 ?_
          refine gi_get (pc := 57) (lo := 0) (hi := 500) hv7 fL_X8_166 rfl (Nat.le_of_ble_eq_true rfl) rfl rfl dX8_here_57 (fun v16 v16l v16u v16w => ?_)
          have v16r : v10 = h7.2.1 70 3 := v10w
          have v16q : TI v16 v10.toInt := by rw [v16w.trans v16r.symm]; exact (ti_rfl v10)
          refine gf_icmp_ge (pc := 60) (tgt := 79) v15q v16q (by decide) dX8_here_60 (fun q17 => ?_) (fun q17 => ?_)
          ·
            have k18 := if_t k14 q17
            refine go_iconst (pc := 79) (v := (-1)) (by decide) dX8_here_79 ?_
            have g19 : (0 : Int) ≤ (h7.2.1 70 3).toInt := (hv7.2.1 70 3).1
            have g20 : (h7.2.1 70 3).toInt ≤ 500 := (hv7.2.1 70 3).2
            have g21 : (0 : Int) ≤ (h7.2.1 70 4).toInt := (hv7.2.1 70 4).1
            have g22 : (h7.2.1 70 4).toInt ≤ 500 := (hv7.2.1 70 4).2
            have g23 : (-2147483648 : Int) ≤ (h7.2.1 70 5).toInt := (hv7.2.1 70 5).1
            have g24 : (h7.2.1 70 5).toInt ≤ 2147483647 := (hv7.2.1 70 5).2
            have g25 : (h7.2.1 70 5).toInt = u70_5.toInt := by rw [← (show u70_5 = h7.2.1 70 5 from (show u70_5 = h7.2.1 70 5 from by rw [hv7e]; exact (g_iI rfl u70_5w.symm).symm))] <;> exact (ti_rfl u70_5)
            have g26 : (h7.2.1 70 4).toInt = (v2.toInt + 1) := by rw [← (show v5 = h7.2.1 70 4 from (show v5 = h7.2.1 70 4 from by rw [hv7e]; exact g_iS.symm))] <;> exact e6
            have g27 : (h7.2.1 70 3).toInt = v10.toInt := by rw [← (show v10 = h7.2.1 70 3 from v10w)] <;> exact (ti_rfl v10)
            exact gi_iret (pc := 80) (ti_c (v := (-1)) (a := (-1)) (by decide)) ⟨_, rfl, (by rw [show ((-1) : Int32).toInt = (-1) from (ti_c (v := (-1)) (a := (-1)) (by decide))]; omega), (by rw [show ((-1) : Int32).toInt = (-1) from (ti_c (v := (-1)) (a := (-1)) (by decide))]; omega), hv7, (by rw [show ((-1) : Int32).toInt = (-1) from (ti_c (v := (-1)) (a := (-1)) (by decide))]; omega), (by omega), (by omega), (fun q => absurd q (by decide)), (by rw [show ((-1) : Int32).toInt = (-1) from (ti_c (v := (-1)) (a := (-1)) (by decide))]; exact k18.symm.trans kf), fx7⟩ hv7 dX8_here_80
          ·
            have k28 := if_f k14 (Int.not_le.mpr q17)
            refine go_aload_n (pc := 63) rfl dX8_here_63 ?_
            refine gi_getF (pc := 64) (q := 72) hv7 fL_X8_13 rfl (Nat.le_of_ble_eq_true rfl) rfl (hv7.rf (by decide)) dX8_here_64 ?_
            refine go_aload_n (pc := 67) rfl dX8_here_67 ?_
            refine gi_get (pc := 68) (lo := 0) (hi := 500) hv7 fL_X8_163 rfl (Nat.le_of_ble_eq_true rfl) rfl rfl dX8_here_68 (fun v29 v29l v29u v29w => ?_)
            have v29r : v5 = h7.2.1 70 4 := (show v5 = h7.2.1 70 4 from by rw [hv7e]; exact g_iS.symm)
            have v29q : TI v29 ((v2.toInt + 1)) := by rw [v29w.trans v29r.symm]; exact e6
            refine gi_bald (pc := 71) (lo := -128) (hi := 127) (len := 500) hv7 v29q rfl (by omega) (by omega) (fun _ => rfl) dX8_here_71 (fun v30 v30l v30u v30w => ?_)
            have k31 := bd_e k28 (congrArg Int32.toInt v30w.symm)
            refine go_sipush (pc := 72) (v := 255) (by decide) dX8_here_72 ?_
            refine gx_iand (pc := 75) dX8_here_75 (fun v32 v32x => ?_)
            have v32l : 0 ≤ v32.toInt := by rw [v32x]; exact (ti_mask (ti_c (v := 255) (a := 255) (by decide)) (by omega)).1
            have v32u : v32.toInt ≤ 255 := by rw [v32x]; exact (ti_mask (ti_c (v := 255) (a := 255) (by decide)) (by omega)).2
            have k33 := bd_e k31 (so_iand (ti_rfl v30) (ti_c (v := 255) (a := 255) (by decide)) v32x)
            refine go_goto (pc := 76) (tgt := 80) (by decide) dX8_here_76 ?_
            have g34 : (0 : Int) ≤ (h7.2.1 70 3).toInt := (hv7.2.1 70 3).1
            have g35 : (h7.2.1 70 3).toInt ≤ 500 := (hv7.2.1 70 3).2
            have g36 : (0 : Int) ≤ (h7.2.1 70 4).toInt := (hv7.2.1 70 4).1
            have g37 : (h7.2.1 70 4).toInt ≤ 500 := (hv7.2.1 70 4).2
            have g38 : (-2147483648 : Int) ≤ (h7.2.1 70 5).toInt := (hv7.2.1 70 5).1
            have g39 : (h7.2.1 70 5).toInt ≤ 2147483647 := (hv7.2.1 70 5).2
            have g40 : (h7.2.1 70 5).toInt = u70_5.toInt := by rw [← (show u70_5 = h7.2.1 70 5 from (show u70_5 = h7.2.1 70 5 from by rw [hv7e]; exact (g_iI rfl u70_5w.symm).symm))] <;> exact (ti_rfl u70_5)
            have g41 : (h7.2.1 70 4).toInt = (v2.toInt + 1) := by rw [← (show v5 = h7.2.1 70 4 from (show v5 = h7.2.1 70 4 from by rw [hv7e]; exact g_iS.symm))] <;> exact e6
            have g42 : (h7.2.1 70 3).toInt = v10.toInt := by rw [← (show v10 = h7.2.1 70 3 from v10w)] <;> exact (ti_rfl v10)
            exact gi_iret (pc := 80) (ti_rfl v32) ⟨_, rfl, (by rw [show (v32 : Int32).toInt = v32.toInt from (ti_rfl v32)]; omega), (by rw [show (v32 : Int32).toInt = v32.toInt from (ti_rfl v32)]; omega), hv7, (by rw [show (v32 : Int32).toInt = v32.toInt from (ti_rfl v32)]; omega), (by omega), (by omega), (fun _ => False.elim (by omega)), (k33.symm.trans kf), fx7⟩ hv7 dX8_here_80
        ·
          have k43 := if_f k11 (Int.not_le.mpr q13)
          refine go_aload_n (pc := 11) rfl dX8_here_11 ?_
          refine gi_getF (pc := 12) (q := 72) hv7 fL_X8_13 rfl (Nat.le_of_ble_eq_true rfl) rfl (hv7.rf (by decide)) dX8_here_12 ?_
          refine go_aload_n (pc := 15) rfl dX8_here_15 ?_
          refine gi_get (pc := 16) (lo := 0) (hi := 500) hv7 fL_X8_163 rfl (Nat.le_of_ble_eq_true rfl) rfl rfl dX8_here_16 (fun v44 v44l v44u v44w => ?_)
          have v44r : v5 = h7.2.1 70 4 := (show v5 = h7.2.1 70 4 from by rw [hv7e]; exact g_iS.symm)
          have v44q : TI v44 ((v2.toInt + 1)) := by rw [v44w.trans v44r.symm]; exact e6
          refine gi_bald (pc := 19) (lo := -128) (hi := 127) (len := 500) hv7 v44q rfl (by omega) (by omega) (fun _ => rfl) dX8_here_19 (fun v45 v45l v45u v45w => ?_)
          have k46 := bd_e k43 (congrArg Int32.toInt v45w.symm)
          refine go_bipush (pc := 20) (v := 32) (by decide) dX8_here_20 ?_
          refine gf_icmp_eq (pc := 22) (tgt := 39) (ti_rfl v45) (ti_c (v := 32) (a := 32) (by decide)) (by decide) dX8_here_22 (fun q47 => ?_) (fun q47 => ?_)
          ·
            have k48 := if_t k46 q47
            have g49 : (0 : Int) ≤ (h7.2.1 70 3).toInt := (hv7.2.1 70 3).1
            have g50 : (h7.2.1 70 3).toInt ≤ 500 := (hv7.2.1 70 3).2
            have g51 : (0 : Int) ≤ (h7.2.1 70 4).toInt := (hv7.2.1 70 4).1
            have g52 : (h7.2.1 70 4).toInt ≤ 500 := (hv7.2.1 70 4).2
            have g53 : (-2147483648 : Int) ≤ (h7.2.1 70 5).toInt := (hv7.2.1 70 5).1
            have g54 : (h7.2.1 70 5).toInt ≤ 2147483647 := (hv7.2.1 70 5).2
            have g55 : (h7.2.1 70 5).toInt = u70_5.toInt := by rw [← (show u70_5 = h7.2.1 70 5 from (show u70_5 = h7.2.1 70 5 from by rw [hv7e]; exact (g_iI rfl u70_5w.symm).symm))] <;> exact (ti_rfl u70_5)
            have g56 : (h7.2.1 70 4).toInt = (v2.toInt + 1) := by rw [← (show v5 = h7.2.1 70 4 from (show v5 = h7.2.1 70 4 from by rw [hv7e]; exact g_iS.symm))] <;> exact e6
            have g57 : (h7.2.1 70 3).toInt = v10.toInt := by rw [← (show v10 = h7.2.1 70 3 from v10w)] <;> exact (ti_rfl v10)
            exact go_lv rfl (ih  h7 hv7 (by omega) (by omega) (by omega) (by omega) (by omega) (by omega) (by omega) (by omega) (by omega) fx7 k48 (by omega))
          ·
            have k58 := if_f k46 q47
            refine go_aload_n (pc := 25) rfl dX8_here_25 ?_
            refine gi_getF (pc := 26) (q := 72) hv7 fL_X8_13 rfl (Nat.le_of_ble_eq_true rfl) rfl (hv7.rf (by decide)) dX8_here_26 ?_
            refine go_aload_n (pc := 29) rfl dX8_here_29 ?_
            refine gi_get (pc := 30) (lo := 0) (hi := 500) hv7 fL_X8_163 rfl (Nat.le_of_ble_eq_true rfl) rfl rfl dX8_here_30 (fun v59 v59l v59u v59w => ?_)
            have v59r : v5 = h7.2.1 70 4 := (show v5 = h7.2.1 70 4 from by rw [hv7e]; exact g_iS.symm)
            have v59q : TI v59 ((v2.toInt + 1)) := by rw [v59w.trans v59r.symm]; exact e6
            refine gi_bald (pc := 33) (lo := -128) (hi := 127) (len := 500) hv7 v59q rfl (by omega) (by omega) (fun _ => rfl) dX8_here_33 (fun v60 v60l v60u v60w => ?_)
            have k61 := bd_e k58 (congrArg Int32.toInt v60w.symm)
            refine go_bipush (pc := 34) (v := 10) (by decide) dX8_here_34 ?_
            refine gf_icmp_ne (pc := 36) (tgt := 52) (ti_rfl v60) (ti_c (v := 10) (a := 10) (by decide)) (by decide) dX8_here_36 (fun q62 => ?_) (fun q62 => ?_)
            ·
              have k63 := if_t k61 q62
              refine go_aload_n (pc := 52) rfl dX8_here_52 ?_
              refine gi_get (pc := 53) (lo := 0) (hi := 500) hv7 fL_X8_163 rfl (Nat.le_of_ble_eq_true rfl) rfl rfl dX8_here_53 (fun v64 v64l v64u v64w => ?_)
              have v64r : v5 = h7.2.1 70 4 := (show v5 = h7.2.1 70 4 from by rw [hv7e]; exact g_iS.symm)
              have v64q : TI v64 ((v2.toInt + 1)) := by rw [v64w.trans v64r.symm]; exact e6
              refine go_aload_n (pc := 56) rfl dX8_here_56 ?_
              refine gi_get (pc := 57) (lo := 0) (hi := 500) hv7 fL_X8_166 rfl (Nat.le_of_ble_eq_true rfl) rfl rfl dX8_here_57 (fun v65 v65l v65u v65w => ?_)
              have v65r : v10 = h7.2.1 70 3 := v10w
              have v65q : TI v65 v10.toInt := by rw [v65w.trans v65r.symm]; exact (ti_rfl v10)
              refine gf_icmp_ge (pc := 60) (tgt := 79) v64q v65q (by decide) dX8_here_60 (fun q66 => ?_) (fun q66 => ?_)
              ·
                have k67 := if_t k63 q66
                refine go_iconst (pc := 79) (v := (-1)) (by decide) dX8_here_79 ?_
                have g68 : (0 : Int) ≤ (h7.2.1 70 3).toInt := (hv7.2.1 70 3).1
                have g69 : (h7.2.1 70 3).toInt ≤ 500 := (hv7.2.1 70 3).2
                have g70 : (0 : Int) ≤ (h7.2.1 70 4).toInt := (hv7.2.1 70 4).1
                have g71 : (h7.2.1 70 4).toInt ≤ 500 := (hv7.2.1 70 4).2
                have g72 : (-2147483648 : Int) ≤ (h7.2.1 70 5).toInt := (hv7.2.1 70 5).1
                have g73 : (h7.2.1 70 5).toInt ≤ 2147483647 := (hv7.2.1 70 5).2
                have g74 : (h7.2.1 70 5).toInt = u70_5.toInt := by rw [← (show u70_5 = h7.2.1 70 5 from (show u70_5 = h7.2.1 70 5 from by rw [hv7e]; exact (g_iI rfl u70_5w.symm).symm))] <;> exact (ti_rfl u70_5)
                have g75 : (h7.2.1 70 4).toInt = (v2.toInt + 1) := by rw [← (show v5 = h7.2.1 70 4 from (show v5 = h7.2.1 70 4 from by rw [hv7e]; exact g_iS.symm))] <;> exact e6
                have g76 : (h7.2.1 70 3).toInt = v10.toInt := by rw [← (show v10 = h7.2.1 70 3 from v10w)] <;> exact (ti_rfl v10)
                exact gi_iret (pc := 80) (ti_c (v := (-1)) (a := (-1)) (by decide)) ⟨_, rfl, (by rw [show ((-1) : Int32).toInt = (-1) from (ti_c (v := (-1)) (a := (-1)) (by decide))]; omega), (by rw [show ((-1) : Int32).toInt = (-1) from (ti_c (v := (-1)) (a := (-1)) (by decide))]; omega), hv7, (by rw [show ((-1) : Int32).toInt = (-1) from (ti_c (v := (-1)) (a := (-1)) (by decide))]; omega), (by omega), (by omega), (fun q => absurd q (by decide)), (by rw [show ((-1) : Int32).toInt = (-1) from (ti_c (v := (-1)) (a := (-1)) (by decide))]; exact k67.symm.trans kf), fx7⟩ hv7 dX8_here_80
              ·
                have k77 := if_f k63 (Int.not_le.mpr q66)
                refine go_aload_n (pc := 63) rfl dX8_here_63 ?_
                refine gi_getF (pc := 64) (q := 72) hv7 fL_X8_13 rfl (Nat.le_of_ble_eq_true rfl) rfl (hv7.rf (by decide)) dX8_here_64 ?_
                refine go_aload_n (pc := 67) rfl dX8_here_67 ?_
                refine gi_get (pc := 68) (lo := 0) (hi := 500) hv7 fL_X8_163 rfl (Nat.le_of_ble_eq_true rfl) rfl rfl dX8_here_68 (fun v78 v78l v78u v78w => ?_)
                have v78r : v5 = h7.2.1 70 4 := (show v5 = h7.2.1 70 4 from by rw [hv7e]; exact g_iS.symm)
                have v78q : TI v78 ((v2.toInt + 1)) := by rw [v78w.trans v78r.symm]; exact e6
                refine gi_bald (pc := 71) (lo := -128) (hi := 127) (len := 500) hv7 v78q rfl (by omega) (by omega) (fun _ => rfl) dX8_here_71 (fun v79 v79l v79u v79w => ?_)
                have k80 := bd_e k77 (congrArg Int32.toInt v79w.symm)
                refine go_sipush (pc := 72) (v := 255) (by decide) dX8_here_72 ?_
                refine gx_iand (pc := 75) dX8_here_75 (fun v81 v81x => ?_)
                have v81l : 0 ≤ v81.toInt := by rw [v81x]; exact (ti_mask (ti_c (v := 255) (a := 255) (by decide)) (by omega)).1
                have v81u : v81.toInt ≤ 255 := by rw [v81x]; exact (ti_mask (ti_c (v := 255) (a := 255) (by decide)) (by omega)).2
                have k82 := bd_e k80 (so_iand (ti_rfl v79) (ti_c (v := 255) (a := 255) (by decide)) v81x)
                refine go_goto (pc := 76) (tgt := 80) (by decide) dX8_here_76 ?_
                have g83 : (0 : Int) ≤ (h7.2.1 70 3).toInt := (hv7.2.1 70 3).1
                have g84 : (h7.2.1 70 3).toInt ≤ 500 := (hv7.2.1 70 3).2
                have g85 : (0 : Int) ≤ (h7.2.1 70 4).toInt := (hv7.2.1 70 4).1
                have g86 : (h7.2.1 70 4).toInt ≤ 500 := (hv7.2.1 70 4).2
                have g87 : (-2147483648 : Int) ≤ (h7.2.1 70 5).toInt := (hv7.2.1 70 5).1
                have g88 : (h7.2.1 70 5).toInt ≤ 2147483647 := (hv7.2.1 70 5).2
                have g89 : (h7.2.1 70 5).toInt = u70_5.toInt := by rw [← (show u70_5 = h7.2.1 70 5 from (show u70_5 = h7.2.1 70 5 from by rw [hv7e]; exact (g_iI rfl u70_5w.symm).symm))] <;> exact (ti_rfl u70_5)
                have g90 : (h7.2.1 70 4).toInt = (v2.toInt + 1) := by rw [← (show v5 = h7.2.1 70 4 from (show v5 = h7.2.1 70 4 from by rw [hv7e]; exact g_iS.symm))] <;> exact e6
                have g91 : (h7.2.1 70 3).toInt = v10.toInt := by rw [← (show v10 = h7.2.1 70 3 from v10w)] <;> exact (ti_rfl v10)
                have ea : (h7.2.1 70 4).toInt = (v2.toInt + 1) := by omega
                have es : (v2.toInt + 1) < (h7.2.1 70 3).toInt := by omega
                exact gi_iret (pc := 80) (ti_rfl v81) ⟨_, rfl, (by rw [show (v81 : Int32).toInt = v81.toInt from (ti_rfl v81)]; omega), (by rw [show (v81 : Int32).toInt = v81.toInt from (ti_rfl v81)]; omega), hv7, (by rw [show (v81 : Int32).toInt = v81.toInt from (ti_rfl v81)]; omega), (by omega), (by omega), (fun _ => ⟨by omega, by rw [ea, ← v45w]; omega, by rw [ea, ← v60w]; omega, by rw [ea, ← v79w]; exact v81x⟩), (k82.symm.trans kf), fx7⟩ hv7 dX8_here_80
            ·
              have k92 := if_f k61 (fun z => z q62)
              have g93 : (0 : Int) ≤ (h7.2.1 70 3).toInt := (hv7.2.1 70 3).1
              have g94 : (h7.2.1 70 3).toInt ≤ 500 := (hv7.2.1 70 3).2
              have g95 : (0 : Int) ≤ (h7.2.1 70 4).toInt := (hv7.2.1 70 4).1
              have g96 : (h7.2.1 70 4).toInt ≤ 500 := (hv7.2.1 70 4).2
              have g97 : (-2147483648 : Int) ≤ (h7.2.1 70 5).toInt := (hv7.2.1 70 5).1
              have g98 : (h7.2.1 70 5).toInt ≤ 2147483647 := (hv7.2.1 70 5).2
              have g99 : (h7.2.1 70 5).toInt = u70_5.toInt := by rw [← (show u70_5 = h7.2.1 70 5 from (show u70_5 = h7.2.1 70 5 from by rw [hv7e]; exact (g_iI rfl u70_5w.symm).symm))] <;> exact (ti_rfl u70_5)
              have g100 : (h7.2.1 70 4).toInt = (v2.toInt + 1) := by rw [← (show v5 = h7.2.1 70 4 from (show v5 = h7.2.1 70 4 from by rw [hv7e]; exact g_iS.symm))] <;> exact e6
              have g101 : (h7.2.1 70 3).toInt = v10.toInt := by rw [← (show v10 = h7.2.1 70 3 from v10w)] <;> exact (ti_rfl v10)
              exact go_lv rfl (ih  h7 hv7 (by omega) (by omega) (by omega) (by omega) (by omega) (by omega) (by omega) (by omega) (by omega) fx7 k92 (by omega))
  obtain ⟨u70_5, u70_5w⟩ : ∃ v : Int32, v = h.2.1 70 5 := ⟨_, rfl⟩
  have u70_5e : (h.2.1 70 5).toInt = u70_5.toInt := by rw [u70_5w]
  have u70_5l : -2147483648 ≤ u70_5.toInt := by rw [u70_5w]; exact (hv.2.1 70 5).1
  have u70_5u : u70_5.toInt ≤ 2147483647 := by rw [u70_5w]; exact (hv.2.1 70 5).2
  have k102 := bd_e k0 (congrArg Int32.toInt u70_5w.symm)
  refine go_aload_n (pc := 0) rfl dX8_here_0 ?_
  refine gi_get (pc := 1) (lo := 0) (hi := 500) hv fL_X8_163 rfl (Nat.le_of_ble_eq_true rfl) rfl rfl dX8_here_1 (fun v103 v103l v103u v103w => ?_)
  have k104 := bd_e k102 (congrArg Int32.toInt v103w.symm)
  have g105 : (h.2.1 70 4).toInt = v103.toInt := by rw [v103w]
  refine go_aload_n (pc := 4) rfl dX8_here_4 ?_
  refine gi_get (pc := 5) (lo := 0) (hi := 500) hv fL_X8_166 rfl (Nat.le_of_ble_eq_true rfl) rfl rfl dX8_here_5 (fun v106 v106l v106u v106w => ?_)
  have k107 := bd_e k104 (congrArg Int32.toInt v106w.symm)
  have g108 : (h.2.1 70 3).toInt = v106.toInt := by rw [v106w]
  refine gf_icmp_ge (pc := 8) (tgt := 52) (ti_rfl v103) (ti_rfl v106) (by decide) dX8_here_8 (fun q109 => ?_) (fun q109 => ?_)
  ·
    have k110 := if_t k107 q109
    refine go_aload_n (pc := 52) rfl dX8_here_52 ?_
    refine gi_get (pc := 53) (lo := 0) (hi := 500) hv fL_X8_163 rfl (Nat.le_of_ble_eq_true rfl) rfl rfl dX8_here_53 (fun v111 v111l v111u v111w => ?_)
    have v111r : v103 = h.2.1 70 4 := v103w
    have v111q : TI v111 v103.toInt := by rw [v111w.trans v111r.symm]; exact (ti_rfl v103)
    refine go_aload_n (pc := 56) rfl dX8_here_56 ?_
    refine gi_get (pc := 57) (lo := 0) (hi := 500) hv fL_X8_166 rfl (Nat.le_of_ble_eq_true rfl) rfl rfl dX8_here_57 (fun v112 v112l v112u v112w => ?_)
    have v112r : v106 = h.2.1 70 3 := v106w
    have v112q : TI v112 v106.toInt := by rw [v112w.trans v112r.symm]; exact (ti_rfl v106)
    refine gf_icmp_ge (pc := 60) (tgt := 79) v111q v112q (by decide) dX8_here_60 (fun q113 => ?_) (fun q113 => ?_)
    ·
      have k114 := if_t k110 q113
      refine go_iconst (pc := 79) (v := (-1)) (by decide) dX8_here_79 ?_
      have g115 : (0 : Int) ≤ (h.2.1 70 3).toInt := (hv.2.1 70 3).1
      have g116 : (h.2.1 70 3).toInt ≤ 500 := (hv.2.1 70 3).2
      have g117 : (0 : Int) ≤ (h.2.1 70 4).toInt := (hv.2.1 70 4).1
      have g118 : (h.2.1 70 4).toInt ≤ 500 := (hv.2.1 70 4).2
      have g119 : (-2147483648 : Int) ≤ (h.2.1 70 5).toInt := (hv.2.1 70 5).1
      have g120 : (h.2.1 70 5).toInt ≤ 2147483647 := (hv.2.1 70 5).2
      have g121 : (h.2.1 70 5).toInt = u70_5.toInt := by rw [← (show u70_5 = h.2.1 70 5 from u70_5w)] <;> exact (ti_rfl u70_5)
      have g122 : (h.2.1 70 4).toInt = v103.toInt := by rw [← (show v103 = h.2.1 70 4 from v103w)] <;> exact (ti_rfl v103)
      have g123 : (h.2.1 70 3).toInt = v106.toInt := by rw [← (show v106 = h.2.1 70 3 from v106w)] <;> exact (ti_rfl v106)
      exact gi_iret (pc := 80) (ti_c (v := (-1)) (a := (-1)) (by decide)) ⟨_, rfl, (by rw [show ((-1) : Int32).toInt = (-1) from (ti_c (v := (-1)) (a := (-1)) (by decide))]; omega), (by rw [show ((-1) : Int32).toInt = (-1) from (ti_c (v := (-1)) (a := (-1)) (by decide))]; omega), hv, (by rw [show ((-1) : Int32).toInt = (-1) from (ti_c (v := (-1)) (a := (-1)) (by decide))]; omega), (by omega), (by omega), (fun q => absurd q (by decide)), (by rw [show ((-1) : Int32).toInt = (-1) from (ti_c (v := (-1)) (a := (-1)) (by decide))]; exact k114.symm.trans kf), fx⟩ hv dX8_here_80
    ·
      have k124 := if_f k110 (Int.not_le.mpr q113)
      refine go_aload_n (pc := 63) rfl dX8_here_63 ?_
      refine gi_getF (pc := 64) (q := 72) hv fL_X8_13 rfl (Nat.le_of_ble_eq_true rfl) rfl (hv.rf (by decide)) dX8_here_64 ?_
      refine go_aload_n (pc := 67) rfl dX8_here_67 ?_
      refine gi_get (pc := 68) (lo := 0) (hi := 500) hv fL_X8_163 rfl (Nat.le_of_ble_eq_true rfl) rfl rfl dX8_here_68 (fun v125 v125l v125u v125w => ?_)
      have v125r : v103 = h.2.1 70 4 := v103w
      have v125q : TI v125 v103.toInt := by rw [v125w.trans v125r.symm]; exact (ti_rfl v103)
      refine gi_bald (pc := 71) (lo := -128) (hi := 127) (len := 500) hv v125q rfl (by omega) (by omega) (fun _ => rfl) dX8_here_71 (fun v126 v126l v126u v126w => ?_)
      have k127 := bd_e k124 (congrArg Int32.toInt v126w.symm)
      refine go_sipush (pc := 72) (v := 255) (by decide) dX8_here_72 ?_
      refine gx_iand (pc := 75) dX8_here_75 (fun v128 v128x => ?_)
      have v128l : 0 ≤ v128.toInt := by rw [v128x]; exact (ti_mask (ti_c (v := 255) (a := 255) (by decide)) (by omega)).1
      have v128u : v128.toInt ≤ 255 := by rw [v128x]; exact (ti_mask (ti_c (v := 255) (a := 255) (by decide)) (by omega)).2
      have k129 := bd_e k127 (so_iand (ti_rfl v126) (ti_c (v := 255) (a := 255) (by decide)) v128x)
      refine go_goto (pc := 76) (tgt := 80) (by decide) dX8_here_76 ?_
      have g130 : (0 : Int) ≤ (h.2.1 70 3).toInt := (hv.2.1 70 3).1
      have g131 : (h.2.1 70 3).toInt ≤ 500 := (hv.2.1 70 3).2
      have g132 : (0 : Int) ≤ (h.2.1 70 4).toInt := (hv.2.1 70 4).1
      have g133 : (h.2.1 70 4).toInt ≤ 500 := (hv.2.1 70 4).2
      have g134 : (-2147483648 : Int) ≤ (h.2.1 70 5).toInt := (hv.2.1 70 5).1
      have g135 : (h.2.1 70 5).toInt ≤ 2147483647 := (hv.2.1 70 5).2
      have g136 : (h.2.1 70 5).toInt = u70_5.toInt := by rw [← (show u70_5 = h.2.1 70 5 from u70_5w)] <;> exact (ti_rfl u70_5)
      have g137 : (h.2.1 70 4).toInt = v103.toInt := by rw [← (show v103 = h.2.1 70 4 from v103w)] <;> exact (ti_rfl v103)
      have g138 : (h.2.1 70 3).toInt = v106.toInt := by rw [← (show v106 = h.2.1 70 3 from v106w)] <;> exact (ti_rfl v106)
      exact gi_iret (pc := 80) (ti_rfl v128) ⟨_, rfl, (by rw [show (v128 : Int32).toInt = v128.toInt from (ti_rfl v128)]; omega), (by rw [show (v128 : Int32).toInt = v128.toInt from (ti_rfl v128)]; omega), hv, (by rw [show (v128 : Int32).toInt = v128.toInt from (ti_rfl v128)]; omega), (by omega), (by omega), (fun _ => False.elim (by omega)), (k129.symm.trans kf), fx⟩ hv dX8_here_80
  ·
    have k139 := if_f k107 (Int.not_le.mpr q109)
    refine go_aload_n (pc := 11) rfl dX8_here_11 ?_
    refine gi_getF (pc := 12) (q := 72) hv fL_X8_13 rfl (Nat.le_of_ble_eq_true rfl) rfl (hv.rf (by decide)) dX8_here_12 ?_
    refine go_aload_n (pc := 15) rfl dX8_here_15 ?_
    refine gi_get (pc := 16) (lo := 0) (hi := 500) hv fL_X8_163 rfl (Nat.le_of_ble_eq_true rfl) rfl rfl dX8_here_16 (fun v140 v140l v140u v140w => ?_)
    have v140r : v103 = h.2.1 70 4 := v103w
    have v140q : TI v140 v103.toInt := by rw [v140w.trans v140r.symm]; exact (ti_rfl v103)
    refine gi_bald (pc := 19) (lo := -128) (hi := 127) (len := 500) hv v140q rfl (by omega) (by omega) (fun _ => rfl) dX8_here_19 (fun v141 v141l v141u v141w => ?_)
    have k142 := bd_e k139 (congrArg Int32.toInt v141w.symm)
    refine go_bipush (pc := 20) (v := 32) (by decide) dX8_here_20 ?_
    refine gf_icmp_eq (pc := 22) (tgt := 39) (ti_rfl v141) (ti_c (v := 32) (a := 32) (by decide)) (by decide) dX8_here_22 (fun q143 => ?_) (fun q143 => ?_)
    ·
      have k144 := if_t k142 q143
      have g145 : (0 : Int) ≤ (h.2.1 70 3).toInt := (hv.2.1 70 3).1
      have g146 : (h.2.1 70 3).toInt ≤ 500 := (hv.2.1 70 3).2
      have g147 : (0 : Int) ≤ (h.2.1 70 4).toInt := (hv.2.1 70 4).1
      have g148 : (h.2.1 70 4).toInt ≤ 500 := (hv.2.1 70 4).2
      have g149 : (-2147483648 : Int) ≤ (h.2.1 70 5).toInt := (hv.2.1 70 5).1
      have g150 : (h.2.1 70 5).toInt ≤ 2147483647 := (hv.2.1 70 5).2
      have g151 : (h.2.1 70 5).toInt = u70_5.toInt := by rw [← (show u70_5 = h.2.1 70 5 from u70_5w)] <;> exact (ti_rfl u70_5)
      have g152 : (h.2.1 70 4).toInt = v103.toInt := by rw [← (show v103 = h.2.1 70 4 from v103w)] <;> exact (ti_rfl v103)
      have g153 : (h.2.1 70 3).toInt = v106.toInt := by rw [← (show v106 = h.2.1 70 3 from v106w)] <;> exact (ti_rfl v106)
      exact go_lv rfl ((key 1519)  h hv (by omega) (by omega) (by omega) (by omega) (by omega) (by omega) (by omega) (by omega) (by omega) fx k144 (by omega))
    ·
      have k154 := if_f k142 q143
      refine go_aload_n (pc := 25) rfl dX8_here_25 ?_
      refine gi_getF (pc := 26) (q := 72) hv fL_X8_13 rfl (Nat.le_of_ble_eq_true rfl) rfl (hv.rf (by decide)) dX8_here_26 ?_
      refine go_aload_n (pc := 29) rfl dX8_here_29 ?_
      refine gi_get (pc := 30) (lo := 0) (hi := 500) hv fL_X8_163 rfl (Nat.le_of_ble_eq_true rfl) rfl rfl dX8_here_30 (fun v155 v155l v155u v155w => ?_)
      have v155r : v103 = h.2.1 70 4 := v103w
      have v155q : TI v155 v103.toInt := by rw [v155w.trans v155r.symm]; exact (ti_rfl v103)
      refine gi_bald (pc := 33) (lo := -128) (hi := 127) (len := 500) hv v155q rfl (by omega) (by omega) (fun _ => rfl) dX8_here_33 (fun v156 v156l v156u v156w => ?_)
      have k157 := bd_e k154 (congrArg Int32.toInt v156w.symm)
      refine go_bipush (pc := 34) (v := 10) (by decide) dX8_here_34 ?_
      refine gf_icmp_ne (pc := 36) (tgt := 52) (ti_rfl v156) (ti_c (v := 10) (a := 10) (by decide)) (by decide) dX8_here_36 (fun q158 => ?_) (fun q158 => ?_)
      ·
        have k159 := if_t k157 q158
        refine go_aload_n (pc := 52) rfl dX8_here_52 ?_
        refine gi_get (pc := 53) (lo := 0) (hi := 500) hv fL_X8_163 rfl (Nat.le_of_ble_eq_true rfl) rfl rfl dX8_here_53 (fun v160 v160l v160u v160w => ?_)
        have v160r : v103 = h.2.1 70 4 := v103w
        have v160q : TI v160 v103.toInt := by rw [v160w.trans v160r.symm]; exact (ti_rfl v103)
        refine go_aload_n (pc := 56) rfl dX8_here_56 ?_
        refine gi_get (pc := 57) (lo := 0) (hi := 500) hv fL_X8_166 rfl (Nat.le_of_ble_eq_true rfl) rfl rfl dX8_here_57 (fun v161 v161l v161u v161w => ?_)
        have v161r : v106 = h.2.1 70 3 := v106w
        have v161q : TI v161 v106.toInt := by rw [v161w.trans v161r.symm]; exact (ti_rfl v106)
        refine gf_icmp_ge (pc := 60) (tgt := 79) v160q v161q (by decide) dX8_here_60 (fun q162 => ?_) (fun q162 => ?_)
        ·
          have k163 := if_t k159 q162
          refine go_iconst (pc := 79) (v := (-1)) (by decide) dX8_here_79 ?_
          have g164 : (0 : Int) ≤ (h.2.1 70 3).toInt := (hv.2.1 70 3).1
          have g165 : (h.2.1 70 3).toInt ≤ 500 := (hv.2.1 70 3).2
          have g166 : (0 : Int) ≤ (h.2.1 70 4).toInt := (hv.2.1 70 4).1
          have g167 : (h.2.1 70 4).toInt ≤ 500 := (hv.2.1 70 4).2
          have g168 : (-2147483648 : Int) ≤ (h.2.1 70 5).toInt := (hv.2.1 70 5).1
          have g169 : (h.2.1 70 5).toInt ≤ 2147483647 := (hv.2.1 70 5).2
          have g170 : (h.2.1 70 5).toInt = u70_5.toInt := by rw [← (show u70_5 = h.2.1 70 5 from u70_5w)] <;> exact (ti_rfl u70_5)
          have g171 : (h.2.1 70 4).toInt = v103.toInt := by rw [← (show v103 = h.2.1 70 4 from v103w)] <;> exact (ti_rfl v103)
          have g172 : (h.2.1 70 3).toInt = v106.toInt := by rw [← (show v106 = h.2.1 70 3 from v106w)] <;> exact (ti_rfl v106)
          exact gi_iret (pc := 80) (ti_c (v := (-1)) (a := (-1)) (by decide)) ⟨_, rfl, (by rw [show ((-1) : Int32).toInt = (-1) from (ti_c (v := (-1)) (a := (-1)) (by decide))]; omega), (by rw [show ((-1) : Int32).toInt = (-1) from (ti_c (v := (-1)) (a := (-1)) (by decide))]; omega), hv, (by rw [show ((-1) : Int32).toInt = (-1) from (ti_c (v := (-1)) (a := (-1)) (by decide))]; omega), (by omega), (by omega), (fun q => absurd q (by decide)), (by rw [show ((-1) : Int32).toInt = (-1) from (ti_c (v := (-1)) (a := (-1)) (by decide))]; exact k163.symm.trans kf), fx⟩ hv dX8_here_80
        ·
          have k173 := if_f k159 (Int.not_le.mpr q162)
          refine go_aload_n (pc := 63) rfl dX8_here_63 ?_
          refine gi_getF (pc := 64) (q := 72) hv fL_X8_13 rfl (Nat.le_of_ble_eq_true rfl) rfl (hv.rf (by decide)) dX8_here_64 ?_
          refine go_aload_n (pc := 67) rfl dX8_here_67 ?_
          refine gi_get (pc := 68) (lo := 0) (hi := 500) hv fL_X8_163 rfl (Nat.le_of_ble_eq_true rfl) rfl rfl dX8_here_68 (fun v174 v174l v174u v174w => ?_)
          have v174r : v103 = h.2.1 70 4 := v103w
          have v174q : TI v174 v103.toInt := by rw [v174w.trans v174r.symm]; exact (ti_rfl v103)
          refine gi_bald (pc := 71) (lo := -128) (hi := 127) (len := 500) hv v174q rfl (by omega) (by omega) (fun _ => rfl) dX8_here_71 (fun v175 v175l v175u v175w => ?_)
          have k176 := bd_e k173 (congrArg Int32.toInt v175w.symm)
          refine go_sipush (pc := 72) (v := 255) (by decide) dX8_here_72 ?_
          refine gx_iand (pc := 75) dX8_here_75 (fun v177 v177x => ?_)
          have v177l : 0 ≤ v177.toInt := by rw [v177x]; exact (ti_mask (ti_c (v := 255) (a := 255) (by decide)) (by omega)).1
          have v177u : v177.toInt ≤ 255 := by rw [v177x]; exact (ti_mask (ti_c (v := 255) (a := 255) (by decide)) (by omega)).2
          have k178 := bd_e k176 (so_iand (ti_rfl v175) (ti_c (v := 255) (a := 255) (by decide)) v177x)
          refine go_goto (pc := 76) (tgt := 80) (by decide) dX8_here_76 ?_
          have g179 : (0 : Int) ≤ (h.2.1 70 3).toInt := (hv.2.1 70 3).1
          have g180 : (h.2.1 70 3).toInt ≤ 500 := (hv.2.1 70 3).2
          have g181 : (0 : Int) ≤ (h.2.1 70 4).toInt := (hv.2.1 70 4).1
          have g182 : (h.2.1 70 4).toInt ≤ 500 := (hv.2.1 70 4).2
          have g183 : (-2147483648 : Int) ≤ (h.2.1 70 5).toInt := (hv.2.1 70 5).1
          have g184 : (h.2.1 70 5).toInt ≤ 2147483647 := (hv.2.1 70 5).2
          have g185 : (h.2.1 70 5).toInt = u70_5.toInt := by rw [← (show u70_5 = h.2.1 70 5 from u70_5w)] <;> exact (ti_rfl u70_5)
          have g186 : (h.2.1 70 4).toInt = v103.toInt := by rw [← (show v103 = h.2.1 70 4 from v103w)] <;> exact (ti_rfl v103)
          have g187 : (h.2.1 70 3).toInt = v106.toInt := by rw [← (show v106 = h.2.1 70 3 from v106w)] <;> exact (ti_rfl v106)
          have ea : (h.2.1 70 4).toInt = v103.toInt := by omega
          have es : v103.toInt < (h.2.1 70 3).toInt := by omega
          exact gi_iret (pc := 80) (ti_rfl v177) ⟨_, rfl, (by rw [show (v177 : Int32).toInt = v177.toInt from (ti_rfl v177)]; omega), (by rw [show (v177 : Int32).toInt = v177.toInt from (ti_rfl v177)]; omega), hv, (by rw [show (v177 : Int32).toInt = v177.toInt from (ti_rfl v177)]; omega), (by omega), (by omega), (fun _ => ⟨by omega, by rw [ea, ← v141w]; omega, by rw [ea, ← v156w]; omega, by rw [ea, ← v175w]; exact v177x⟩), (k178.symm.trans kf), fx⟩ hv dX8_here_80
      ·
        have k188 := if_f k157 (fun z => z q158)
        have g189 : (0 : Int) ≤ (h.2.1 70 3).toInt := (hv.2.1 70 3).1
        have g190 : (h.2.1 70 3).toInt ≤ 500 := (hv.2.1 70 3).2
        have g191 : (0 : Int) ≤ (h.2.1 70 4).toInt := (hv.2.1 70 4).1
        have g192 : (h.2.1 70 4).toInt ≤ 500 := (hv.2.1 70 4).2
        have g193 : (-2147483648 : Int) ≤ (h.2.1 70 5).toInt := (hv.2.1 70 5).1
        have g194 : (h.2.1 70 5).toInt ≤ 2147483647 := (hv.2.1 70 5).2
        have g195 : (h.2.1 70 5).toInt = u70_5.toInt := by rw [← (show u70_5 = h.2.1 70 5 from u70_5w)] <;> exact (ti_rfl u70_5)
        have g196 : (h.2.1 70 4).toInt = v103.toInt := by rw [← (show v103 = h.2.1 70 4 from v103w)] <;> exact (ti_rfl v103)
        have g197 : (h.2.1 70 3).toInt = v106.toInt := by rw [← (show v106 = h.2.1 70 3 from v106w)] <;> exact (ti_rfl v106)
        exact go_lv rfl ((key 1519)  h hv (by omega) (by omega) (by omega) (by omega) (by omega) (by omega) (by omega) (by omega) (by omega) fx k188 (by omega))
def f_X8_here_ns (s : ST) : Int :=
  bd (s.1 70 4) fun v2 => bd (s.1 70 3) fun v5 => if v5 ≤ v2 then (if v5 ≤ v2 then (0) else (bd (s.1 72 (v2).toNat) fun v19 => bd (o_iand v19 255) fun v25 => v25)) else (bd (s.1 72 (v2).toNat) fun v29 => if v29 = 32 then (0) else (bd (s.1 72 (v2).toNat) fun v39 => if ¬ v39 = 10 then (if v5 ≤ v2 then (0) else (bd (s.1 72 (v2).toNat) fun v53 => bd (o_iand v53 255) fun v59 => v59)) else (0)))
set_option maxHeartbeats 4000000 in
set_option maxRecDepth 100000 in
theorem s_X8_here_ns_f (l : Launch) (d : Nat) {P : PP} {h : HP} (hv : Iv P h) {c0 : Int32} (ns : NS h c0) : Mt l yX8_here cX8_here 1 (some .int) (d + 1) [.ref 70] h 0 0 (fun r h' => ∃ v : Int32, r = some (.int v) ∧ -1 ≤ v.toInt ∧ v.toInt ≤ 255 ∧ h = h' ∧ (v = c0) ∧ (v.toInt = f_X8_here_ns (st h))) := by
  refine Mt_iv hv (by decide) (Nat.le_of_ble_eq_true rfl) ?_
  show Go l RX8 cX8_here 1 (g_rm (d + 1) 0 0) "here" (some .int) 117 0 0 (fun _ _ => True) (fun r h' => ∃ v : Int32, r = some (.int v) ∧ -1 ≤ v.toInt ∧ v.toInt ≤ 255 ∧ h = h' ∧ (v = c0) ∧ (v.toInt = f_X8_here_ns (st h))) 0 0 [(0, .ref 70)] [] h
  obtain ⟨fin, kf⟩ : ∃ z, z = f_X8_here_ns (st h) := ⟨_, _root_.rfl⟩
  have k0 := kf
  unfold f_X8_here_ns at k0
  obtain ⟨u70_5, u70_5w⟩ : ∃ v : Int32, v = h.2.1 70 5 := ⟨_, rfl⟩
  have u70_5e : (h.2.1 70 5).toInt = u70_5.toInt := by rw [u70_5w]
  have u70_5l : -2147483648 ≤ u70_5.toInt := by rw [u70_5w]; exact (hv.2.1 70 5).1
  have u70_5u : u70_5.toInt ≤ 2147483647 := by rw [u70_5w]; exact (hv.2.1 70 5).2
  have k1 := k0
  refine go_aload_n (pc := 0) rfl dX8_here_0 ?_
  refine gi_get (pc := 1) (lo := 0) (hi := 500) hv fL_X8_163 rfl (Nat.le_of_ble_eq_true rfl) rfl rfl dX8_here_1 (fun v2 v2l v2u v2w => ?_)
  have k3 := bd_e k1 (congrArg Int32.toInt v2w.symm)
  have g4 : (h.2.1 70 4).toInt = v2.toInt := by rw [v2w]
  refine go_aload_n (pc := 4) rfl dX8_here_4 ?_
  refine gi_get (pc := 5) (lo := 0) (hi := 500) hv fL_X8_166 rfl (Nat.le_of_ble_eq_true rfl) rfl rfl dX8_here_5 (fun v5 v5l v5u v5w => ?_)
  have k6 := bd_e k3 (congrArg Int32.toInt v5w.symm)
  have g7 : (h.2.1 70 3).toInt = v5.toInt := by rw [v5w]
  have j8 := ns.1
  have j9 : (h.2.1 70 4).toInt = v2.toInt := by rw [← v2w]
  have j10 : (h.2.1 70 3).toInt = v5.toInt := by rw [← v5w]
  refine gf_icmp_ge (pc := 8) (tgt := 52) (ti_rfl v2) (ti_rfl v5) (by decide) dX8_here_8 (fun q11 => ?_) (fun q11 => ?_)
  ·
    have k12 := if_t k6 q11
    refine go_aload_n (pc := 52) rfl dX8_here_52 ?_
    refine gi_get (pc := 53) (lo := 0) (hi := 500) hv fL_X8_163 rfl (Nat.le_of_ble_eq_true rfl) rfl rfl dX8_here_53 (fun v13 v13l v13u v13w => ?_)
    have v13r : v2 = h.2.1 70 4 := v2w
    have v13q : TI v13 v2.toInt := by rw [v13w.trans v13r.symm]; exact (ti_rfl v2)
    refine go_aload_n (pc := 56) rfl dX8_here_56 ?_
    refine gi_get (pc := 57) (lo := 0) (hi := 500) hv fL_X8_166 rfl (Nat.le_of_ble_eq_true rfl) rfl rfl dX8_here_57 (fun v14 v14l v14u v14w => ?_)
    have v14r : v5 = h.2.1 70 3 := v5w
    have v14q : TI v14 v5.toInt := by rw [v14w.trans v14r.symm]; exact (ti_rfl v5)
    refine gf_icmp_ge (pc := 60) (tgt := 79) v13q v14q (by decide) dX8_here_60 (fun q15 => ?_) (fun q15 => ?_)
    ·
      have k16 := if_t k12 q15
      refine go_iconst (pc := 79) (v := (-1)) (by decide) dX8_here_79 ?_
      exact False.elim (by have := ns.1; omega)
    ·
      have k17 := if_f k12 (Int.not_le.mpr q15)
      refine go_aload_n (pc := 63) rfl dX8_here_63 ?_
      refine gi_getF (pc := 64) (q := 72) hv fL_X8_13 rfl (Nat.le_of_ble_eq_true rfl) rfl (hv.rf (by decide)) dX8_here_64 ?_
      refine go_aload_n (pc := 67) rfl dX8_here_67 ?_
      refine gi_get (pc := 68) (lo := 0) (hi := 500) hv fL_X8_163 rfl (Nat.le_of_ble_eq_true rfl) rfl rfl dX8_here_68 (fun v18 v18l v18u v18w => ?_)
      have v18r : v2 = h.2.1 70 4 := v2w
      have v18q : TI v18 v2.toInt := by rw [v18w.trans v18r.symm]; exact (ti_rfl v2)
      refine gi_bald (pc := 71) (lo := -128) (hi := 127) (len := 500) hv v18q rfl (by omega) (by omega) (fun _ => rfl) dX8_here_71 (fun v19 v19l v19u v19w => ?_)
      have k20 := bd_e k17 (congrArg Int32.toInt v19w.symm)
      have k21 : (h.2.1 70 4).toInt = v2.toInt := by omega
      have k22 : v19 = h.2.1 72 (h.2.1 70 4).toInt.toNat := by rw [k21]; exact v19w
      have j23 : ¬ v19.toInt = 32 := by rw [k22]; exact ns.2.1
      have j24 : ¬ v19.toInt = 10 := by rw [k22]; exact ns.2.2.1
      refine go_sipush (pc := 72) (v := 255) (by decide) dX8_here_72 ?_
      refine gx_iand (pc := 75) dX8_here_75 (fun v25 v25x => ?_)
      have v25l : 0 ≤ v25.toInt := by rw [v25x]; exact (ti_mask (ti_c (v := 255) (a := 255) (by decide)) (by omega)).1
      have v25u : v25.toInt ≤ 255 := by rw [v25x]; exact (ti_mask (ti_c (v := 255) (a := 255) (by decide)) (by omega)).2
      have k26 := bd_e k20 (so_iand (ti_rfl v19) (ti_c (v := 255) (a := 255) (by decide)) v25x)
      refine go_goto (pc := 76) (tgt := 80) (by decide) dX8_here_76 ?_
      exact gi_iret (pc := 80) (ti_rfl v25) ⟨_, rfl, (by rw [show (v25 : Int32).toInt = v25.toInt from (ti_rfl v25)]; omega), (by rw [show (v25 : Int32).toInt = v25.toInt from (ti_rfl v25)]; omega), rfl, (by rw [v25x, k22]; exact ns.2.2.2.symm), (k26.symm.trans kf)⟩ hv dX8_here_80
  ·
    have k27 := if_f k6 (Int.not_le.mpr q11)
    refine go_aload_n (pc := 11) rfl dX8_here_11 ?_
    refine gi_getF (pc := 12) (q := 72) hv fL_X8_13 rfl (Nat.le_of_ble_eq_true rfl) rfl (hv.rf (by decide)) dX8_here_12 ?_
    refine go_aload_n (pc := 15) rfl dX8_here_15 ?_
    refine gi_get (pc := 16) (lo := 0) (hi := 500) hv fL_X8_163 rfl (Nat.le_of_ble_eq_true rfl) rfl rfl dX8_here_16 (fun v28 v28l v28u v28w => ?_)
    have v28r : v2 = h.2.1 70 4 := v2w
    have v28q : TI v28 v2.toInt := by rw [v28w.trans v28r.symm]; exact (ti_rfl v2)
    refine gi_bald (pc := 19) (lo := -128) (hi := 127) (len := 500) hv v28q rfl (by omega) (by omega) (fun _ => rfl) dX8_here_19 (fun v29 v29l v29u v29w => ?_)
    have k30 := bd_e k27 (congrArg Int32.toInt v29w.symm)
    have k31 : (h.2.1 70 4).toInt = v2.toInt := by omega
    have k32 : v29 = h.2.1 72 (h.2.1 70 4).toInt.toNat := by rw [k31]; exact v29w
    have j33 : ¬ v29.toInt = 32 := by rw [k32]; exact ns.2.1
    have j34 : ¬ v29.toInt = 10 := by rw [k32]; exact ns.2.2.1
    refine go_bipush (pc := 20) (v := 32) (by decide) dX8_here_20 ?_
    refine gf_icmp_eq (pc := 22) (tgt := 39) (ti_rfl v29) (ti_c (v := 32) (a := 32) (by decide)) (by decide) dX8_here_22 (fun q35 => ?_) (fun q35 => ?_)
    ·
      have k36 := if_t k30 q35
      exact False.elim (by omega)
    ·
      have k37 := if_f k30 q35
      refine go_aload_n (pc := 25) rfl dX8_here_25 ?_
      refine gi_getF (pc := 26) (q := 72) hv fL_X8_13 rfl (Nat.le_of_ble_eq_true rfl) rfl (hv.rf (by decide)) dX8_here_26 ?_
      refine go_aload_n (pc := 29) rfl dX8_here_29 ?_
      refine gi_get (pc := 30) (lo := 0) (hi := 500) hv fL_X8_163 rfl (Nat.le_of_ble_eq_true rfl) rfl rfl dX8_here_30 (fun v38 v38l v38u v38w => ?_)
      have v38r : v2 = h.2.1 70 4 := v2w
      have v38q : TI v38 v2.toInt := by rw [v38w.trans v38r.symm]; exact (ti_rfl v2)
      refine gi_bald (pc := 33) (lo := -128) (hi := 127) (len := 500) hv v38q rfl (by omega) (by omega) (fun _ => rfl) dX8_here_33 (fun v39 v39l v39u v39w => ?_)
      have k40 := bd_e k37 (congrArg Int32.toInt v39w.symm)
      have k41 : (h.2.1 70 4).toInt = v2.toInt := by omega
      have k42 : v39 = h.2.1 72 (h.2.1 70 4).toInt.toNat := by rw [k41]; exact v39w
      have j43 : ¬ v39.toInt = 32 := by rw [k42]; exact ns.2.1
      have j44 : ¬ v39.toInt = 10 := by rw [k42]; exact ns.2.2.1
      refine go_bipush (pc := 34) (v := 10) (by decide) dX8_here_34 ?_
      refine gf_icmp_ne (pc := 36) (tgt := 52) (ti_rfl v39) (ti_c (v := 10) (a := 10) (by decide)) (by decide) dX8_here_36 (fun q45 => ?_) (fun q45 => ?_)
      ·
        have k46 := if_t k40 q45
        refine go_aload_n (pc := 52) rfl dX8_here_52 ?_
        refine gi_get (pc := 53) (lo := 0) (hi := 500) hv fL_X8_163 rfl (Nat.le_of_ble_eq_true rfl) rfl rfl dX8_here_53 (fun v47 v47l v47u v47w => ?_)
        have v47r : v2 = h.2.1 70 4 := v2w
        have v47q : TI v47 v2.toInt := by rw [v47w.trans v47r.symm]; exact (ti_rfl v2)
        refine go_aload_n (pc := 56) rfl dX8_here_56 ?_
        refine gi_get (pc := 57) (lo := 0) (hi := 500) hv fL_X8_166 rfl (Nat.le_of_ble_eq_true rfl) rfl rfl dX8_here_57 (fun v48 v48l v48u v48w => ?_)
        have v48r : v5 = h.2.1 70 3 := v5w
        have v48q : TI v48 v5.toInt := by rw [v48w.trans v48r.symm]; exact (ti_rfl v5)
        refine gf_icmp_ge (pc := 60) (tgt := 79) v47q v48q (by decide) dX8_here_60 (fun q49 => ?_) (fun q49 => ?_)
        ·
          have k50 := if_t k46 q49
          refine go_iconst (pc := 79) (v := (-1)) (by decide) dX8_here_79 ?_
          exact False.elim (by have := ns.1; omega)
        ·
          have k51 := if_f k46 (Int.not_le.mpr q49)
          refine go_aload_n (pc := 63) rfl dX8_here_63 ?_
          refine gi_getF (pc := 64) (q := 72) hv fL_X8_13 rfl (Nat.le_of_ble_eq_true rfl) rfl (hv.rf (by decide)) dX8_here_64 ?_
          refine go_aload_n (pc := 67) rfl dX8_here_67 ?_
          refine gi_get (pc := 68) (lo := 0) (hi := 500) hv fL_X8_163 rfl (Nat.le_of_ble_eq_true rfl) rfl rfl dX8_here_68 (fun v52 v52l v52u v52w => ?_)
          have v52r : v2 = h.2.1 70 4 := v2w
          have v52q : TI v52 v2.toInt := by rw [v52w.trans v52r.symm]; exact (ti_rfl v2)
          refine gi_bald (pc := 71) (lo := -128) (hi := 127) (len := 500) hv v52q rfl (by omega) (by omega) (fun _ => rfl) dX8_here_71 (fun v53 v53l v53u v53w => ?_)
          have k54 := bd_e k51 (congrArg Int32.toInt v53w.symm)
          have k55 : (h.2.1 70 4).toInt = v2.toInt := by omega
          have k56 : v53 = h.2.1 72 (h.2.1 70 4).toInt.toNat := by rw [k55]; exact v53w
          have j57 : ¬ v53.toInt = 32 := by rw [k56]; exact ns.2.1
          have j58 : ¬ v53.toInt = 10 := by rw [k56]; exact ns.2.2.1
          refine go_sipush (pc := 72) (v := 255) (by decide) dX8_here_72 ?_
          refine gx_iand (pc := 75) dX8_here_75 (fun v59 v59x => ?_)
          have v59l : 0 ≤ v59.toInt := by rw [v59x]; exact (ti_mask (ti_c (v := 255) (a := 255) (by decide)) (by omega)).1
          have v59u : v59.toInt ≤ 255 := by rw [v59x]; exact (ti_mask (ti_c (v := 255) (a := 255) (by decide)) (by omega)).2
          have k60 := bd_e k54 (so_iand (ti_rfl v53) (ti_c (v := 255) (a := 255) (by decide)) v59x)
          refine go_goto (pc := 76) (tgt := 80) (by decide) dX8_here_76 ?_
          exact gi_iret (pc := 80) (ti_rfl v59) ⟨_, rfl, (by rw [show (v59 : Int32).toInt = v59.toInt from (ti_rfl v59)]; omega), (by rw [show (v59 : Int32).toInt = v59.toInt from (ti_rfl v59)]; omega), rfl, (by rw [v59x, k56]; exact ns.2.2.2.symm), (k60.symm.trans kf)⟩ hv dX8_here_80
      ·
        have k61 := if_f k40 (fun z => z q45)
        exact False.elim (by omega)
def f_X8_must (s : ST) (a2 : Int) : ST :=
  bd (f_X8_isGood s) fun v5 => if ¬ v5 = 0 then (bd2 (f_X8_here s) fun s13 v20 => bd (s13.1 70 4) fun u22 => if ¬ v20 = a2 then (bd (f_X8_fails s13 1) fun s34 => s34) else (bd (sI s13 70 4 ((u22 + 1))) fun s54 => s54)) else (s)
set_option maxHeartbeats 4000000 in
set_option maxRecDepth 100000 in
theorem s_X8_must_f (l : Launch) (d : Nat) {P : PP} {h : HP} (hv : Iv P h) (a2 : Int32) (a2l : 0 ≤ a2.toInt) (a2u : a2.toInt ≤ 255) : Mt l yX8_must cX8_must 2 none (d + 2) [.ref 70, .int a2] h 0 0 (fun r h' => r = none ∧ Iv P h' ∧ ((h'.2.1 70 5).toInt = 0 → (h.2.1 70 5).toInt = 0) ∧ ((h.2.1 70 4).toInt ≤ (h'.2.1 70 4).toInt) ∧ ((h'.2.1 70 5).toInt = 0 → (h.2.1 70 4).toInt + 1 ≤ (h'.2.1 70 4).toInt) ∧ (st h' = f_X8_must (st h) a2.toInt) ∧ (FX KRt h h')) := by
  refine Mt_iv hv (by decide) (Nat.le_of_ble_eq_true rfl) ?_
  show Go l RX8 cX8_must 2 (g_rm (d + 2) 0 0) "must" none 117 0 0 (fun _ _ => True) (fun r h' => r = none ∧ Iv P h' ∧ ((h'.2.1 70 5).toInt = 0 → (h.2.1 70 5).toInt = 0) ∧ ((h.2.1 70 4).toInt ≤ (h'.2.1 70 4).toInt) ∧ ((h'.2.1 70 5).toInt = 0 → (h.2.1 70 4).toInt + 1 ≤ (h'.2.1 70 4).toInt) ∧ (st h' = f_X8_must (st h) a2.toInt) ∧ (FX KRt h h')) 0 0 [(0, .ref 70), (1, .int a2)] [] h
  have fx : FX KRt h h := FX.rfl
  obtain ⟨fin, kf⟩ : ∃ z, z = f_X8_must (st h) a2.toInt := ⟨_, _root_.rfl⟩
  have k0 := kf
  unfold f_X8_must at k0
  refine go_aload_n (pc := 0) rfl dX8_must_0 ?_
  refine go_invV (pc := 1) (sl := 0) (s_X8_isGood_f l (d + 0) hv ) mL_X8_172 iM_X8_isGood sM_X8_isGood (hv.sh rfl) rfl rfl rfl (Nat.le_of_ble_eq_true rfl) (show d + 0 + 1 + 1 ≤ d + 2 by omega) (show 8 + (1 + 11) + 40 * (d + 0 + 1) ≤ 40 * (d + 2) by omega) (g_c0 hv.ln) (Nat.le_of_ble_eq_true rfl) dX8_must_1 ?_
  intro r h1 hq _
  obtain ⟨v5, rfl, v5l, v5u, rfl, f2, f3, f4⟩ := hq
  replace f4 : PE _ _ := f4
  have k6 := bd_e k0 f4.symm
  refine gf_if_ne (pc := 4) (tgt := 8) (ti_rfl v5) (by decide) dX8_must_4 (fun q7 => ?_) (fun q7 => ?_)
  ·
    have k8 := if_t k6 q7
    refine go_aload_n (pc := 8) rfl dX8_must_8 ?_
    have g9 : (0 : Int) ≤ (h.2.1 70 4).toInt := (hv.2.1 70 4).1
    have g10 : (h.2.1 70 4).toInt ≤ 500 := (hv.2.1 70 4).2
    have g11 : (-2147483648 : Int) ≤ (h.2.1 70 5).toInt := (hv.2.1 70 5).1
    have g12 : (h.2.1 70 5).toInt ≤ 2147483647 := (hv.2.1 70 5).2
    refine go_invV (pc := 9) (sl := 0) (s_X8_here_f l (d + 0) hv ) mL_X8_176 iM_X8_here sM_X8_here (hv.sh rfl) rfl rfl rfl (Nat.le_of_ble_eq_true rfl) (show d + 0 + 1 + 1 ≤ d + 2 by omega) (show 8 + (1 + 11) + 40 * (d + 0 + 1) ≤ 40 * (d + 2) by omega) (g_c0 hv.ln) (Nat.le_of_ble_eq_true rfl) dX8_must_9 ?_
    intro r h13 hq _
    obtain ⟨v20, rfl, v20l, v20u, hv13, f14, f15, f16, f17, f18, f19⟩ := hq
    have fx13 : FX KRt h h13 := FX.tr fx f19
    have k21 := bd2_e k8 f18
    obtain ⟨u22, u22w⟩ : ∃ v : Int32, v = h13.2.1 70 4 := ⟨_, rfl⟩
    have u22e : (h13.2.1 70 4).toInt = u22.toInt := by rw [u22w]
    have u22l : 0 ≤ u22.toInt := by rw [u22w]; exact (hv13.2.1 70 4).1
    have u22u : u22.toInt ≤ 500 := by rw [u22w]; exact (hv13.2.1 70 4).2
    have k23 := bd_e k21 (congrArg Int32.toInt u22w.symm)
    obtain ⟨u24, u24w⟩ : ∃ v : Int32, v = h13.2.1 70 5 := ⟨_, rfl⟩
    have u24e : (h13.2.1 70 5).toInt = u24.toInt := by rw [u24w]
    have u24l : -2147483648 ≤ u24.toInt := by rw [u24w]; exact (hv13.2.1 70 5).1
    have u24u : u24.toInt ≤ 2147483647 := by rw [u24w]; exact (hv13.2.1 70 5).2
    have k25 := k23
    refine go_iload_n (pc := 12) rfl dX8_must_12 ?_
    refine gf_icmp_ne (pc := 13) (tgt := 29) (ti_rfl v20) (ti_rfl a2) (by decide) dX8_must_13 (fun q26 => ?_) (fun q26 => ?_)
    ·
      have k27 := if_t k25 q26
      refine go_aload_n (pc := 29) rfl dX8_must_29 ?_
      refine go_iconst (pc := 30) (v := 1) (by decide) dX8_must_30 ?_
      have g28 : (0 : Int) ≤ (h13.2.1 70 4).toInt := (hv13.2.1 70 4).1
      have g29 : (h13.2.1 70 4).toInt ≤ 500 := (hv13.2.1 70 4).2
      have g30 : (-2147483648 : Int) ≤ (h13.2.1 70 5).toInt := (hv13.2.1 70 5).1
      have g31 : (h13.2.1 70 5).toInt ≤ 2147483647 := (hv13.2.1 70 5).2
      have g32 : (h13.2.1 70 4).toInt = u22.toInt := by rw [← (show u22 = h13.2.1 70 4 from u22w)] <;> exact (ti_rfl u22)
      have g33 : (h13.2.1 70 5).toInt = u24.toInt := by rw [← (show u24 = h13.2.1 70 5 from u24w)] <;> exact (ti_rfl u24)
      refine go_invV (pc := 31) (sl := 0) (s_X8_fails_f l (d + 0) hv13 1 (by rw [show (1 : Int32).toInt = 1 from (ti_c (v := 1) (a := 1) (by decide))]; omega) (by rw [show (1 : Int32).toInt = 1 from (ti_c (v := 1) (a := 1) (by decide))]; omega)) mL_X8_180 iM_X8_fails sM_X8_fails (hv13.sh rfl) rfl rfl rfl (Nat.le_of_ble_eq_true rfl) (show d + 0 + 1 + 1 ≤ d + 2 by omega) (show 8 + (2 + 11) + 40 * (d + 0 + 1) ≤ 40 * (d + 2) by omega) (g_c0 hv13.ln) (Nat.le_of_ble_eq_true rfl) dX8_must_31 ?_
      intro r h34 hq _
      obtain ⟨rfl, hv34, f35, f36, f37, f38⟩ := hq
      try rw [show (1 : Int32).toInt = 1 from (ti_c (v := 1) (a := 1) (by decide))] at f35
      try rw [show (1 : Int32).toInt = 1 from (ti_c (v := 1) (a := 1) (by decide))] at f36
      try rw [show (1 : Int32).toInt = 1 from (ti_c (v := 1) (a := 1) (by decide))] at f37
      try rw [show (1 : Int32).toInt = 1 from (ti_c (v := 1) (a := 1) (by decide))] at f38
      have fx34 : FX KRt h h34 := FX.tr fx13 f38
      have k39 := bd_e k27 f37.symm
      obtain ⟨u40, u40w⟩ : ∃ v : Int32, v = h34.2.1 70 4 := ⟨_, rfl⟩
      have u40e : (h34.2.1 70 4).toInt = u40.toInt := by rw [u40w]
      have u40l : 0 ≤ u40.toInt := by rw [u40w]; exact (hv34.2.1 70 4).1
      have u40u : u40.toInt ≤ 500 := by rw [u40w]; exact (hv34.2.1 70 4).2
      have k41 := k39
      obtain ⟨u42, u42w⟩ : ∃ v : Int32, v = h34.2.1 70 5 := ⟨_, rfl⟩
      have u42e : (h34.2.1 70 5).toInt = u42.toInt := by rw [u42w]
      have u42l : -2147483648 ≤ u42.toInt := by rw [u42w]; exact (hv34.2.1 70 5).1
      have u42u : u42.toInt ≤ 2147483647 := by rw [u42w]; exact (hv34.2.1 70 5).2
      have k43 := k41
      have g44 : (0 : Int) ≤ (h34.2.1 70 4).toInt := (hv34.2.1 70 4).1
      have g45 : (h34.2.1 70 4).toInt ≤ 500 := (hv34.2.1 70 4).2
      have g46 : (-2147483648 : Int) ≤ (h34.2.1 70 5).toInt := (hv34.2.1 70 5).1
      have g47 : (h34.2.1 70 5).toInt ≤ 2147483647 := (hv34.2.1 70 5).2
      have g48 : (h34.2.1 70 4).toInt = u40.toInt := by rw [← (show u40 = h34.2.1 70 4 from u40w)] <;> exact (ti_rfl u40)
      have g49 : (h34.2.1 70 5).toInt = u42.toInt := by rw [← (show u42 = h34.2.1 70 5 from u42w)] <;> exact (ti_rfl u42)
      exact gi_vret (pc := 34) ⟨rfl, hv34, (by omega), (by omega), (by omega), (k43.symm.trans kf), fx34⟩ hv34 dX8_must_34
    ·
      have k50 := if_f k25 (fun z => z q26)
      refine go_aload_n (pc := 16) rfl dX8_must_16 ?_
      refine go_dup (pc := 17) rfl dX8_must_17 ?_
      refine gi_get (pc := 18) (lo := 0) (hi := 500) hv13 fL_X8_163 rfl (Nat.le_of_ble_eq_true rfl) rfl rfl dX8_must_18 (fun v51 v51l v51u v51w => ?_)
      have v51r : u22 = h13.2.1 70 4 := u22w
      have v51q : TI v51 u22.toInt := by rw [v51w.trans v51r.symm]; exact (ti_rfl u22)
      refine go_iconst (pc := 21) (v := 1) (by decide) dX8_must_21 ?_
      refine gf_iadd (pc := 22) v51q (ti_c (v := 1) (a := 1) (by decide)) (by omega) (by omega) dX8_must_22 (fun v52 e53 => ?_)
      refine gi_put (pc := 23) (lo := 0) (hi := 500) hv13 e53 (fP_X8_163 _) rfl (Nat.le_of_ble_eq_true rfl) rfl rfl (by omega) (by omega) rfl rfl (by decide) (by decide) (by decide) (by decide) dX8_must_23 (fun h54 hv54 hv54e => ?_)
      have fx54 : FX KRt h h54 := FX.pI fx13 hv54e (by unfold KRt; omega)
      have k55 := bd_e k50 (st_I hv54e e53)
      refine go_goto (pc := 26) (tgt := 34) (by decide) dX8_must_26 ?_
      have g56 : (0 : Int) ≤ (h54.2.1 70 4).toInt := (hv54.2.1 70 4).1
      have g57 : (h54.2.1 70 4).toInt ≤ 500 := (hv54.2.1 70 4).2
      have g58 : (-2147483648 : Int) ≤ (h54.2.1 70 5).toInt := (hv54.2.1 70 5).1
      have g59 : (h54.2.1 70 5).toInt ≤ 2147483647 := (hv54.2.1 70 5).2
      have g60 : (h54.2.1 70 5).toInt = u24.toInt := by rw [← (show u24 = h54.2.1 70 5 from (show u24 = h54.2.1 70 5 from by rw [hv54e]; exact (g_iI rfl u24w.symm).symm))] <;> exact (ti_rfl u24)
      have g61 : (h54.2.1 70 4).toInt = (u22.toInt + 1) := by rw [← (show v52 = h54.2.1 70 4 from (show v52 = h54.2.1 70 4 from by rw [hv54e]; exact g_iS.symm))] <;> exact e53
      exact gi_vret (pc := 34) ⟨rfl, hv54, (by omega), (by omega), (by omega), (k55.symm.trans kf), fx54⟩ hv54 dX8_must_34
  ·
    have k62 := if_f k6 (fun z => z q7)
    have g63 : (0 : Int) ≤ (h.2.1 70 4).toInt := (hv.2.1 70 4).1
    have g64 : (h.2.1 70 4).toInt ≤ 500 := (hv.2.1 70 4).2
    have g65 : (-2147483648 : Int) ≤ (h.2.1 70 5).toInt := (hv.2.1 70 5).1
    have g66 : (h.2.1 70 5).toInt ≤ 2147483647 := (hv.2.1 70 5).2
    exact gi_vret (pc := 7) ⟨rfl, hv, (by omega), (by omega), (by omega), (k62.symm.trans kf), fx⟩ hv dX8_must_7
def f_X8_nameHere (s : ST) (a2 : Int) : ST × Int :=
  bd2 (f_X8_here s) fun s5 v12 => bd (f_X8_isIn s5 v12 97 102) fun v22 => if v22 = 0 then (if a2 = 0 then ((s5, (-1))) else (bd (f_X8_isIn s5 v12 119 122) fun v39 => if v39 = 0 then ((s5, (-1))) else ((s5, ((6 + v12) - 119))))) else ((s5, (v12 - 97)))
set_option maxHeartbeats 4000000 in
set_option maxRecDepth 100000 in
theorem s_X8_nameHere_f (l : Launch) (d : Nat) {P : PP} {h : HP} (hv : Iv P h) (a2 : Int32) (a2l : 0 ≤ a2.toInt) (a2u : a2.toInt ≤ 1) : Mt l yX8_nameHere cX8_nameHere 3 (some .int) (d + 2) [.ref 70, .int a2] h 0 0 (fun r h' => ∃ v : Int32, r = some (.int v) ∧ -1 ≤ v.toInt ∧ v.toInt ≤ 9 ∧ Iv P h' ∧ (0 ≤ v.toInt → (h'.2.1 70 4).toInt ≤ 499) ∧ (a2.toInt = 0 → v.toInt ≤ 5) ∧ ((h.2.1 70 4).toInt ≤ (h'.2.1 70 4).toInt) ∧ ((h'.2.1 70 5).toInt = (h.2.1 70 5).toInt) ∧ (0 ≤ v.toInt → ∃ c0, NS h' c0) ∧ ((st h', v.toInt) = f_X8_nameHere (st h) a2.toInt) ∧ (FX KRt h h')) := by
  refine Mt_iv hv (by decide) (Nat.le_of_ble_eq_true rfl) ?_
  show Go l RX8 cX8_nameHere 3 (g_rm (d + 2) 0 0) "nameHere" (some .int) 117 0 0 (fun _ _ => True) (fun r h' => ∃ v : Int32, r = some (.int v) ∧ -1 ≤ v.toInt ∧ v.toInt ≤ 9 ∧ Iv P h' ∧ (0 ≤ v.toInt → (h'.2.1 70 4).toInt ≤ 499) ∧ (a2.toInt = 0 → v.toInt ≤ 5) ∧ ((h.2.1 70 4).toInt ≤ (h'.2.1 70 4).toInt) ∧ ((h'.2.1 70 5).toInt = (h.2.1 70 5).toInt) ∧ (0 ≤ v.toInt → ∃ c0, NS h' c0) ∧ ((st h', v.toInt) = f_X8_nameHere (st h) a2.toInt) ∧ (FX KRt h h')) 0 0 [(0, .ref 70), (1, .int a2)] [] h
  have fx : FX KRt h h := FX.rfl
  obtain ⟨fin, kf⟩ : ∃ z, z = f_X8_nameHere (st h) a2.toInt := ⟨_, _root_.rfl⟩
  have k0 := kf
  unfold f_X8_nameHere at k0
  refine go_aload_n (pc := 0) rfl dX8_nameHere_0 ?_
  have g1 : (0 : Int) ≤ (h.2.1 70 4).toInt := (hv.2.1 70 4).1
  have g2 : (h.2.1 70 4).toInt ≤ 500 := (hv.2.1 70 4).2
  have g3 : (-2147483648 : Int) ≤ (h.2.1 70 5).toInt := (hv.2.1 70 5).1
  have g4 : (h.2.1 70 5).toInt ≤ 2147483647 := (hv.2.1 70 5).2
  refine go_invV (pc := 1) (sl := 0) (s_X8_here_f l (d + 0) hv ) mL_X8_176 iM_X8_here sM_X8_here (hv.sh rfl) rfl rfl rfl (Nat.le_of_ble_eq_true rfl) (show d + 0 + 1 + 1 ≤ d + 2 by omega) (show 8 + (1 + 11) + 40 * (d + 0 + 1) ≤ 40 * (d + 2) by omega) (g_c0 hv.ln) (Nat.le_of_ble_eq_true rfl) dX8_nameHere_1 ?_
  intro r h5 hq _
  obtain ⟨v12, rfl, v12l, v12u, hv5, f6, f7, f8, f9, f10, f11⟩ := hq
  have fx5 : FX KRt h h5 := FX.tr fx f11
  have k13 := bd2_e k0 f10
  obtain ⟨u14, u14w⟩ : ∃ v : Int32, v = h5.2.1 70 4 := ⟨_, rfl⟩
  have u14e : (h5.2.1 70 4).toInt = u14.toInt := by rw [u14w]
  have u14l : 0 ≤ u14.toInt := by rw [u14w]; exact (hv5.2.1 70 4).1
  have u14u : u14.toInt ≤ 500 := by rw [u14w]; exact (hv5.2.1 70 4).2
  have k15 := k13
  obtain ⟨u16, u16w⟩ : ∃ v : Int32, v = h5.2.1 70 5 := ⟨_, rfl⟩
  have u16e : (h5.2.1 70 5).toInt = u16.toInt := by rw [u16w]
  have u16l : -2147483648 ≤ u16.toInt := by rw [u16w]; exact (hv5.2.1 70 5).1
  have u16u : u16.toInt ≤ 2147483647 := by rw [u16w]; exact (hv5.2.1 70 5).2
  have k17 := k15
  refine go_istore_n (pc := 4) (Nat.le_of_ble_eq_true rfl) dX8_nameHere_4 (go_lv (lv2 := [(0, .ref 70), (1, .int a2), (2, .int v12)]) rfl ?_)
  refine go_iload_n (pc := 5) rfl dX8_nameHere_5 ?_
  refine go_bipush (pc := 6) (v := 97) (by decide) dX8_nameHere_6 ?_
  refine go_bipush (pc := 8) (v := 102) (by decide) dX8_nameHere_8 ?_
  refine go_invS (pc := 10) (sl := 0) (s_X8_isIn_f l (d + 0) hv5 v12 97 102) mL_X8_159 iM_X8_isIn rfl rfl (Nat.le_of_ble_eq_true rfl) (show d + 0 + 1 + 1 ≤ d + 2 by omega) (show 8 + (3 + 11) + 40 * (d + 0 + 1) ≤ 40 * (d + 2) by omega) (g_c0 hv5.ln) (Nat.le_of_ble_eq_true rfl) dX8_nameHere_10 ?_
  intro r h18 hq _
  obtain ⟨v22, rfl, v22l, v22u, rfl, f19, f20, f21⟩ := hq
  try rw [show (97 : Int32).toInt = 97 from (ti_c (v := 97) (a := 97) (by decide))] at f19
  try rw [show (102 : Int32).toInt = 102 from (ti_c (v := 102) (a := 102) (by decide))] at f19
  try rw [show (97 : Int32).toInt = 97 from (ti_c (v := 97) (a := 97) (by decide))] at f20
  try rw [show (102 : Int32).toInt = 102 from (ti_c (v := 102) (a := 102) (by decide))] at f20
  try rw [show (97 : Int32).toInt = 97 from (ti_c (v := 97) (a := 97) (by decide))] at f21
  try rw [show (102 : Int32).toInt = 102 from (ti_c (v := 102) (a := 102) (by decide))] at f21
  replace f21 : PE _ _ := f21
  have k23 := bd_e k17 f21.symm
  refine gf_if_eq (pc := 13) (tgt := 21) (ti_rfl v22) (by decide) dX8_nameHere_13 (fun q24 => ?_) (fun q24 => ?_)
  ·
    have k25 := if_t k23 q24
    refine go_iload_n (pc := 21) rfl dX8_nameHere_21 ?_
    refine gf_if_eq (pc := 22) (tgt := 46) (ti_rfl a2) (by decide) dX8_nameHere_22 (fun q26 => ?_) (fun q26 => ?_)
    ·
      have k27 := if_t k25 q26
      refine go_iconst (pc := 46) (v := (-1)) (by decide) dX8_nameHere_46 ?_
      have g28 : (0 : Int) ≤ (h5.2.1 70 4).toInt := (hv5.2.1 70 4).1
      have g29 : (h5.2.1 70 4).toInt ≤ 500 := (hv5.2.1 70 4).2
      have g30 : (-2147483648 : Int) ≤ (h5.2.1 70 5).toInt := (hv5.2.1 70 5).1
      have g31 : (h5.2.1 70 5).toInt ≤ 2147483647 := (hv5.2.1 70 5).2
      have g32 : (h5.2.1 70 4).toInt = u14.toInt := by rw [← (show u14 = h5.2.1 70 4 from u14w)] <;> exact (ti_rfl u14)
      have g33 : (h5.2.1 70 5).toInt = u16.toInt := by rw [← (show u16 = h5.2.1 70 5 from u16w)] <;> exact (ti_rfl u16)
      exact gi_iret (pc := 47) (ti_c (v := (-1)) (a := (-1)) (by decide)) ⟨_, rfl, (by rw [show ((-1) : Int32).toInt = (-1) from (ti_c (v := (-1)) (a := (-1)) (by decide))]; omega), (by rw [show ((-1) : Int32).toInt = (-1) from (ti_c (v := (-1)) (a := (-1)) (by decide))]; omega), hv5, (by rw [show ((-1) : Int32).toInt = (-1) from (ti_c (v := (-1)) (a := (-1)) (by decide))]; omega), (by rw [show ((-1) : Int32).toInt = (-1) from (ti_c (v := (-1)) (a := (-1)) (by decide))]; omega), (by omega), (by omega), (fun q => absurd q (by decide)), (by rw [show ((-1) : Int32).toInt = (-1) from (ti_c (v := (-1)) (a := (-1)) (by decide))]; exact k27.symm.trans kf), fx5⟩ hv5 dX8_nameHere_47
    ·
      have k34 := if_f k25 q26
      refine go_iload_n (pc := 25) rfl dX8_nameHere_25 ?_
      refine go_bipush (pc := 26) (v := 119) (by decide) dX8_nameHere_26 ?_
      refine go_bipush (pc := 28) (v := 122) (by decide) dX8_nameHere_28 ?_
      refine go_invS (pc := 30) (sl := 0) (s_X8_isIn_f l (d + 0) hv5 v12 119 122) mL_X8_159 iM_X8_isIn rfl rfl (Nat.le_of_ble_eq_true rfl) (show d + 0 + 1 + 1 ≤ d + 2 by omega) (show 8 + (3 + 11) + 40 * (d + 0 + 1) ≤ 40 * (d + 2) by omega) (g_c0 hv5.ln) (Nat.le_of_ble_eq_true rfl) dX8_nameHere_30 ?_
      intro r h35 hq _
      obtain ⟨v39, rfl, v39l, v39u, rfl, f36, f37, f38⟩ := hq
      try rw [show (119 : Int32).toInt = 119 from (ti_c (v := 119) (a := 119) (by decide))] at f36
      try rw [show (122 : Int32).toInt = 122 from (ti_c (v := 122) (a := 122) (by decide))] at f36
      try rw [show (119 : Int32).toInt = 119 from (ti_c (v := 119) (a := 119) (by decide))] at f37
      try rw [show (122 : Int32).toInt = 122 from (ti_c (v := 122) (a := 122) (by decide))] at f37
      try rw [show (119 : Int32).toInt = 119 from (ti_c (v := 119) (a := 119) (by decide))] at f38
      try rw [show (122 : Int32).toInt = 122 from (ti_c (v := 122) (a := 122) (by decide))] at f38
      replace f38 : PE _ _ := f38
      have k40 := bd_e k34 f38.symm
      refine gf_if_eq (pc := 33) (tgt := 46) (ti_rfl v39) (by decide) dX8_nameHere_33 (fun q41 => ?_) (fun q41 => ?_)
      ·
        have k42 := if_t k40 q41
        refine go_iconst (pc := 46) (v := (-1)) (by decide) dX8_nameHere_46 ?_
        have g43 : (0 : Int) ≤ (h5.2.1 70 4).toInt := (hv5.2.1 70 4).1
        have g44 : (h5.2.1 70 4).toInt ≤ 500 := (hv5.2.1 70 4).2
        have g45 : (-2147483648 : Int) ≤ (h5.2.1 70 5).toInt := (hv5.2.1 70 5).1
        have g46 : (h5.2.1 70 5).toInt ≤ 2147483647 := (hv5.2.1 70 5).2
        have g47 : (h5.2.1 70 4).toInt = u14.toInt := by rw [← (show u14 = h5.2.1 70 4 from u14w)] <;> exact (ti_rfl u14)
        have g48 : (h5.2.1 70 5).toInt = u16.toInt := by rw [← (show u16 = h5.2.1 70 5 from u16w)] <;> exact (ti_rfl u16)
        exact gi_iret (pc := 47) (ti_c (v := (-1)) (a := (-1)) (by decide)) ⟨_, rfl, (by rw [show ((-1) : Int32).toInt = (-1) from (ti_c (v := (-1)) (a := (-1)) (by decide))]; omega), (by rw [show ((-1) : Int32).toInt = (-1) from (ti_c (v := (-1)) (a := (-1)) (by decide))]; omega), hv5, (by rw [show ((-1) : Int32).toInt = (-1) from (ti_c (v := (-1)) (a := (-1)) (by decide))]; omega), (by rw [show ((-1) : Int32).toInt = (-1) from (ti_c (v := (-1)) (a := (-1)) (by decide))]; omega), (by omega), (by omega), (fun q => absurd q (by decide)), (by rw [show ((-1) : Int32).toInt = (-1) from (ti_c (v := (-1)) (a := (-1)) (by decide))]; exact k42.symm.trans kf), fx5⟩ hv5 dX8_nameHere_47
      ·
        have k49 := if_f k40 q41
        refine go_bipush (pc := 36) (v := 6) (by decide) dX8_nameHere_36 ?_
        refine go_iload_n (pc := 38) rfl dX8_nameHere_38 ?_
        refine gf_iadd (pc := 39) (ti_c (v := 6) (a := 6) (by decide)) (ti_rfl v12) (by omega) (by omega) dX8_nameHere_39 (fun v50 e51 => ?_)
        refine go_bipush (pc := 40) (v := 119) (by decide) dX8_nameHere_40 ?_
        refine gf_isub (pc := 42) e51 (ti_c (v := 119) (a := 119) (by decide)) (by omega) (by omega) dX8_nameHere_42 (fun v52 e53 => ?_)
        refine go_goto (pc := 43) (tgt := 47) (by decide) dX8_nameHere_43 ?_
        have g54 : (0 : Int) ≤ (h5.2.1 70 4).toInt := (hv5.2.1 70 4).1
        have g55 : (h5.2.1 70 4).toInt ≤ 500 := (hv5.2.1 70 4).2
        have g56 : (-2147483648 : Int) ≤ (h5.2.1 70 5).toInt := (hv5.2.1 70 5).1
        have g57 : (h5.2.1 70 5).toInt ≤ 2147483647 := (hv5.2.1 70 5).2
        have g58 : (h5.2.1 70 4).toInt = u14.toInt := by rw [← (show u14 = h5.2.1 70 4 from u14w)] <;> exact (ti_rfl u14)
        have g59 : (h5.2.1 70 5).toInt = u16.toInt := by rw [← (show u16 = h5.2.1 70 5 from u16w)] <;> exact (ti_rfl u16)
        exact gi_iret (pc := 47) e53 ⟨_, rfl, (by rw [show (v52 : Int32).toInt = ((6 + v12.toInt) - 119) from e53]; omega), (by rw [show (v52 : Int32).toInt = ((6 + v12.toInt) - 119) from e53]; omega), hv5, (by rw [show (v52 : Int32).toInt = ((6 + v12.toInt) - 119) from e53]; omega), (by rw [show (v52 : Int32).toInt = ((6 + v12.toInt) - 119) from e53]; omega), (by omega), (by omega), (fun _ => ⟨_, f9 (by omega)⟩), (by rw [show (v52 : Int32).toInt = ((6 + v12.toInt) - 119) from e53]; exact k49.symm.trans kf), fx5⟩ hv5 dX8_nameHere_47
  ·
    have k60 := if_f k23 q24
    refine go_iload_n (pc := 16) rfl dX8_nameHere_16 ?_
    refine go_bipush (pc := 17) (v := 97) (by decide) dX8_nameHere_17 ?_
    refine gf_isub (pc := 19) (ti_rfl v12) (ti_c (v := 97) (a := 97) (by decide)) (by omega) (by omega) dX8_nameHere_19 (fun v61 e62 => ?_)
    have g63 : (0 : Int) ≤ (h5.2.1 70 4).toInt := (hv5.2.1 70 4).1
    have g64 : (h5.2.1 70 4).toInt ≤ 500 := (hv5.2.1 70 4).2
    have g65 : (-2147483648 : Int) ≤ (h5.2.1 70 5).toInt := (hv5.2.1 70 5).1
    have g66 : (h5.2.1 70 5).toInt ≤ 2147483647 := (hv5.2.1 70 5).2
    have g67 : (h5.2.1 70 4).toInt = u14.toInt := by rw [← (show u14 = h5.2.1 70 4 from u14w)] <;> exact (ti_rfl u14)
    have g68 : (h5.2.1 70 5).toInt = u16.toInt := by rw [← (show u16 = h5.2.1 70 5 from u16w)] <;> exact (ti_rfl u16)
    exact gi_iret (pc := 20) e62 ⟨_, rfl, (by rw [show (v61 : Int32).toInt = (v12.toInt - 97) from e62]; omega), (by rw [show (v61 : Int32).toInt = (v12.toInt - 97) from e62]; omega), hv5, (by rw [show (v61 : Int32).toInt = (v12.toInt - 97) from e62]; omega), (by rw [show (v61 : Int32).toInt = (v12.toInt - 97) from e62]; omega), (by omega), (by omega), (fun _ => ⟨_, f9 (by omega)⟩), (by rw [show (v61 : Int32).toInt = (v12.toInt - 97) from e62]; exact k60.symm.trans kf), fx5⟩ hv5 dX8_nameHere_20
def f_X8_operand_ : Nat → Nat → Int → Int → Int → Int → ST → ST
  | 0, _, _, _, _, _, sx => sx
  | n + 1, _, l1, l2, l5, l6, sx => bd (sx.1 70 3) fun v1 => if v1 ≤ l6 then (bd (sx.1 70 4) fun v6 => if (l6 - v6) ≤ 3 then (bd (sI sx 89 (((2 * l1) + l2)).toNat l5) fun s17 => bd (f_X8_isGood s17) fun v23 => if v23 = 0 then (s17) else (bd (sI s17 70 4 l6) fun s44 => s44)) else (bd (f_X8_fails sx 2) fun s71 => bd (sI s71 89 (((2 * l1) + l2)).toNat l5) fun s87 => bd (f_X8_isGood s87) fun v93 => if v93 = 0 then (s87) else (bd (sI s87 70 4 l6) fun s115 => s115))) else (bd (sx.1 72 (l6).toNat) fun v135 => bd (f_X8_isIn sx v135 48 57) fun v141 => if v141 = 0 then (bd (sx.1 70 4) fun v145 => if (l6 - v145) ≤ 3 then (bd (sI sx 89 (((2 * l1) + l2)).toNat l5) fun s156 => bd (f_X8_isGood s156) fun v162 => if v162 = 0 then (s156) else (bd (sI s156 70 4 l6) fun s183 => s183)) else (bd (f_X8_fails sx 2) fun s210 => bd (sI s210 89 (((2 * l1) + l2)).toNat l5) fun s226 => bd (f_X8_isGood s226) fun v232 => if v232 = 0 then (s226) else (bd (sI s226 70 4 l6) fun s254 => s254))) else (bd (sx.1 70 4) fun v274 => if 4 ≤ (l6 - v274) then (f_X8_operand_ n 78 l1 l2 l5 ((l6 + 1)) sx) else (bd (sx.1 72 (l6).toNat) fun v296 => f_X8_operand_ n 78 l1 l2 ((((10 * l5) + v296) - 48)) ((l6 + 1)) sx)))
def f_X8_operand (s : ST) (a2 : Int) (a3 : Int) : ST :=
  bd (f_X8_isGood s) fun v322 => if ¬ v322 = 0 then (bd2 (f_X8_nameHere s 1) fun s332 v340 => bd (s332.1 70 4) fun u344 => if 0 ≤ v340 then (bd (sI s332 89 (((2 * a2) + a3)).toNat ((1000 + v340))) fun s362 => bd (sI s362 70 4 ((u344 + 1))) fun s367 => s367) else (bd2 (f_X8_here s332) fun s396 v403 => bd (s396.1 70 4) fun u407 => bd (f_X8_isIn s396 v403 48 57) fun v416 => if ¬ v416 = 0 then (f_X8_operand_ 1519 78 a2 a3 0 u407 s396) else (bd (f_X8_fails s396 1) fun s442 => s442))) else (s)
set_option maxHeartbeats 4000000 in
set_option maxRecDepth 100000 in
theorem s_X8_operand_f (l : Launch) (d : Nat) {P : PP} {h : HP} (hv : Iv P h) (a2 : Int32) (a2l : 0 ≤ a2.toInt) (a2u : a2.toInt ≤ 259) (a3 : Int32) (a3l : 0 ≤ a3.toInt) (a3u : a3.toInt ≤ 1) (hi : 130 * (h.2.1 70 6).toInt ≤ a2.toInt ∧ a2.toInt < 130 * (h.2.1 70 6).toInt + 130) : Mt l yX8_operand cX8_operand 7 none (d + 3) [.ref 70, .int a2, .int a3] h 0 0 (fun r h' => r = none ∧ (∃ Q : PP, Iv Q h' ∧ MW P Q) ∧ ((h'.2.1 70 5).toInt = 0 → (h.2.1 70 5).toInt = 0) ∧ ((h.2.1 70 4).toInt ≤ (h'.2.1 70 4).toInt) ∧ ((h'.2.1 70 5).toInt = 0 → OP h.2.1 h'.2.1) ∧ (V h'.2.1 73 (h.2.1 70 6).toInt = V h.2.1 73 (h.2.1 70 6).toInt) ∧ (V h'.2.1 74 (h.2.1 70 6).toInt = V h.2.1 74 (h.2.1 70 6).toInt) ∧ (V h'.2.1 75 (h.2.1 70 6).toInt = V h.2.1 75 (h.2.1 70 6).toInt) ∧ (st h' = f_X8_operand (st h) a2.toInt a3.toInt) ∧ (FX KRt h h') ∧ (KP h.2.1 h'.2.1) ∧ (OH h.2.1 h'.2.1 (h.2.1 70 6).toInt) ∧ (CKF h.2.1 → CKF h'.2.1)) := by
  refine Mt_iv hv (by decide) (Nat.le_of_ble_eq_true rfl) ?_
  show Go l RX8 cX8_operand 7 (g_rm (d + 3) 0 0) "operand" none 117 0 0 (fun _ _ => True) (fun r h' => r = none ∧ (∃ Q : PP, Iv Q h' ∧ MW P Q) ∧ ((h'.2.1 70 5).toInt = 0 → (h.2.1 70 5).toInt = 0) ∧ ((h.2.1 70 4).toInt ≤ (h'.2.1 70 4).toInt) ∧ ((h'.2.1 70 5).toInt = 0 → OP h.2.1 h'.2.1) ∧ (V h'.2.1 73 (h.2.1 70 6).toInt = V h.2.1 73 (h.2.1 70 6).toInt) ∧ (V h'.2.1 74 (h.2.1 70 6).toInt = V h.2.1 74 (h.2.1 70 6).toInt) ∧ (V h'.2.1 75 (h.2.1 70 6).toInt = V h.2.1 75 (h.2.1 70 6).toInt) ∧ (st h' = f_X8_operand (st h) a2.toInt a3.toInt) ∧ (FX KRt h h') ∧ (KP h.2.1 h'.2.1) ∧ (OH h.2.1 h'.2.1 (h.2.1 70 6).toInt) ∧ (CKF h.2.1 → CKF h'.2.1)) 0 0 [(0, .ref 70), (1, .int a2), (2, .int a3)] [] h
  obtain ⟨S, hS⟩ : ∃ S : Int, S = (h.2.1 70 6).toInt := ⟨_, rfl⟩
  have S0 : 0 ≤ S := by rw [hS]; exact (hv.2.1 70 6).1
  have S1 : S ≤ 1 := by rw [hS]; exact (hv.2.1 70 6).2
  have oh : OH h.2.1 h.2.1 S := OH.rfl _ _
  have ck : CKF h.2.1 → CKF h.2.1 := id
  have kp : KP h.2.1 h.2.1 := KP.rfl _
  rw [← hS] at hi
  have fx : FX KRt h h := FX.rfl
  obtain ⟨fin, kf⟩ : ∃ z, z = f_X8_operand (st h) a2.toInt a3.toInt := ⟨_, _root_.rfl⟩
  have k0 := kf
  unfold f_X8_operand at k0
  have key : ∀ n : Nat, (∀ (l1 : Int32) (l2 : Int32) (l5 : Int32) (l6 : Int32) (Qx : PP) (hx : HP), Iv Qx hx → MW P Qx → 0 ≤ l1.toInt → l1.toInt ≤ 259 → 0 ≤ l2.toInt → l2.toInt ≤ 1 → 0 ≤ l5.toInt → l5.toInt ≤ 11115 → 0 ≤ l6.toInt → l6.toInt ≤ 500 → (VE h.2.1 hx.2.1) → (l1.toInt = a2.toInt) → (l2.toInt = a3.toInt) → (l5.toInt ≤ 9999) → ((hx.2.1 70 5).toInt = 0) → ((h.2.1 70 5).toInt = 0) → ((h.2.1 70 4).toInt ≤ (hx.2.1 70 4).toInt) → ((hx.2.1 70 4).toInt ≤ l6.toInt) → (l6.toInt = (hx.2.1 70 4).toInt → l5.toInt = 0) → (l6.toInt = (hx.2.1 70 4).toInt + 1 → l5.toInt ≤ 9) → (l6.toInt = (hx.2.1 70 4).toInt + 2 → l5.toInt ≤ 99) → (l6.toInt = (hx.2.1 70 4).toInt + 3 → l5.toInt ≤ 999) → OH h.2.1 hx.2.1 S → (CKF h.2.1 → CKF hx.2.1) → KP h.2.1 hx.2.1 → (0 : Int) ≤ (hx.2.1 70 3).toInt → (hx.2.1 70 3).toInt ≤ 500 → (0 : Int) ≤ (hx.2.1 70 4).toInt → (hx.2.1 70 4).toInt ≤ 500 → (-2147483648 : Int) ≤ (hx.2.1 70 5).toInt → (hx.2.1 70 5).toInt ≤ 2147483647 → FX KRt h hx → fin = f_X8_operand_ n 78 l1.toInt l2.toInt l5.toInt l6.toInt (st hx) → (3 * (500 - l6.toInt) + 2 : Int) < n → Go l RX8 cX8_operand 7 (g_rm (d + 3) 0 0) "operand" none 117 0 0 (fun _ _ => True) (fun r h' => r = none ∧ (∃ Q : PP, Iv Q h' ∧ MW P Q) ∧ ((h'.2.1 70 5).toInt = 0 → (h.2.1 70 5).toInt = 0) ∧ ((h.2.1 70 4).toInt ≤ (h'.2.1 70 4).toInt) ∧ ((h'.2.1 70 5).toInt = 0 → OP h.2.1 h'.2.1) ∧ (V h'.2.1 73 (h.2.1 70 6).toInt = V h.2.1 73 (h.2.1 70 6).toInt) ∧ (V h'.2.1 74 (h.2.1 70 6).toInt = V h.2.1 74 (h.2.1 70 6).toInt) ∧ (V h'.2.1 75 (h.2.1 70 6).toInt = V h.2.1 75 (h.2.1 70 6).toInt) ∧ (st h' = f_X8_operand (st h) a2.toInt a3.toInt) ∧ (FX KRt h h') ∧ (KP h.2.1 h'.2.1) ∧ (OH h.2.1 h'.2.1 (h.2.1 70 6).toInt) ∧ (CKF h.2.1 → CKF h'.2.1)) 0 78 [(0, .ref 70), (1, .int l1), (2, .int l2), (5, .int l5), (6, .int l6)] [] hx) := by
    intro n
    induction n with
    | zero => exact (by intros; omega)
    | succ n ih =>
      refine ?_
      ·
        intro l1 l2 l5 l6 Qx hx hvx sqx l1l l1u l2l l2u l5l l5u l6l l6u x0 x1 x2 x3 x4 x5 x6 x7 x8 x9 x10 x11 ohx ckx kpx y0l y0u y1l y1u y2l y2u fxx kL hm
        rw [f_X8_operand_] at kL
        have xve := x0
        have n73_x : V hx.2.1 73 S = V h.2.1 73 S := x0.v (by omega) (by omega)
        have n74_x : V hx.2.1 74 S = V h.2.1 74 S := x0.v (by omega) (by omega)
        have n75_x : V hx.2.1 75 S = V h.2.1 75 S := x0.v (by omega) (by omega)
        refine go_iload (pc := 78) rfl dX8_operand_78 ?_
        refine go_aload_n (pc := 80) rfl dX8_operand_80 ?_
        refine gi_get (pc := 81) (lo := 0) (hi := 500) hvx fL_X8_166 rfl (Nat.le_of_ble_eq_true rfl) rfl rfl dX8_operand_81 (fun v1 v1l v1u v1w => ?_)
        have k2 := bd_e kL (congrArg Int32.toInt v1w.symm)
        have g3 : (hx.2.1 70 3).toInt = v1.toInt := by rw [v1w]
        refine gf_icmp_ge (pc := 84) (tgt := 144) (ti_rfl l6) (ti_rfl v1) (by decide) dX8_operand_84 (fun q4 => ?_) (fun q4 => ?_)
        ·
          have k5 := if_t k2 q4
          refine go_iload (pc := 144) rfl dX8_operand_144 ?_
          refine go_aload_n (pc := 146) rfl dX8_operand_146 ?_
          refine gi_get (pc := 147) (lo := 0) (hi := 500) hvx fL_X8_163 rfl (Nat.le_of_ble_eq_true rfl) rfl rfl dX8_operand_147 (fun v6 v6l v6u v6w => ?_)
          have k7 := bd_e k5 (congrArg Int32.toInt v6w.symm)
          have g8 : (hx.2.1 70 4).toInt = v6.toInt := by rw [v6w]
          refine gf_isub (pc := 150) (ti_rfl l6) (ti_rfl v6) (by omega) (by omega) dX8_operand_150 (fun v9 e10 => ?_)
          refine go_iconst (pc := 151) (v := 3) (by decide) dX8_operand_151 ?_
          refine gf_icmp_le (pc := 152) (tgt := 160) e10 (ti_c (v := 3) (a := 3) (by decide)) (by decide) dX8_operand_152 (fun q11 => ?_) (fun q11 => ?_)
          ·
            have k12 := if_t k7 q11
            refine go_aload_n (pc := 160) rfl dX8_operand_160 ?_
            refine gi_getF (pc := 161) (q := 89) hvx fL_X8_65 rfl (Nat.le_of_ble_eq_true rfl) rfl (hvx.rf (by decide)) dX8_operand_161 ?_
            refine go_iconst (pc := 164) (v := 2) (by decide) dX8_operand_164 ?_
            refine go_iload_n (pc := 165) rfl dX8_operand_165 ?_
            refine gf_imul (pc := 166) (ti_c (v := 2) (a := 2) (by decide)) (ti_rfl l1) (by omega) (by omega) dX8_operand_166 (fun v13 e14 => ?_)
            refine go_iload_n (pc := 167) rfl dX8_operand_167 ?_
            refine gf_iadd (pc := 168) e14 (ti_rfl l2) (by omega) (by omega) dX8_operand_168 (fun v15 e16 => ?_)
            refine go_iload (pc := 169) rfl dX8_operand_169 ?_
            refine gi_fst (pc := 171) (lo := 0) (hi := 9999) (len := 520) hvx e16 (ti_rfl l5) rfl (by omega) (by omega) (fun _ => rfl) (by omega) (by omega) (by omega) dX8_operand_171 (fun h17 hv17 hv17e => ?_)
            have fx17 : FX KRt h h17 := FX.pI fxx hv17e (by unfold KRt; omega)
            have k18 := bd_e k12 (st_I hv17e (ti_rfl l5))
            refine go_aload_n (pc := 172) rfl dX8_operand_172 ?_
            refine go_invV (pc := 173) (sl := 0) (s_X8_isGood_f l (d + 1) hv17 ) mL_X8_172 iM_X8_isGood sM_X8_isGood (hv17.sh rfl) rfl rfl rfl (Nat.le_of_ble_eq_true rfl) (show d + 1 + 1 + 1 ≤ d + 3 by omega) (show 8 + (1 + 11) + 40 * (d + 1 + 1) ≤ 40 * (d + 3) by omega) (g_c0 hv17.ln) (Nat.le_of_ble_eq_true rfl) dX8_operand_173 ?_
            intro r h19 hq _
            obtain ⟨v23, rfl, v23l, v23u, rfl, f20, f21, f22⟩ := hq
            replace f22 : PE _ _ := f22
            have k24 := bd_e k18 f22.symm
            have E17 : h17.2.1 = (w1 hx.2.1 89 (((2 * l1.toInt) + l2.toInt)) (l5 : Int32)) := by
              rw [hv17e]
              rfl
            have oh17 : OH h.2.1 h17.2.1 S := by rw [E17]; exact (ohx.trans (OH.w 260 rfl (by omega) (by omega) (by omega) (by omega)))
            have kp17 : KP h.2.1 h17.2.1 := by rw [E17]; exact (kpx.trans (KP.w (by omega)))
            have n73_17 : V h17.2.1 73 S = V hx.2.1 73 S := by rw [E17, V_ne (by omega)]
            have n74_17 : V h17.2.1 74 S = V hx.2.1 74 S := by rw [E17, V_ne (by omega)]
            have n75_17 : V h17.2.1 75 S = V hx.2.1 75 S := by rw [E17, V_ne (by omega)]
            have ck17 : CKF h.2.1 → CKF h17.2.1 := fun z => by rw [E17]; exact (CKF.w (by omega) (ckx z))
            refine gf_if_eq (pc := 176) (tgt := 185) (ti_rfl v23) (by decide) dX8_operand_176 (fun q25 => ?_) (fun q25 => ?_)
            ·
              have k26 := if_t k24 q25
              have g27 : (0 : Int) ≤ (h17.2.1 70 3).toInt := (hv17.2.1 70 3).1
              have g28 : (h17.2.1 70 3).toInt ≤ 500 := (hv17.2.1 70 3).2
              have g29 : (0 : Int) ≤ (h17.2.1 70 4).toInt := (hv17.2.1 70 4).1
              have g30 : (h17.2.1 70 4).toInt ≤ 500 := (hv17.2.1 70 4).2
              have g31 : (-2147483648 : Int) ≤ (h17.2.1 70 5).toInt := (hv17.2.1 70 5).1
              have g32 : (h17.2.1 70 5).toInt ≤ 2147483647 := (hv17.2.1 70 5).2
              have g33 : (h17.2.1 70 3).toInt = v1.toInt := by rw [← (show v1 = h17.2.1 70 3 from (show v1 = h17.2.1 70 3 from by rw [hv17e]; exact (g_iI rfl v1w.symm).symm))] <;> exact (ti_rfl v1)
              have g34 : (h17.2.1 70 4).toInt = v6.toInt := by rw [← (show v6 = h17.2.1 70 4 from (show v6 = h17.2.1 70 4 from by rw [hv17e]; exact (g_iI rfl v6w.symm).symm))] <;> exact (ti_rfl v6)
              have pp35 : (h17.2.1 70 5).toInt = 0 → (h.2.1 70 5).toInt = 0 := (by omega)
              have pp36 : (h.2.1 70 4).toInt ≤ (h17.2.1 70 4).toInt := (by omega)
              have pp37 : (h17.2.1 70 5).toInt = 0 → OP h.2.1 h17.2.1 := (fun hg => ((OP.ve xve).trans (by rw [E17]; exact ((OP.rfl _).trans (OP.w9 (by rw [show (l5 : Int32).toInt = l5.toInt from (ti_rfl l5)]; omega))))))
              have pp38 : V h17.2.1 73 S = V h.2.1 73 S := (by omega)
              have pp39 : V h17.2.1 74 S = V h.2.1 74 S := (by omega)
              have pp40 : V h17.2.1 75 S = V h.2.1 75 S := (by omega)
              have pp41 : st h17 = f_X8_operand (st h) a2.toInt a3.toInt := (k26.symm.trans kf)
              have pp42 : FX KRt h h17 := fx17
              subst hS
              exact gi_vret (pc := 185) ⟨rfl, ⟨_, hv17, (MW.trans sqx (MW.mz _ _))⟩, pp35, pp36, pp37, pp38, pp39, pp40, pp41, pp42, kp17, oh17, ck17⟩ hv17 dX8_operand_185
            ·
              have k43 := if_f k24 q25
              refine go_aload_n (pc := 179) rfl dX8_operand_179 ?_
              refine go_iload (pc := 180) rfl dX8_operand_180 ?_
              refine gi_put (pc := 182) (lo := 0) (hi := 500) hv17 (ti_rfl l6) (fP_X8_163 _) rfl (Nat.le_of_ble_eq_true rfl) rfl rfl (by omega) (by omega) rfl rfl (by decide) (by decide) (by decide) (by decide) dX8_operand_182 (fun h44 hv44 hv44e => ?_)
              have fx44 : FX KRt h h44 := FX.pI fx17 hv44e (by unfold KRt; omega)
              have k45 := bd_e k43 (st_I hv44e (ti_rfl l6))
              have ve44 : VE h17.2.1 h44.2.1 := VE.of hv17 hv44
              have oh44 : OH h.2.1 h44.2.1 S := oh17.trans (OH.of hv17 hv44 S)
              have kp44 : KP h.2.1 h44.2.1 := kp17.trans (KP.ve ve44)
              have ck44 : CKF h.2.1 → CKF h44.2.1 := fun z => CKF.ve ve44 (ck17 z)
              have n73_44 : V h44.2.1 73 S = V h17.2.1 73 S := ve44.v (by omega) (by omega)
              have n74_44 : V h44.2.1 74 S = V h17.2.1 74 S := ve44.v (by omega) (by omega)
              have n75_44 : V h44.2.1 75 S = V h17.2.1 75 S := ve44.v (by omega) (by omega)
              have g46 : (0 : Int) ≤ (h44.2.1 70 3).toInt := (hv44.2.1 70 3).1
              have g47 : (h44.2.1 70 3).toInt ≤ 500 := (hv44.2.1 70 3).2
              have g48 : (0 : Int) ≤ (h44.2.1 70 4).toInt := (hv44.2.1 70 4).1
              have g49 : (h44.2.1 70 4).toInt ≤ 500 := (hv44.2.1 70 4).2
              have g50 : (-2147483648 : Int) ≤ (h44.2.1 70 5).toInt := (hv44.2.1 70 5).1
              have g51 : (h44.2.1 70 5).toInt ≤ 2147483647 := (hv44.2.1 70 5).2
              have g52 : (h44.2.1 70 3).toInt = v1.toInt := by rw [← (show v1 = h44.2.1 70 3 from (show v1 = h44.2.1 70 3 from by rw [hv44e]; exact (g_iI rfl (show v1 = h17.2.1 70 3 from by rw [hv17e]; exact (g_iI rfl v1w.symm).symm).symm).symm))] <;> exact (ti_rfl v1)
              have g53 : (h44.2.1 70 4).toInt = l6.toInt := by rw [← (show l6 = h44.2.1 70 4 from (show l6 = h44.2.1 70 4 from by rw [hv44e]; exact g_iS.symm))] <;> exact (ti_rfl l6)
              have pp54 : (h44.2.1 70 5).toInt = 0 → (h.2.1 70 5).toInt = 0 := (by omega)
              have pp55 : (h.2.1 70 4).toInt ≤ (h44.2.1 70 4).toInt := (by omega)
              have pp56 : (h44.2.1 70 5).toInt = 0 → OP h.2.1 h44.2.1 := (fun hg => (((OP.ve xve).trans (by rw [E17]; exact ((OP.rfl _).trans (OP.w9 (by rw [show (l5 : Int32).toInt = l5.toInt from (ti_rfl l5)]; omega))))).trans (OP.ve ve44)))
              have pp57 : V h44.2.1 73 S = V h.2.1 73 S := (by omega)
              have pp58 : V h44.2.1 74 S = V h.2.1 74 S := (by omega)
              have pp59 : V h44.2.1 75 S = V h.2.1 75 S := (by omega)
              have pp60 : st h44 = f_X8_operand (st h) a2.toInt a3.toInt := (k45.symm.trans kf)
              have pp61 : FX KRt h h44 := fx44
              subst hS
              exact gi_vret (pc := 185) ⟨rfl, ⟨_, hv44, (MW.trans sqx (MW.mz _ _))⟩, pp54, pp55, pp56, pp57, pp58, pp59, pp60, pp61, kp44, oh44, ck44⟩ hv44 dX8_operand_185
          ·
            have k62 := if_f k7 (Int.not_le.mpr q11)
            refine go_aload_n (pc := 155) rfl dX8_operand_155 ?_
            refine go_iconst (pc := 156) (v := 2) (by decide) dX8_operand_156 ?_
            have g63 : (0 : Int) ≤ (hx.2.1 70 3).toInt := (hvx.2.1 70 3).1
            have g64 : (hx.2.1 70 3).toInt ≤ 500 := (hvx.2.1 70 3).2
            have g65 : (0 : Int) ≤ (hx.2.1 70 4).toInt := (hvx.2.1 70 4).1
            have g66 : (hx.2.1 70 4).toInt ≤ 500 := (hvx.2.1 70 4).2
            have g67 : (-2147483648 : Int) ≤ (hx.2.1 70 5).toInt := (hvx.2.1 70 5).1
            have g68 : (hx.2.1 70 5).toInt ≤ 2147483647 := (hvx.2.1 70 5).2
            have g69 : (hx.2.1 70 3).toInt = v1.toInt := by rw [← (show v1 = hx.2.1 70 3 from v1w)] <;> exact (ti_rfl v1)
            have g70 : (hx.2.1 70 4).toInt = v6.toInt := by rw [← (show v6 = hx.2.1 70 4 from v6w)] <;> exact (ti_rfl v6)
            refine go_invV (pc := 157) (sl := 0) (s_X8_fails_f l (d + 1) hvx 2 (by rw [show (2 : Int32).toInt = 2 from (ti_c (v := 2) (a := 2) (by decide))]; omega) (by rw [show (2 : Int32).toInt = 2 from (ti_c (v := 2) (a := 2) (by decide))]; omega)) mL_X8_180 iM_X8_fails sM_X8_fails (hvx.sh rfl) rfl rfl rfl (Nat.le_of_ble_eq_true rfl) (show d + 1 + 1 + 1 ≤ d + 3 by omega) (show 8 + (2 + 11) + 40 * (d + 1 + 1) ≤ 40 * (d + 3) by omega) (g_c0 hvx.ln) (Nat.le_of_ble_eq_true rfl) dX8_operand_157 ?_
            intro r h71 hq _
            obtain ⟨rfl, hv71, f72, f73, f74, f75⟩ := hq
            try rw [show (2 : Int32).toInt = 2 from (ti_c (v := 2) (a := 2) (by decide))] at f72
            try rw [show (2 : Int32).toInt = 2 from (ti_c (v := 2) (a := 2) (by decide))] at f73
            try rw [show (2 : Int32).toInt = 2 from (ti_c (v := 2) (a := 2) (by decide))] at f74
            try rw [show (2 : Int32).toInt = 2 from (ti_c (v := 2) (a := 2) (by decide))] at f75
            have fx71 : FX KRt h h71 := FX.tr fxx f75
            have k76 := bd_e k62 f74.symm
            have ve71 : VE hx.2.1 h71.2.1 := VE.of hvx hv71
            have oh71 : OH h.2.1 h71.2.1 S := ohx.trans (OH.of hvx hv71 S)
            have kp71 : KP h.2.1 h71.2.1 := kpx.trans (KP.ve ve71)
            have ck71 : CKF h.2.1 → CKF h71.2.1 := fun z => CKF.ve ve71 (ckx z)
            have n73_71 : V h71.2.1 73 S = V hx.2.1 73 S := ve71.v (by omega) (by omega)
            have n74_71 : V h71.2.1 74 S = V hx.2.1 74 S := ve71.v (by omega) (by omega)
            have n75_71 : V h71.2.1 75 S = V hx.2.1 75 S := ve71.v (by omega) (by omega)
            obtain ⟨u77, u77w⟩ : ∃ v : Int32, v = h71.2.1 70 3 := ⟨_, rfl⟩
            have u77e : (h71.2.1 70 3).toInt = u77.toInt := by rw [u77w]
            have u77l : 0 ≤ u77.toInt := by rw [u77w]; exact (hv71.2.1 70 3).1
            have u77u : u77.toInt ≤ 500 := by rw [u77w]; exact (hv71.2.1 70 3).2
            have k78 := k76
            obtain ⟨u79, u79w⟩ : ∃ v : Int32, v = h71.2.1 70 4 := ⟨_, rfl⟩
            have u79e : (h71.2.1 70 4).toInt = u79.toInt := by rw [u79w]
            have u79l : 0 ≤ u79.toInt := by rw [u79w]; exact (hv71.2.1 70 4).1
            have u79u : u79.toInt ≤ 500 := by rw [u79w]; exact (hv71.2.1 70 4).2
            have k80 := k78
            obtain ⟨u81, u81w⟩ : ∃ v : Int32, v = h71.2.1 70 5 := ⟨_, rfl⟩
            have u81e : (h71.2.1 70 5).toInt = u81.toInt := by rw [u81w]
            have u81l : -2147483648 ≤ u81.toInt := by rw [u81w]; exact (hv71.2.1 70 5).1
            have u81u : u81.toInt ≤ 2147483647 := by rw [u81w]; exact (hv71.2.1 70 5).2
            have k82 := k80
            refine go_aload_n (pc := 160) rfl dX8_operand_160 ?_
            refine gi_getF (pc := 161) (q := 89) hv71 fL_X8_65 rfl (Nat.le_of_ble_eq_true rfl) rfl (hv71.rf (by decide)) dX8_operand_161 ?_
            refine go_iconst (pc := 164) (v := 2) (by decide) dX8_operand_164 ?_
            refine go_iload_n (pc := 165) rfl dX8_operand_165 ?_
            refine gf_imul (pc := 166) (ti_c (v := 2) (a := 2) (by decide)) (ti_rfl l1) (by omega) (by omega) dX8_operand_166 (fun v83 e84 => ?_)
            refine go_iload_n (pc := 167) rfl dX8_operand_167 ?_
            refine gf_iadd (pc := 168) e84 (ti_rfl l2) (by omega) (by omega) dX8_operand_168 (fun v85 e86 => ?_)
            refine go_iload (pc := 169) rfl dX8_operand_169 ?_
            refine gi_fst (pc := 171) (lo := 0) (hi := 9999) (len := 520) hv71 e86 (ti_rfl l5) rfl (by omega) (by omega) (fun _ => rfl) (by omega) (by omega) (by omega) dX8_operand_171 (fun h87 hv87 hv87e => ?_)
            have fx87 : FX KRt h h87 := FX.pI fx71 hv87e (by unfold KRt; omega)
            have k88 := bd_e k82 (st_I hv87e (ti_rfl l5))
            refine go_aload_n (pc := 172) rfl dX8_operand_172 ?_
            refine go_invV (pc := 173) (sl := 0) (s_X8_isGood_f l (d + 1) hv87 ) mL_X8_172 iM_X8_isGood sM_X8_isGood (hv87.sh rfl) rfl rfl rfl (Nat.le_of_ble_eq_true rfl) (show d + 1 + 1 + 1 ≤ d + 3 by omega) (show 8 + (1 + 11) + 40 * (d + 1 + 1) ≤ 40 * (d + 3) by omega) (g_c0 hv87.ln) (Nat.le_of_ble_eq_true rfl) dX8_operand_173 ?_
            intro r h89 hq _
            obtain ⟨v93, rfl, v93l, v93u, rfl, f90, f91, f92⟩ := hq
            replace f92 : PE _ _ := f92
            have k94 := bd_e k88 f92.symm
            have E87 : h87.2.1 = (w1 h71.2.1 89 (((2 * l1.toInt) + l2.toInt)) (l5 : Int32)) := by
              rw [hv87e]
              rfl
            have oh87 : OH h.2.1 h87.2.1 S := by rw [E87]; exact (oh71.trans (OH.w 260 rfl (by omega) (by omega) (by omega) (by omega)))
            have kp87 : KP h.2.1 h87.2.1 := by rw [E87]; exact (kp71.trans (KP.w (by omega)))
            have n73_87 : V h87.2.1 73 S = V h71.2.1 73 S := by rw [E87, V_ne (by omega)]
            have n74_87 : V h87.2.1 74 S = V h71.2.1 74 S := by rw [E87, V_ne (by omega)]
            have n75_87 : V h87.2.1 75 S = V h71.2.1 75 S := by rw [E87, V_ne (by omega)]
            have ck87 : CKF h.2.1 → CKF h87.2.1 := fun z => by rw [E87]; exact (CKF.w (by omega) (ck71 z))
            refine gf_if_eq (pc := 176) (tgt := 185) (ti_rfl v93) (by decide) dX8_operand_176 (fun q95 => ?_) (fun q95 => ?_)
            ·
              have k96 := if_t k94 q95
              have g97 : (0 : Int) ≤ (h87.2.1 70 3).toInt := (hv87.2.1 70 3).1
              have g98 : (h87.2.1 70 3).toInt ≤ 500 := (hv87.2.1 70 3).2
              have g99 : (0 : Int) ≤ (h87.2.1 70 4).toInt := (hv87.2.1 70 4).1
              have g100 : (h87.2.1 70 4).toInt ≤ 500 := (hv87.2.1 70 4).2
              have g101 : (-2147483648 : Int) ≤ (h87.2.1 70 5).toInt := (hv87.2.1 70 5).1
              have g102 : (h87.2.1 70 5).toInt ≤ 2147483647 := (hv87.2.1 70 5).2
              have g103 : (h87.2.1 70 3).toInt = u77.toInt := by rw [← (show u77 = h87.2.1 70 3 from (show u77 = h87.2.1 70 3 from by rw [hv87e]; exact (g_iI rfl u77w.symm).symm))] <;> exact (ti_rfl u77)
              have g104 : (h87.2.1 70 4).toInt = u79.toInt := by rw [← (show u79 = h87.2.1 70 4 from (show u79 = h87.2.1 70 4 from by rw [hv87e]; exact (g_iI rfl u79w.symm).symm))] <;> exact (ti_rfl u79)
              have g105 : (h87.2.1 70 5).toInt = u81.toInt := by rw [← (show u81 = h87.2.1 70 5 from (show u81 = h87.2.1 70 5 from by rw [hv87e]; exact (g_iI rfl u81w.symm).symm))] <;> exact (ti_rfl u81)
              have pp106 : (h87.2.1 70 5).toInt = 0 → (h.2.1 70 5).toInt = 0 := (by omega)
              have pp107 : (h.2.1 70 4).toInt ≤ (h87.2.1 70 4).toInt := (by omega)
              have pp108 : (h87.2.1 70 5).toInt = 0 → OP h.2.1 h87.2.1 := (fun hg => (((OP.ve xve).trans (OP.ve ve71)).trans (by rw [E87]; exact ((OP.rfl _).trans (OP.w9 (by rw [show (l5 : Int32).toInt = l5.toInt from (ti_rfl l5)]; omega))))))
              have pp109 : V h87.2.1 73 S = V h.2.1 73 S := (by omega)
              have pp110 : V h87.2.1 74 S = V h.2.1 74 S := (by omega)
              have pp111 : V h87.2.1 75 S = V h.2.1 75 S := (by omega)
              have pp112 : st h87 = f_X8_operand (st h) a2.toInt a3.toInt := (k96.symm.trans kf)
              have pp113 : FX KRt h h87 := fx87
              subst hS
              exact gi_vret (pc := 185) ⟨rfl, ⟨_, hv87, (MW.trans sqx (MW.mz _ _))⟩, pp106, pp107, pp108, pp109, pp110, pp111, pp112, pp113, kp87, oh87, ck87⟩ hv87 dX8_operand_185
            ·
              have k114 := if_f k94 q95
              refine go_aload_n (pc := 179) rfl dX8_operand_179 ?_
              refine go_iload (pc := 180) rfl dX8_operand_180 ?_
              refine gi_put (pc := 182) (lo := 0) (hi := 500) hv87 (ti_rfl l6) (fP_X8_163 _) rfl (Nat.le_of_ble_eq_true rfl) rfl rfl (by omega) (by omega) rfl rfl (by decide) (by decide) (by decide) (by decide) dX8_operand_182 (fun h115 hv115 hv115e => ?_)
              have fx115 : FX KRt h h115 := FX.pI fx87 hv115e (by unfold KRt; omega)
              have k116 := bd_e k114 (st_I hv115e (ti_rfl l6))
              have ve115 : VE h87.2.1 h115.2.1 := VE.of hv87 hv115
              have oh115 : OH h.2.1 h115.2.1 S := oh87.trans (OH.of hv87 hv115 S)
              have kp115 : KP h.2.1 h115.2.1 := kp87.trans (KP.ve ve115)
              have ck115 : CKF h.2.1 → CKF h115.2.1 := fun z => CKF.ve ve115 (ck87 z)
              have n73_115 : V h115.2.1 73 S = V h87.2.1 73 S := ve115.v (by omega) (by omega)
              have n74_115 : V h115.2.1 74 S = V h87.2.1 74 S := ve115.v (by omega) (by omega)
              have n75_115 : V h115.2.1 75 S = V h87.2.1 75 S := ve115.v (by omega) (by omega)
              have g117 : (0 : Int) ≤ (h115.2.1 70 3).toInt := (hv115.2.1 70 3).1
              have g118 : (h115.2.1 70 3).toInt ≤ 500 := (hv115.2.1 70 3).2
              have g119 : (0 : Int) ≤ (h115.2.1 70 4).toInt := (hv115.2.1 70 4).1
              have g120 : (h115.2.1 70 4).toInt ≤ 500 := (hv115.2.1 70 4).2
              have g121 : (-2147483648 : Int) ≤ (h115.2.1 70 5).toInt := (hv115.2.1 70 5).1
              have g122 : (h115.2.1 70 5).toInt ≤ 2147483647 := (hv115.2.1 70 5).2
              have g123 : (h115.2.1 70 3).toInt = u77.toInt := by rw [← (show u77 = h115.2.1 70 3 from (show u77 = h115.2.1 70 3 from by rw [hv115e]; exact (g_iI rfl (show u77 = h87.2.1 70 3 from by rw [hv87e]; exact (g_iI rfl u77w.symm).symm).symm).symm))] <;> exact (ti_rfl u77)
              have g124 : (h115.2.1 70 5).toInt = u81.toInt := by rw [← (show u81 = h115.2.1 70 5 from (show u81 = h115.2.1 70 5 from by rw [hv115e]; exact (g_iI rfl (show u81 = h87.2.1 70 5 from by rw [hv87e]; exact (g_iI rfl u81w.symm).symm).symm).symm))] <;> exact (ti_rfl u81)
              have g125 : (h115.2.1 70 4).toInt = l6.toInt := by rw [← (show l6 = h115.2.1 70 4 from (show l6 = h115.2.1 70 4 from by rw [hv115e]; exact g_iS.symm))] <;> exact (ti_rfl l6)
              have pp126 : (h115.2.1 70 5).toInt = 0 → (h.2.1 70 5).toInt = 0 := (by omega)
              have pp127 : (h.2.1 70 4).toInt ≤ (h115.2.1 70 4).toInt := (by omega)
              have pp128 : (h115.2.1 70 5).toInt = 0 → OP h.2.1 h115.2.1 := (fun hg => ((((OP.ve xve).trans (OP.ve ve71)).trans (by rw [E87]; exact ((OP.rfl _).trans (OP.w9 (by rw [show (l5 : Int32).toInt = l5.toInt from (ti_rfl l5)]; omega))))).trans (OP.ve ve115)))
              have pp129 : V h115.2.1 73 S = V h.2.1 73 S := (by omega)
              have pp130 : V h115.2.1 74 S = V h.2.1 74 S := (by omega)
              have pp131 : V h115.2.1 75 S = V h.2.1 75 S := (by omega)
              have pp132 : st h115 = f_X8_operand (st h) a2.toInt a3.toInt := (k116.symm.trans kf)
              have pp133 : FX KRt h h115 := fx115
              subst hS
              exact gi_vret (pc := 185) ⟨rfl, ⟨_, hv115, (MW.trans sqx (MW.mz _ _))⟩, pp126, pp127, pp128, pp129, pp130, pp131, pp132, pp133, kp115, oh115, ck115⟩ hv115 dX8_operand_185
        ·
          have k134 := if_f k2 (Int.not_le.mpr q4)
          refine go_aload_n (pc := 87) rfl dX8_operand_87 ?_
          refine gi_getF (pc := 88) (q := 72) hvx fL_X8_13 rfl (Nat.le_of_ble_eq_true rfl) rfl (hvx.rf (by decide)) dX8_operand_88 ?_
          refine go_iload (pc := 91) rfl dX8_operand_91 ?_
          refine gi_bald (pc := 93) (lo := -128) (hi := 127) (len := 500) hvx (ti_rfl l6) rfl (by omega) (by omega) (fun _ => rfl) dX8_operand_93 (fun v135 v135l v135u v135w => ?_)
          have k136 := bd_e k134 (congrArg Int32.toInt v135w.symm)
          refine go_bipush (pc := 94) (v := 48) (by decide) dX8_operand_94 ?_
          refine go_bipush (pc := 96) (v := 57) (by decide) dX8_operand_96 ?_
          refine go_invS (pc := 98) (sl := 0) (s_X8_isIn_f l (d + 1) hvx v135 48 57) mL_X8_159 iM_X8_isIn rfl rfl (Nat.le_of_ble_eq_true rfl) (show d + 1 + 1 + 1 ≤ d + 3 by omega) (show 8 + (3 + 11) + 40 * (d + 1 + 1) ≤ 40 * (d + 3) by omega) (g_c0 hvx.ln) (Nat.le_of_ble_eq_true rfl) dX8_operand_98 ?_
          intro r h137 hq _
          obtain ⟨v141, rfl, v141l, v141u, rfl, f138, f139, f140⟩ := hq
          try rw [show (48 : Int32).toInt = 48 from (ti_c (v := 48) (a := 48) (by decide))] at f138
          try rw [show (57 : Int32).toInt = 57 from (ti_c (v := 57) (a := 57) (by decide))] at f138
          try rw [show (48 : Int32).toInt = 48 from (ti_c (v := 48) (a := 48) (by decide))] at f139
          try rw [show (57 : Int32).toInt = 57 from (ti_c (v := 57) (a := 57) (by decide))] at f139
          try rw [show (48 : Int32).toInt = 48 from (ti_c (v := 48) (a := 48) (by decide))] at f140
          try rw [show (57 : Int32).toInt = 57 from (ti_c (v := 57) (a := 57) (by decide))] at f140
          replace f140 : PE _ _ := f140
          have k142 := bd_e k136 f140.symm
          refine gf_if_eq (pc := 101) (tgt := 144) (ti_rfl v141) (by decide) dX8_operand_101 (fun q143 => ?_) (fun q143 => ?_)
          ·
            have k144 := if_t k142 q143
            refine go_iload (pc := 144) rfl dX8_operand_144 ?_
            refine go_aload_n (pc := 146) rfl dX8_operand_146 ?_
            refine gi_get (pc := 147) (lo := 0) (hi := 500) hvx fL_X8_163 rfl (Nat.le_of_ble_eq_true rfl) rfl rfl dX8_operand_147 (fun v145 v145l v145u v145w => ?_)
            have k146 := bd_e k144 (congrArg Int32.toInt v145w.symm)
            have g147 : (hx.2.1 70 4).toInt = v145.toInt := by rw [v145w]
            refine gf_isub (pc := 150) (ti_rfl l6) (ti_rfl v145) (by omega) (by omega) dX8_operand_150 (fun v148 e149 => ?_)
            refine go_iconst (pc := 151) (v := 3) (by decide) dX8_operand_151 ?_
            refine gf_icmp_le (pc := 152) (tgt := 160) e149 (ti_c (v := 3) (a := 3) (by decide)) (by decide) dX8_operand_152 (fun q150 => ?_) (fun q150 => ?_)
            ·
              have k151 := if_t k146 q150
              refine go_aload_n (pc := 160) rfl dX8_operand_160 ?_
              refine gi_getF (pc := 161) (q := 89) hvx fL_X8_65 rfl (Nat.le_of_ble_eq_true rfl) rfl (hvx.rf (by decide)) dX8_operand_161 ?_
              refine go_iconst (pc := 164) (v := 2) (by decide) dX8_operand_164 ?_
              refine go_iload_n (pc := 165) rfl dX8_operand_165 ?_
              refine gf_imul (pc := 166) (ti_c (v := 2) (a := 2) (by decide)) (ti_rfl l1) (by omega) (by omega) dX8_operand_166 (fun v152 e153 => ?_)
              refine go_iload_n (pc := 167) rfl dX8_operand_167 ?_
              refine gf_iadd (pc := 168) e153 (ti_rfl l2) (by omega) (by omega) dX8_operand_168 (fun v154 e155 => ?_)
              refine go_iload (pc := 169) rfl dX8_operand_169 ?_
              refine gi_fst (pc := 171) (lo := 0) (hi := 9999) (len := 520) hvx e155 (ti_rfl l5) rfl (by omega) (by omega) (fun _ => rfl) (by omega) (by omega) (by omega) dX8_operand_171 (fun h156 hv156 hv156e => ?_)
              have fx156 : FX KRt h h156 := FX.pI fxx hv156e (by unfold KRt; omega)
              have k157 := bd_e k151 (st_I hv156e (ti_rfl l5))
              refine go_aload_n (pc := 172) rfl dX8_operand_172 ?_
              refine go_invV (pc := 173) (sl := 0) (s_X8_isGood_f l (d + 1) hv156 ) mL_X8_172 iM_X8_isGood sM_X8_isGood (hv156.sh rfl) rfl rfl rfl (Nat.le_of_ble_eq_true rfl) (show d + 1 + 1 + 1 ≤ d + 3 by omega) (show 8 + (1 + 11) + 40 * (d + 1 + 1) ≤ 40 * (d + 3) by omega) (g_c0 hv156.ln) (Nat.le_of_ble_eq_true rfl) dX8_operand_173 ?_
              intro r h158 hq _
              obtain ⟨v162, rfl, v162l, v162u, rfl, f159, f160, f161⟩ := hq
              replace f161 : PE _ _ := f161
              have k163 := bd_e k157 f161.symm
              have E156 : h156.2.1 = (w1 hx.2.1 89 (((2 * l1.toInt) + l2.toInt)) (l5 : Int32)) := by
                rw [hv156e]
                rfl
              have oh156 : OH h.2.1 h156.2.1 S := by rw [E156]; exact (ohx.trans (OH.w 260 rfl (by omega) (by omega) (by omega) (by omega)))
              have kp156 : KP h.2.1 h156.2.1 := by rw [E156]; exact (kpx.trans (KP.w (by omega)))
              have n73_156 : V h156.2.1 73 S = V hx.2.1 73 S := by rw [E156, V_ne (by omega)]
              have n74_156 : V h156.2.1 74 S = V hx.2.1 74 S := by rw [E156, V_ne (by omega)]
              have n75_156 : V h156.2.1 75 S = V hx.2.1 75 S := by rw [E156, V_ne (by omega)]
              have ck156 : CKF h.2.1 → CKF h156.2.1 := fun z => by rw [E156]; exact (CKF.w (by omega) (ckx z))
              refine gf_if_eq (pc := 176) (tgt := 185) (ti_rfl v162) (by decide) dX8_operand_176 (fun q164 => ?_) (fun q164 => ?_)
              ·
                have k165 := if_t k163 q164
                have g166 : (0 : Int) ≤ (h156.2.1 70 3).toInt := (hv156.2.1 70 3).1
                have g167 : (h156.2.1 70 3).toInt ≤ 500 := (hv156.2.1 70 3).2
                have g168 : (0 : Int) ≤ (h156.2.1 70 4).toInt := (hv156.2.1 70 4).1
                have g169 : (h156.2.1 70 4).toInt ≤ 500 := (hv156.2.1 70 4).2
                have g170 : (-2147483648 : Int) ≤ (h156.2.1 70 5).toInt := (hv156.2.1 70 5).1
                have g171 : (h156.2.1 70 5).toInt ≤ 2147483647 := (hv156.2.1 70 5).2
                have g172 : (h156.2.1 70 3).toInt = v1.toInt := by rw [← (show v1 = h156.2.1 70 3 from (show v1 = h156.2.1 70 3 from by rw [hv156e]; exact (g_iI rfl v1w.symm).symm))] <;> exact (ti_rfl v1)
                have g173 : (h156.2.1 70 4).toInt = v145.toInt := by rw [← (show v145 = h156.2.1 70 4 from (show v145 = h156.2.1 70 4 from by rw [hv156e]; exact (g_iI rfl v145w.symm).symm))] <;> exact (ti_rfl v145)
                have pp174 : (h156.2.1 70 5).toInt = 0 → (h.2.1 70 5).toInt = 0 := (by omega)
                have pp175 : (h.2.1 70 4).toInt ≤ (h156.2.1 70 4).toInt := (by omega)
                have pp176 : (h156.2.1 70 5).toInt = 0 → OP h.2.1 h156.2.1 := (fun hg => ((OP.ve xve).trans (by rw [E156]; exact ((OP.rfl _).trans (OP.w9 (by rw [show (l5 : Int32).toInt = l5.toInt from (ti_rfl l5)]; omega))))))
                have pp177 : V h156.2.1 73 S = V h.2.1 73 S := (by omega)
                have pp178 : V h156.2.1 74 S = V h.2.1 74 S := (by omega)
                have pp179 : V h156.2.1 75 S = V h.2.1 75 S := (by omega)
                have pp180 : st h156 = f_X8_operand (st h) a2.toInt a3.toInt := (k165.symm.trans kf)
                have pp181 : FX KRt h h156 := fx156
                subst hS
                exact gi_vret (pc := 185) ⟨rfl, ⟨_, hv156, (MW.trans sqx (MW.mz _ _))⟩, pp174, pp175, pp176, pp177, pp178, pp179, pp180, pp181, kp156, oh156, ck156⟩ hv156 dX8_operand_185
              ·
                have k182 := if_f k163 q164
                refine go_aload_n (pc := 179) rfl dX8_operand_179 ?_
                refine go_iload (pc := 180) rfl dX8_operand_180 ?_
                refine gi_put (pc := 182) (lo := 0) (hi := 500) hv156 (ti_rfl l6) (fP_X8_163 _) rfl (Nat.le_of_ble_eq_true rfl) rfl rfl (by omega) (by omega) rfl rfl (by decide) (by decide) (by decide) (by decide) dX8_operand_182 (fun h183 hv183 hv183e => ?_)
                have fx183 : FX KRt h h183 := FX.pI fx156 hv183e (by unfold KRt; omega)
                have k184 := bd_e k182 (st_I hv183e (ti_rfl l6))
                have ve183 : VE h156.2.1 h183.2.1 := VE.of hv156 hv183
                have oh183 : OH h.2.1 h183.2.1 S := oh156.trans (OH.of hv156 hv183 S)
                have kp183 : KP h.2.1 h183.2.1 := kp156.trans (KP.ve ve183)
                have ck183 : CKF h.2.1 → CKF h183.2.1 := fun z => CKF.ve ve183 (ck156 z)
                have n73_183 : V h183.2.1 73 S = V h156.2.1 73 S := ve183.v (by omega) (by omega)
                have n74_183 : V h183.2.1 74 S = V h156.2.1 74 S := ve183.v (by omega) (by omega)
                have n75_183 : V h183.2.1 75 S = V h156.2.1 75 S := ve183.v (by omega) (by omega)
                have g185 : (0 : Int) ≤ (h183.2.1 70 3).toInt := (hv183.2.1 70 3).1
                have g186 : (h183.2.1 70 3).toInt ≤ 500 := (hv183.2.1 70 3).2
                have g187 : (0 : Int) ≤ (h183.2.1 70 4).toInt := (hv183.2.1 70 4).1
                have g188 : (h183.2.1 70 4).toInt ≤ 500 := (hv183.2.1 70 4).2
                have g189 : (-2147483648 : Int) ≤ (h183.2.1 70 5).toInt := (hv183.2.1 70 5).1
                have g190 : (h183.2.1 70 5).toInt ≤ 2147483647 := (hv183.2.1 70 5).2
                have g191 : (h183.2.1 70 3).toInt = v1.toInt := by rw [← (show v1 = h183.2.1 70 3 from (show v1 = h183.2.1 70 3 from by rw [hv183e]; exact (g_iI rfl (show v1 = h156.2.1 70 3 from by rw [hv156e]; exact (g_iI rfl v1w.symm).symm).symm).symm))] <;> exact (ti_rfl v1)
                have g192 : (h183.2.1 70 4).toInt = l6.toInt := by rw [← (show l6 = h183.2.1 70 4 from (show l6 = h183.2.1 70 4 from by rw [hv183e]; exact g_iS.symm))] <;> exact (ti_rfl l6)
                have pp193 : (h183.2.1 70 5).toInt = 0 → (h.2.1 70 5).toInt = 0 := (by omega)
                have pp194 : (h.2.1 70 4).toInt ≤ (h183.2.1 70 4).toInt := (by omega)
                have pp195 : (h183.2.1 70 5).toInt = 0 → OP h.2.1 h183.2.1 := (fun hg => (((OP.ve xve).trans (by rw [E156]; exact ((OP.rfl _).trans (OP.w9 (by rw [show (l5 : Int32).toInt = l5.toInt from (ti_rfl l5)]; omega))))).trans (OP.ve ve183)))
                have pp196 : V h183.2.1 73 S = V h.2.1 73 S := (by omega)
                have pp197 : V h183.2.1 74 S = V h.2.1 74 S := (by omega)
                have pp198 : V h183.2.1 75 S = V h.2.1 75 S := (by omega)
                have pp199 : st h183 = f_X8_operand (st h) a2.toInt a3.toInt := (k184.symm.trans kf)
                have pp200 : FX KRt h h183 := fx183
                subst hS
                exact gi_vret (pc := 185) ⟨rfl, ⟨_, hv183, (MW.trans sqx (MW.mz _ _))⟩, pp193, pp194, pp195, pp196, pp197, pp198, pp199, pp200, kp183, oh183, ck183⟩ hv183 dX8_operand_185
            ·
              have k201 := if_f k146 (Int.not_le.mpr q150)
              refine go_aload_n (pc := 155) rfl dX8_operand_155 ?_
              refine go_iconst (pc := 156) (v := 2) (by decide) dX8_operand_156 ?_
              have g202 : (0 : Int) ≤ (hx.2.1 70 3).toInt := (hvx.2.1 70 3).1
              have g203 : (hx.2.1 70 3).toInt ≤ 500 := (hvx.2.1 70 3).2
              have g204 : (0 : Int) ≤ (hx.2.1 70 4).toInt := (hvx.2.1 70 4).1
              have g205 : (hx.2.1 70 4).toInt ≤ 500 := (hvx.2.1 70 4).2
              have g206 : (-2147483648 : Int) ≤ (hx.2.1 70 5).toInt := (hvx.2.1 70 5).1
              have g207 : (hx.2.1 70 5).toInt ≤ 2147483647 := (hvx.2.1 70 5).2
              have g208 : (hx.2.1 70 3).toInt = v1.toInt := by rw [← (show v1 = hx.2.1 70 3 from v1w)] <;> exact (ti_rfl v1)
              have g209 : (hx.2.1 70 4).toInt = v145.toInt := by rw [← (show v145 = hx.2.1 70 4 from v145w)] <;> exact (ti_rfl v145)
              refine go_invV (pc := 157) (sl := 0) (s_X8_fails_f l (d + 1) hvx 2 (by rw [show (2 : Int32).toInt = 2 from (ti_c (v := 2) (a := 2) (by decide))]; omega) (by rw [show (2 : Int32).toInt = 2 from (ti_c (v := 2) (a := 2) (by decide))]; omega)) mL_X8_180 iM_X8_fails sM_X8_fails (hvx.sh rfl) rfl rfl rfl (Nat.le_of_ble_eq_true rfl) (show d + 1 + 1 + 1 ≤ d + 3 by omega) (show 8 + (2 + 11) + 40 * (d + 1 + 1) ≤ 40 * (d + 3) by omega) (g_c0 hvx.ln) (Nat.le_of_ble_eq_true rfl) dX8_operand_157 ?_
              intro r h210 hq _
              obtain ⟨rfl, hv210, f211, f212, f213, f214⟩ := hq
              try rw [show (2 : Int32).toInt = 2 from (ti_c (v := 2) (a := 2) (by decide))] at f211
              try rw [show (2 : Int32).toInt = 2 from (ti_c (v := 2) (a := 2) (by decide))] at f212
              try rw [show (2 : Int32).toInt = 2 from (ti_c (v := 2) (a := 2) (by decide))] at f213
              try rw [show (2 : Int32).toInt = 2 from (ti_c (v := 2) (a := 2) (by decide))] at f214
              have fx210 : FX KRt h h210 := FX.tr fxx f214
              have k215 := bd_e k201 f213.symm
              have ve210 : VE hx.2.1 h210.2.1 := VE.of hvx hv210
              have oh210 : OH h.2.1 h210.2.1 S := ohx.trans (OH.of hvx hv210 S)
              have kp210 : KP h.2.1 h210.2.1 := kpx.trans (KP.ve ve210)
              have ck210 : CKF h.2.1 → CKF h210.2.1 := fun z => CKF.ve ve210 (ckx z)
              have n73_210 : V h210.2.1 73 S = V hx.2.1 73 S := ve210.v (by omega) (by omega)
              have n74_210 : V h210.2.1 74 S = V hx.2.1 74 S := ve210.v (by omega) (by omega)
              have n75_210 : V h210.2.1 75 S = V hx.2.1 75 S := ve210.v (by omega) (by omega)
              obtain ⟨u216, u216w⟩ : ∃ v : Int32, v = h210.2.1 70 3 := ⟨_, rfl⟩
              have u216e : (h210.2.1 70 3).toInt = u216.toInt := by rw [u216w]
              have u216l : 0 ≤ u216.toInt := by rw [u216w]; exact (hv210.2.1 70 3).1
              have u216u : u216.toInt ≤ 500 := by rw [u216w]; exact (hv210.2.1 70 3).2
              have k217 := k215
              obtain ⟨u218, u218w⟩ : ∃ v : Int32, v = h210.2.1 70 4 := ⟨_, rfl⟩
              have u218e : (h210.2.1 70 4).toInt = u218.toInt := by rw [u218w]
              have u218l : 0 ≤ u218.toInt := by rw [u218w]; exact (hv210.2.1 70 4).1
              have u218u : u218.toInt ≤ 500 := by rw [u218w]; exact (hv210.2.1 70 4).2
              have k219 := k217
              obtain ⟨u220, u220w⟩ : ∃ v : Int32, v = h210.2.1 70 5 := ⟨_, rfl⟩
              have u220e : (h210.2.1 70 5).toInt = u220.toInt := by rw [u220w]
              have u220l : -2147483648 ≤ u220.toInt := by rw [u220w]; exact (hv210.2.1 70 5).1
              have u220u : u220.toInt ≤ 2147483647 := by rw [u220w]; exact (hv210.2.1 70 5).2
              have k221 := k219
              refine go_aload_n (pc := 160) rfl dX8_operand_160 ?_
              refine gi_getF (pc := 161) (q := 89) hv210 fL_X8_65 rfl (Nat.le_of_ble_eq_true rfl) rfl (hv210.rf (by decide)) dX8_operand_161 ?_
              refine go_iconst (pc := 164) (v := 2) (by decide) dX8_operand_164 ?_
              refine go_iload_n (pc := 165) rfl dX8_operand_165 ?_
              refine gf_imul (pc := 166) (ti_c (v := 2) (a := 2) (by decide)) (ti_rfl l1) (by omega) (by omega) dX8_operand_166 (fun v222 e223 => ?_)
              refine go_iload_n (pc := 167) rfl dX8_operand_167 ?_
              refine gf_iadd (pc := 168) e223 (ti_rfl l2) (by omega) (by omega) dX8_operand_168 (fun v224 e225 => ?_)
              refine go_iload (pc := 169) rfl dX8_operand_169 ?_
              refine gi_fst (pc := 171) (lo := 0) (hi := 9999) (len := 520) hv210 e225 (ti_rfl l5) rfl (by omega) (by omega) (fun _ => rfl) (by omega) (by omega) (by omega) dX8_operand_171 (fun h226 hv226 hv226e => ?_)
              have fx226 : FX KRt h h226 := FX.pI fx210 hv226e (by unfold KRt; omega)
              have k227 := bd_e k221 (st_I hv226e (ti_rfl l5))
              refine go_aload_n (pc := 172) rfl dX8_operand_172 ?_
              refine go_invV (pc := 173) (sl := 0) (s_X8_isGood_f l (d + 1) hv226 ) mL_X8_172 iM_X8_isGood sM_X8_isGood (hv226.sh rfl) rfl rfl rfl (Nat.le_of_ble_eq_true rfl) (show d + 1 + 1 + 1 ≤ d + 3 by omega) (show 8 + (1 + 11) + 40 * (d + 1 + 1) ≤ 40 * (d + 3) by omega) (g_c0 hv226.ln) (Nat.le_of_ble_eq_true rfl) dX8_operand_173 ?_
              intro r h228 hq _
              obtain ⟨v232, rfl, v232l, v232u, rfl, f229, f230, f231⟩ := hq
              replace f231 : PE _ _ := f231
              have k233 := bd_e k227 f231.symm
              have E226 : h226.2.1 = (w1 h210.2.1 89 (((2 * l1.toInt) + l2.toInt)) (l5 : Int32)) := by
                rw [hv226e]
                rfl
              have oh226 : OH h.2.1 h226.2.1 S := by rw [E226]; exact (oh210.trans (OH.w 260 rfl (by omega) (by omega) (by omega) (by omega)))
              have kp226 : KP h.2.1 h226.2.1 := by rw [E226]; exact (kp210.trans (KP.w (by omega)))
              have n73_226 : V h226.2.1 73 S = V h210.2.1 73 S := by rw [E226, V_ne (by omega)]
              have n74_226 : V h226.2.1 74 S = V h210.2.1 74 S := by rw [E226, V_ne (by omega)]
              have n75_226 : V h226.2.1 75 S = V h210.2.1 75 S := by rw [E226, V_ne (by omega)]
              have ck226 : CKF h.2.1 → CKF h226.2.1 := fun z => by rw [E226]; exact (CKF.w (by omega) (ck210 z))
              refine gf_if_eq (pc := 176) (tgt := 185) (ti_rfl v232) (by decide) dX8_operand_176 (fun q234 => ?_) (fun q234 => ?_)
              ·
                have k235 := if_t k233 q234
                have g236 : (0 : Int) ≤ (h226.2.1 70 3).toInt := (hv226.2.1 70 3).1
                have g237 : (h226.2.1 70 3).toInt ≤ 500 := (hv226.2.1 70 3).2
                have g238 : (0 : Int) ≤ (h226.2.1 70 4).toInt := (hv226.2.1 70 4).1
                have g239 : (h226.2.1 70 4).toInt ≤ 500 := (hv226.2.1 70 4).2
                have g240 : (-2147483648 : Int) ≤ (h226.2.1 70 5).toInt := (hv226.2.1 70 5).1
                have g241 : (h226.2.1 70 5).toInt ≤ 2147483647 := (hv226.2.1 70 5).2
                have g242 : (h226.2.1 70 3).toInt = u216.toInt := by rw [← (show u216 = h226.2.1 70 3 from (show u216 = h226.2.1 70 3 from by rw [hv226e]; exact (g_iI rfl u216w.symm).symm))] <;> exact (ti_rfl u216)
                have g243 : (h226.2.1 70 4).toInt = u218.toInt := by rw [← (show u218 = h226.2.1 70 4 from (show u218 = h226.2.1 70 4 from by rw [hv226e]; exact (g_iI rfl u218w.symm).symm))] <;> exact (ti_rfl u218)
                have g244 : (h226.2.1 70 5).toInt = u220.toInt := by rw [← (show u220 = h226.2.1 70 5 from (show u220 = h226.2.1 70 5 from by rw [hv226e]; exact (g_iI rfl u220w.symm).symm))] <;> exact (ti_rfl u220)
                have pp245 : (h226.2.1 70 5).toInt = 0 → (h.2.1 70 5).toInt = 0 := (by omega)
                have pp246 : (h.2.1 70 4).toInt ≤ (h226.2.1 70 4).toInt := (by omega)
                have pp247 : (h226.2.1 70 5).toInt = 0 → OP h.2.1 h226.2.1 := (fun hg => (((OP.ve xve).trans (OP.ve ve210)).trans (by rw [E226]; exact ((OP.rfl _).trans (OP.w9 (by rw [show (l5 : Int32).toInt = l5.toInt from (ti_rfl l5)]; omega))))))
                have pp248 : V h226.2.1 73 S = V h.2.1 73 S := (by omega)
                have pp249 : V h226.2.1 74 S = V h.2.1 74 S := (by omega)
                have pp250 : V h226.2.1 75 S = V h.2.1 75 S := (by omega)
                have pp251 : st h226 = f_X8_operand (st h) a2.toInt a3.toInt := (k235.symm.trans kf)
                have pp252 : FX KRt h h226 := fx226
                subst hS
                exact gi_vret (pc := 185) ⟨rfl, ⟨_, hv226, (MW.trans sqx (MW.mz _ _))⟩, pp245, pp246, pp247, pp248, pp249, pp250, pp251, pp252, kp226, oh226, ck226⟩ hv226 dX8_operand_185
              ·
                have k253 := if_f k233 q234
                refine go_aload_n (pc := 179) rfl dX8_operand_179 ?_
                refine go_iload (pc := 180) rfl dX8_operand_180 ?_
                refine gi_put (pc := 182) (lo := 0) (hi := 500) hv226 (ti_rfl l6) (fP_X8_163 _) rfl (Nat.le_of_ble_eq_true rfl) rfl rfl (by omega) (by omega) rfl rfl (by decide) (by decide) (by decide) (by decide) dX8_operand_182 (fun h254 hv254 hv254e => ?_)
                have fx254 : FX KRt h h254 := FX.pI fx226 hv254e (by unfold KRt; omega)
                have k255 := bd_e k253 (st_I hv254e (ti_rfl l6))
                have ve254 : VE h226.2.1 h254.2.1 := VE.of hv226 hv254
                have oh254 : OH h.2.1 h254.2.1 S := oh226.trans (OH.of hv226 hv254 S)
                have kp254 : KP h.2.1 h254.2.1 := kp226.trans (KP.ve ve254)
                have ck254 : CKF h.2.1 → CKF h254.2.1 := fun z => CKF.ve ve254 (ck226 z)
                have n73_254 : V h254.2.1 73 S = V h226.2.1 73 S := ve254.v (by omega) (by omega)
                have n74_254 : V h254.2.1 74 S = V h226.2.1 74 S := ve254.v (by omega) (by omega)
                have n75_254 : V h254.2.1 75 S = V h226.2.1 75 S := ve254.v (by omega) (by omega)
                have g256 : (0 : Int) ≤ (h254.2.1 70 3).toInt := (hv254.2.1 70 3).1
                have g257 : (h254.2.1 70 3).toInt ≤ 500 := (hv254.2.1 70 3).2
                have g258 : (0 : Int) ≤ (h254.2.1 70 4).toInt := (hv254.2.1 70 4).1
                have g259 : (h254.2.1 70 4).toInt ≤ 500 := (hv254.2.1 70 4).2
                have g260 : (-2147483648 : Int) ≤ (h254.2.1 70 5).toInt := (hv254.2.1 70 5).1
                have g261 : (h254.2.1 70 5).toInt ≤ 2147483647 := (hv254.2.1 70 5).2
                have g262 : (h254.2.1 70 3).toInt = u216.toInt := by rw [← (show u216 = h254.2.1 70 3 from (show u216 = h254.2.1 70 3 from by rw [hv254e]; exact (g_iI rfl (show u216 = h226.2.1 70 3 from by rw [hv226e]; exact (g_iI rfl u216w.symm).symm).symm).symm))] <;> exact (ti_rfl u216)
                have g263 : (h254.2.1 70 5).toInt = u220.toInt := by rw [← (show u220 = h254.2.1 70 5 from (show u220 = h254.2.1 70 5 from by rw [hv254e]; exact (g_iI rfl (show u220 = h226.2.1 70 5 from by rw [hv226e]; exact (g_iI rfl u220w.symm).symm).symm).symm))] <;> exact (ti_rfl u220)
                have g264 : (h254.2.1 70 4).toInt = l6.toInt := by rw [← (show l6 = h254.2.1 70 4 from (show l6 = h254.2.1 70 4 from by rw [hv254e]; exact g_iS.symm))] <;> exact (ti_rfl l6)
                have pp265 : (h254.2.1 70 5).toInt = 0 → (h.2.1 70 5).toInt = 0 := (by omega)
                have pp266 : (h.2.1 70 4).toInt ≤ (h254.2.1 70 4).toInt := (by omega)
                have pp267 : (h254.2.1 70 5).toInt = 0 → OP h.2.1 h254.2.1 := (fun hg => ((((OP.ve xve).trans (OP.ve ve210)).trans (by rw [E226]; exact ((OP.rfl _).trans (OP.w9 (by rw [show (l5 : Int32).toInt = l5.toInt from (ti_rfl l5)]; omega))))).trans (OP.ve ve254)))
                have pp268 : V h254.2.1 73 S = V h.2.1 73 S := (by omega)
                have pp269 : V h254.2.1 74 S = V h.2.1 74 S := (by omega)
                have pp270 : V h254.2.1 75 S = V h.2.1 75 S := (by omega)
                have pp271 : st h254 = f_X8_operand (st h) a2.toInt a3.toInt := (k255.symm.trans kf)
                have pp272 : FX KRt h h254 := fx254
                subst hS
                exact gi_vret (pc := 185) ⟨rfl, ⟨_, hv254, (MW.trans sqx (MW.mz _ _))⟩, pp265, pp266, pp267, pp268, pp269, pp270, pp271, pp272, kp254, oh254, ck254⟩ hv254 dX8_operand_185
          ·
            have k273 := if_f k142 q143
            refine go_iload (pc := 104) rfl dX8_operand_104 ?_
            refine go_aload_n (pc := 106) rfl dX8_operand_106 ?_
            refine gi_get (pc := 107) (lo := 0) (hi := 500) hvx fL_X8_163 rfl (Nat.le_of_ble_eq_true rfl) rfl rfl dX8_operand_107 (fun v274 v274l v274u v274w => ?_)
            have k275 := bd_e k273 (congrArg Int32.toInt v274w.symm)
            have g276 : (hx.2.1 70 4).toInt = v274.toInt := by rw [v274w]
            refine gf_isub (pc := 110) (ti_rfl l6) (ti_rfl v274) (by omega) (by omega) dX8_operand_110 (fun v277 e278 => ?_)
            refine go_iconst (pc := 111) (v := 4) (by decide) dX8_operand_111 ?_
            refine gf_icmp_ge (pc := 112) (tgt := 134) e278 (ti_c (v := 4) (a := 4) (by decide)) (by decide) dX8_operand_112 (fun q279 => ?_) (fun q279 => ?_)
            ·
              have k280 := if_t k275 q279
              refine go_iload (pc := 134) rfl dX8_operand_134 ?_
              refine go_istore (pc := 136) (Nat.le_of_ble_eq_true rfl) dX8_operand_136 (go_lv (lv2 := [(0, .ref 70), (1, .int l1), (2, .int l2), (5, .int l5), (6, .int l6)]) rfl ?_)
              refine gf_iinc (pc := 138) (Nat.le_of_ble_eq_true rfl) rfl (ti_rfl l6) (ti_c (by decide)) (by omega) (by omega) dX8_operand_138 (fun v281 e282 => ?_)
              refine go_lv (lv2 := [(0, .ref 70), (1, .int l1), (2, .int l2), (5, .int l5), (6, .int v281)]) rfl ?_
              refine go_goto (pc := 141) (tgt := 78) (by decide) dX8_operand_141 ?_
              have z283 : (v281 : Int32).toInt = (l6.toInt + 1) := e282
              have g284 : (0 : Int) ≤ (hx.2.1 70 3).toInt := (hvx.2.1 70 3).1
              have g285 : (hx.2.1 70 3).toInt ≤ 500 := (hvx.2.1 70 3).2
              have g286 : (0 : Int) ≤ (hx.2.1 70 4).toInt := (hvx.2.1 70 4).1
              have g287 : (hx.2.1 70 4).toInt ≤ 500 := (hvx.2.1 70 4).2
              have g288 : (-2147483648 : Int) ≤ (hx.2.1 70 5).toInt := (hvx.2.1 70 5).1
              have g289 : (hx.2.1 70 5).toInt ≤ 2147483647 := (hvx.2.1 70 5).2
              have g290 : (hx.2.1 70 3).toInt = v1.toInt := by rw [← (show v1 = hx.2.1 70 3 from v1w)] <;> exact (ti_rfl v1)
              have g291 : (hx.2.1 70 4).toInt = v274.toInt := by rw [← (show v274 = hx.2.1 70 4 from v274w)] <;> exact (ti_rfl v274)
              exact go_lv rfl (ih l1 l2 l5 v281 _ hx hvx sqx (by omega) (by omega) (by omega) (by omega) (by omega) (by omega) (by omega) (by omega) xve (by omega) (by omega) (by omega) (by omega) (by omega) (by omega) (by omega) (by omega) (by omega) (by omega) (by omega) ohx ckx kpx (by omega) (by omega) (by omega) (by omega) (by omega) (by omega) fxx (by rw [show (v281 : Int32).toInt = (l6.toInt + 1) from e282]; exact k280) (by omega))
            ·
              have k292 := if_f k275 (Int.not_le.mpr q279)
              have k293 : l5.toInt ≤ 999 := by omega
              refine go_bipush (pc := 115) (v := 10) (by decide) dX8_operand_115 ?_
              refine go_iload (pc := 117) rfl dX8_operand_117 ?_
              refine gf_imul (pc := 119) (ti_c (v := 10) (a := 10) (by decide)) (ti_rfl l5) (by omega) (by omega) dX8_operand_119 (fun v294 e295 => ?_)
              refine go_aload_n (pc := 120) rfl dX8_operand_120 ?_
              refine gi_getF (pc := 121) (q := 72) hvx fL_X8_13 rfl (Nat.le_of_ble_eq_true rfl) rfl (hvx.rf (by decide)) dX8_operand_121 ?_
              refine go_iload (pc := 124) rfl dX8_operand_124 ?_
              refine gi_bald (pc := 126) (lo := -128) (hi := 127) (len := 500) hvx (ti_rfl l6) rfl (by omega) (by omega) (fun _ => rfl) dX8_operand_126 (fun v296 v296l v296u v296w => ?_)
              have k297 := bd_e k292 (congrArg Int32.toInt v296w.symm)
              have k298 : v296 = v135 := by rw [v296w, v135w]
              have k299 : v296.toInt = v135.toInt := by rw [v296w, v135w]
              have k300 : 48 ≤ v296.toInt := by omega
              have k301 : v296.toInt ≤ 57 := by omega
              refine gf_iadd (pc := 127) e295 (ti_rfl v296) (by omega) (by omega) dX8_operand_127 (fun v302 e303 => ?_)
              refine go_bipush (pc := 128) (v := 48) (by decide) dX8_operand_128 ?_
              refine gf_isub (pc := 130) e303 (ti_c (v := 48) (a := 48) (by decide)) (by omega) (by omega) dX8_operand_130 (fun v304 e305 => ?_)
              refine go_goto (pc := 131) (tgt := 136) (by decide) dX8_operand_131 ?_
              refine go_istore (pc := 136) (Nat.le_of_ble_eq_true rfl) dX8_operand_136 (go_lv (lv2 := [(0, .ref 70), (1, .int l1), (2, .int l2), (5, .int v304), (6, .int l6)]) rfl ?_)
              refine gf_iinc (pc := 138) (Nat.le_of_ble_eq_true rfl) rfl (ti_rfl l6) (ti_c (by decide)) (by omega) (by omega) dX8_operand_138 (fun v306 e307 => ?_)
              refine go_lv (lv2 := [(0, .ref 70), (1, .int l1), (2, .int l2), (5, .int v304), (6, .int v306)]) rfl ?_
              refine go_goto (pc := 141) (tgt := 78) (by decide) dX8_operand_141 ?_
              have z308 : (v304 : Int32).toInt = (((10 * l5.toInt) + v296.toInt) - 48) := e305
              have z309 : (v306 : Int32).toInt = (l6.toInt + 1) := e307
              have g310 : (0 : Int) ≤ (hx.2.1 70 3).toInt := (hvx.2.1 70 3).1
              have g311 : (hx.2.1 70 3).toInt ≤ 500 := (hvx.2.1 70 3).2
              have g312 : (0 : Int) ≤ (hx.2.1 70 4).toInt := (hvx.2.1 70 4).1
              have g313 : (hx.2.1 70 4).toInt ≤ 500 := (hvx.2.1 70 4).2
              have g314 : (-2147483648 : Int) ≤ (hx.2.1 70 5).toInt := (hvx.2.1 70 5).1
              have g315 : (hx.2.1 70 5).toInt ≤ 2147483647 := (hvx.2.1 70 5).2
              have g316 : (hx.2.1 70 3).toInt = v1.toInt := by rw [← (show v1 = hx.2.1 70 3 from v1w)] <;> exact (ti_rfl v1)
              have g317 : (hx.2.1 70 4).toInt = v274.toInt := by rw [← (show v274 = hx.2.1 70 4 from v274w)] <;> exact (ti_rfl v274)
              exact go_lv rfl (ih l1 l2 v304 v306 _ hx hvx sqx (by omega) (by omega) (by omega) (by omega) (by omega) (by omega) (by omega) (by omega) xve (by omega) (by omega) (by omega) (by omega) (by omega) (by omega) (by omega) (by omega) (by omega) (by omega) (by omega) ohx ckx kpx (by omega) (by omega) (by omega) (by omega) (by omega) (by omega) fxx (by rw [show (v304 : Int32).toInt = (((10 * l5.toInt) + v296.toInt) - 48) from e305, show (v306 : Int32).toInt = (l6.toInt + 1) from e307]; exact k297) (by omega))
  refine go_aload_n (pc := 0) rfl dX8_operand_0 ?_
  refine go_invV (pc := 1) (sl := 0) (s_X8_isGood_f l (d + 1) hv ) mL_X8_172 iM_X8_isGood sM_X8_isGood (hv.sh rfl) rfl rfl rfl (Nat.le_of_ble_eq_true rfl) (show d + 1 + 1 + 1 ≤ d + 3 by omega) (show 8 + (1 + 11) + 40 * (d + 1 + 1) ≤ 40 * (d + 3) by omega) (g_c0 hv.ln) (Nat.le_of_ble_eq_true rfl) dX8_operand_1 ?_
  intro r h318 hq _
  obtain ⟨v322, rfl, v322l, v322u, rfl, f319, f320, f321⟩ := hq
  replace f321 : PE _ _ := f321
  have k323 := bd_e k0 f321.symm
  refine gf_if_ne (pc := 4) (tgt := 8) (ti_rfl v322) (by decide) dX8_operand_4 (fun q324 => ?_) (fun q324 => ?_)
  ·
    have k325 := if_t k323 q324
    refine go_aload_n (pc := 8) rfl dX8_operand_8 ?_
    refine go_iconst (pc := 9) (v := 1) (by decide) dX8_operand_9 ?_
    have g326 : (0 : Int) ≤ (h.2.1 70 3).toInt := (hv.2.1 70 3).1
    have g327 : (h.2.1 70 3).toInt ≤ 500 := (hv.2.1 70 3).2
    have g328 : (0 : Int) ≤ (h.2.1 70 4).toInt := (hv.2.1 70 4).1
    have g329 : (h.2.1 70 4).toInt ≤ 500 := (hv.2.1 70 4).2
    have g330 : (-2147483648 : Int) ≤ (h.2.1 70 5).toInt := (hv.2.1 70 5).1
    have g331 : (h.2.1 70 5).toInt ≤ 2147483647 := (hv.2.1 70 5).2
    refine go_invV (pc := 10) (sl := 0) (s_X8_nameHere_f l (d + 0) hv 1 (by rw [show (1 : Int32).toInt = 1 from (ti_c (v := 1) (a := 1) (by decide))]; omega) (by rw [show (1 : Int32).toInt = 1 from (ti_c (v := 1) (a := 1) (by decide))]; omega)) mL_X8_183 iM_X8_nameHere sM_X8_nameHere (hv.sh rfl) rfl rfl rfl (Nat.le_of_ble_eq_true rfl) (show d + 0 + 2 + 1 ≤ d + 3 by omega) (show 8 + (3 + 11) + 40 * (d + 0 + 2) ≤ 40 * (d + 3) by omega) (g_c0 hv.ln) (Nat.le_of_ble_eq_true rfl) dX8_operand_10 ?_
    intro r h332 hq _
    obtain ⟨v340, rfl, v340l, v340u, hv332, f333, f334, f335, f336, f337, f338, f339⟩ := hq
    try rw [show (1 : Int32).toInt = 1 from (ti_c (v := 1) (a := 1) (by decide))] at f333
    try rw [show (1 : Int32).toInt = 1 from (ti_c (v := 1) (a := 1) (by decide))] at f334
    try rw [show (1 : Int32).toInt = 1 from (ti_c (v := 1) (a := 1) (by decide))] at f335
    try rw [show (1 : Int32).toInt = 1 from (ti_c (v := 1) (a := 1) (by decide))] at f336
    try rw [show (1 : Int32).toInt = 1 from (ti_c (v := 1) (a := 1) (by decide))] at f337
    try rw [show (1 : Int32).toInt = 1 from (ti_c (v := 1) (a := 1) (by decide))] at f338
    try rw [show (1 : Int32).toInt = 1 from (ti_c (v := 1) (a := 1) (by decide))] at f339
    have fx332 : FX KRt h h332 := FX.tr fx f339
    have k341 := bd2_e k325 f338
    have ve332 : VE h.2.1 h332.2.1 := VE.of hv hv332
    have oh332 : OH h.2.1 h332.2.1 S := oh.trans (OH.of hv hv332 S)
    have kp332 : KP h.2.1 h332.2.1 := kp.trans (KP.ve ve332)
    have ck332 : CKF h.2.1 → CKF h332.2.1 := fun z => CKF.ve ve332 (ck z)
    have n73_332 : V h332.2.1 73 S = V h.2.1 73 S := ve332.v (by omega) (by omega)
    have n74_332 : V h332.2.1 74 S = V h.2.1 74 S := ve332.v (by omega) (by omega)
    have n75_332 : V h332.2.1 75 S = V h.2.1 75 S := ve332.v (by omega) (by omega)
    obtain ⟨u342, u342w⟩ : ∃ v : Int32, v = h332.2.1 70 3 := ⟨_, rfl⟩
    have u342e : (h332.2.1 70 3).toInt = u342.toInt := by rw [u342w]
    have u342l : 0 ≤ u342.toInt := by rw [u342w]; exact (hv332.2.1 70 3).1
    have u342u : u342.toInt ≤ 500 := by rw [u342w]; exact (hv332.2.1 70 3).2
    have k343 := k341
    obtain ⟨u344, u344w⟩ : ∃ v : Int32, v = h332.2.1 70 4 := ⟨_, rfl⟩
    have u344e : (h332.2.1 70 4).toInt = u344.toInt := by rw [u344w]
    have u344l : 0 ≤ u344.toInt := by rw [u344w]; exact (hv332.2.1 70 4).1
    have u344u : u344.toInt ≤ 500 := by rw [u344w]; exact (hv332.2.1 70 4).2
    have k345 := bd_e k343 (congrArg Int32.toInt u344w.symm)
    obtain ⟨u346, u346w⟩ : ∃ v : Int32, v = h332.2.1 70 5 := ⟨_, rfl⟩
    have u346e : (h332.2.1 70 5).toInt = u346.toInt := by rw [u346w]
    have u346l : -2147483648 ≤ u346.toInt := by rw [u346w]; exact (hv332.2.1 70 5).1
    have u346u : u346.toInt ≤ 2147483647 := by rw [u346w]; exact (hv332.2.1 70 5).2
    have k347 := k345
    refine go_istore_n (pc := 13) (Nat.le_of_ble_eq_true rfl) dX8_operand_13 (go_lv (lv2 := [(0, .ref 70), (1, .int a2), (2, .int a3), (3, .int v340)]) rfl ?_)
    refine go_aload_n (pc := 14) rfl dX8_operand_14 ?_
    by_cases q348 : 0 ≤ v340.toInt
    ·
      have k349 := if_t k347 q348
      obtain ⟨c0, nsx⟩ := f337 (by omega)
      refine go_invV (pc := 15) (sl := 0) (s_X8_here_ns_f l (d + 1) hv332 nsx) mL_X8_176 iM_X8_here sM_X8_here (hv332.sh rfl) rfl rfl rfl (Nat.le_of_ble_eq_true rfl) (show d + 1 + 1 + 1 ≤ d + 3 by omega) (show 8 + (1 + 11) + 40 * (d + 1 + 1) ≤ 40 * (d + 3) by omega) (g_c0 hv332.ln) (Nat.le_of_ble_eq_true rfl) dX8_operand_15 ?_
      intro r h350 hq _
      obtain ⟨v353, rfl, v353l, v353u, rfl, f351, f352⟩ := hq
      replace f352 : PE _ _ := f352
      have k354 := k349
      refine go_istore (pc := 18) (Nat.le_of_ble_eq_true rfl) dX8_operand_18 (go_lv (lv2 := [(0, .ref 70), (1, .int a2), (2, .int a3), (3, .int v340), (4, .int v353)]) rfl ?_)
      refine go_iload_n (pc := 20) rfl dX8_operand_20 ?_
      refine go_iconst (pc := 21) (v := (-1)) (by decide) dX8_operand_21 ?_
      refine gf_icmp_eq (pc := 22) (tgt := 51) (ti_rfl v340) (ti_c (v := (-1)) (a := (-1)) (by decide)) (by decide) dX8_operand_22 (fun q355 => False.elim (by omega)) (fun q355 => ?_)
      refine go_aload_n (pc := 25) rfl dX8_operand_25 ?_
      refine gi_getF (pc := 26) (q := 89) hv332 fL_X8_65 rfl (Nat.le_of_ble_eq_true rfl) rfl (hv332.rf (by decide)) dX8_operand_26 ?_
      refine go_iconst (pc := 29) (v := 2) (by decide) dX8_operand_29 ?_
      refine go_iload_n (pc := 30) rfl dX8_operand_30 ?_
      refine gf_imul (pc := 31) (ti_c (v := 2) (a := 2) (by decide)) (ti_rfl a2) (by omega) (by omega) dX8_operand_31 (fun v356 e357 => ?_)
      refine go_iload_n (pc := 32) rfl dX8_operand_32 ?_
      refine gf_iadd (pc := 33) e357 (ti_rfl a3) (by omega) (by omega) dX8_operand_33 (fun v358 e359 => ?_)
      refine go_sipush (pc := 34) (v := 1000) (by decide) dX8_operand_34 ?_
      refine go_iload_n (pc := 37) rfl dX8_operand_37 ?_
      refine gf_iadd (pc := 38) (ti_c (v := 1000) (a := 1000) (by decide)) (ti_rfl v340) (by omega) (by omega) dX8_operand_38 (fun v360 e361 => ?_)
      refine gi_fst (pc := 39) (lo := 0) (hi := 9999) (len := 520) hv332 e359 e361 rfl (by omega) (by omega) (fun _ => rfl) (by omega) (by omega) (by omega) dX8_operand_39 (fun h362 hv362 hv362e => ?_)
      have fx362 : FX KRt h h362 := FX.pI fx332 hv362e (by unfold KRt; omega)
      have k363 := bd_e k354 (st_I hv362e e361)
      refine go_aload_n (pc := 40) rfl dX8_operand_40 ?_
      refine go_dup (pc := 41) rfl dX8_operand_41 ?_
      refine gi_get (pc := 42) (lo := 0) (hi := 500) hv362 fL_X8_163 rfl (Nat.le_of_ble_eq_true rfl) rfl rfl dX8_operand_42 (fun v364 v364l v364u v364w => ?_)
      have v364r : u344 = h362.2.1 70 4 := (show u344 = h362.2.1 70 4 from by rw [hv362e]; exact (g_iI rfl u344w.symm).symm)
      have v364q : TI v364 u344.toInt := by rw [v364w.trans v364r.symm]; exact (ti_rfl u344)
      refine go_iconst (pc := 45) (v := 1) (by decide) dX8_operand_45 ?_
      refine gf_iadd (pc := 46) v364q (ti_c (v := 1) (a := 1) (by decide)) (by omega) (by omega) dX8_operand_46 (fun v365 e366 => ?_)
      have E362 : h362.2.1 = (w1 h332.2.1 89 (((2 * a2.toInt) + a3.toInt)) (v360 : Int32)) := by
        rw [hv362e]
        rfl
      have oh362 : OH h.2.1 h362.2.1 S := by rw [E362]; exact (oh332.trans (OH.w 260 rfl (by omega) (by omega) (by omega) (by omega)))
      have kp362 : KP h.2.1 h362.2.1 := by rw [E362]; exact (kp332.trans (KP.w (by omega)))
      have n73_362 : V h362.2.1 73 S = V h332.2.1 73 S := by rw [E362, V_ne (by omega)]
      have n74_362 : V h362.2.1 74 S = V h332.2.1 74 S := by rw [E362, V_ne (by omega)]
      have n75_362 : V h362.2.1 75 S = V h332.2.1 75 S := by rw [E362, V_ne (by omega)]
      have ck362 : CKF h.2.1 → CKF h362.2.1 := fun z => by rw [E362]; exact (CKF.w (by omega) (ck332 z))
      refine gi_put (pc := 47) (lo := 0) (hi := 500) hv362 e366 (fP_X8_163 _) rfl (Nat.le_of_ble_eq_true rfl) rfl rfl (by omega) (by omega) rfl rfl (by decide) (by decide) (by decide) (by decide) dX8_operand_47 (fun h367 hv367 hv367e => ?_)
      have fx367 : FX KRt h h367 := FX.pI fx362 hv367e (by unfold KRt; omega)
      have k368 := bd_e k363 (st_I hv367e e366)
      have ve367 : VE h362.2.1 h367.2.1 := VE.of hv362 hv367
      have oh367 : OH h.2.1 h367.2.1 S := oh362.trans (OH.of hv362 hv367 S)
      have kp367 : KP h.2.1 h367.2.1 := kp362.trans (KP.ve ve367)
      have ck367 : CKF h.2.1 → CKF h367.2.1 := fun z => CKF.ve ve367 (ck362 z)
      have n73_367 : V h367.2.1 73 S = V h362.2.1 73 S := ve367.v (by omega) (by omega)
      have n74_367 : V h367.2.1 74 S = V h362.2.1 74 S := ve367.v (by omega) (by omega)
      have n75_367 : V h367.2.1 75 S = V h362.2.1 75 S := ve367.v (by omega) (by omega)
      have g369 : (0 : Int) ≤ (h367.2.1 70 3).toInt := (hv367.2.1 70 3).1
      have g370 : (h367.2.1 70 3).toInt ≤ 500 := (hv367.2.1 70 3).2
      have g371 : (0 : Int) ≤ (h367.2.1 70 4).toInt := (hv367.2.1 70 4).1
      have g372 : (h367.2.1 70 4).toInt ≤ 500 := (hv367.2.1 70 4).2
      have g373 : (-2147483648 : Int) ≤ (h367.2.1 70 5).toInt := (hv367.2.1 70 5).1
      have g374 : (h367.2.1 70 5).toInt ≤ 2147483647 := (hv367.2.1 70 5).2
      have g375 : (h367.2.1 70 3).toInt = u342.toInt := by rw [← (show u342 = h367.2.1 70 3 from (show u342 = h367.2.1 70 3 from by rw [hv367e]; exact (g_iI rfl (show u342 = h362.2.1 70 3 from by rw [hv362e]; exact (g_iI rfl u342w.symm).symm).symm).symm))] <;> exact (ti_rfl u342)
      have g376 : (h367.2.1 70 5).toInt = u346.toInt := by rw [← (show u346 = h367.2.1 70 5 from (show u346 = h367.2.1 70 5 from by rw [hv367e]; exact (g_iI rfl (show u346 = h362.2.1 70 5 from by rw [hv362e]; exact (g_iI rfl u346w.symm).symm).symm).symm))] <;> exact (ti_rfl u346)
      have g377 : (h367.2.1 70 4).toInt = (u344.toInt + 1) := by rw [← (show v365 = h367.2.1 70 4 from (show v365 = h367.2.1 70 4 from by rw [hv367e]; exact g_iS.symm))] <;> exact e366
      have pp378 : (h367.2.1 70 5).toInt = 0 → (h.2.1 70 5).toInt = 0 := (by omega)
      have pp379 : (h.2.1 70 4).toInt ≤ (h367.2.1 70 4).toInt := (by omega)
      have pp380 : (h367.2.1 70 5).toInt = 0 → OP h.2.1 h367.2.1 := (fun hg => ((((OP.rfl _).trans (OP.ve ve332)).trans (by rw [E362]; exact ((OP.rfl _).trans (OP.w9 (by rw [show (v360 : Int32).toInt = (1000 + v340.toInt) from e361]; omega))))).trans (OP.ve ve367)))
      have pp381 : V h367.2.1 73 S = V h.2.1 73 S := (by omega)
      have pp382 : V h367.2.1 74 S = V h.2.1 74 S := (by omega)
      have pp383 : V h367.2.1 75 S = V h.2.1 75 S := (by omega)
      have pp384 : st h367 = f_X8_operand (st h) a2.toInt a3.toInt := (k368.symm.trans kf)
      have pp385 : FX KRt h h367 := fx367
      subst hS
      exact gi_vret (pc := 50) ⟨rfl, ⟨_, hv367, (MW.mz _ _)⟩, pp378, pp379, pp380, pp381, pp382, pp383, pp384, pp385, kp367, oh367, ck367⟩ hv367 dX8_operand_50
    ·
      have k386 := if_f k347 q348
      have g387 : (0 : Int) ≤ (h332.2.1 70 3).toInt := (hv332.2.1 70 3).1
      have g388 : (h332.2.1 70 3).toInt ≤ 500 := (hv332.2.1 70 3).2
      have g389 : (0 : Int) ≤ (h332.2.1 70 4).toInt := (hv332.2.1 70 4).1
      have g390 : (h332.2.1 70 4).toInt ≤ 500 := (hv332.2.1 70 4).2
      have g391 : (-2147483648 : Int) ≤ (h332.2.1 70 5).toInt := (hv332.2.1 70 5).1
      have g392 : (h332.2.1 70 5).toInt ≤ 2147483647 := (hv332.2.1 70 5).2
      have g393 : (h332.2.1 70 3).toInt = u342.toInt := by rw [← (show u342 = h332.2.1 70 3 from u342w)] <;> exact (ti_rfl u342)
      have g394 : (h332.2.1 70 4).toInt = u344.toInt := by rw [← (show u344 = h332.2.1 70 4 from u344w)] <;> exact (ti_rfl u344)
      have g395 : (h332.2.1 70 5).toInt = u346.toInt := by rw [← (show u346 = h332.2.1 70 5 from u346w)] <;> exact (ti_rfl u346)
      refine go_invV (pc := 15) (sl := 0) (s_X8_here_f l (d + 1) hv332 ) mL_X8_176 iM_X8_here sM_X8_here (hv332.sh rfl) rfl rfl rfl (Nat.le_of_ble_eq_true rfl) (show d + 1 + 1 + 1 ≤ d + 3 by omega) (show 8 + (1 + 11) + 40 * (d + 1 + 1) ≤ 40 * (d + 3) by omega) (g_c0 hv332.ln) (Nat.le_of_ble_eq_true rfl) dX8_operand_15 ?_
      intro r h396 hq _
      obtain ⟨v403, rfl, v403l, v403u, hv396, f397, f398, f399, f400, f401, f402⟩ := hq
      have fx396 : FX KRt h h396 := FX.tr fx332 f402
      have k404 := bd2_e k386 f401
      have ve396 : VE h332.2.1 h396.2.1 := VE.of hv332 hv396
      have oh396 : OH h.2.1 h396.2.1 S := oh332.trans (OH.of hv332 hv396 S)
      have kp396 : KP h.2.1 h396.2.1 := kp332.trans (KP.ve ve396)
      have ck396 : CKF h.2.1 → CKF h396.2.1 := fun z => CKF.ve ve396 (ck332 z)
      have n73_396 : V h396.2.1 73 S = V h332.2.1 73 S := ve396.v (by omega) (by omega)
      have n74_396 : V h396.2.1 74 S = V h332.2.1 74 S := ve396.v (by omega) (by omega)
      have n75_396 : V h396.2.1 75 S = V h332.2.1 75 S := ve396.v (by omega) (by omega)
      obtain ⟨u405, u405w⟩ : ∃ v : Int32, v = h396.2.1 70 3 := ⟨_, rfl⟩
      have u405e : (h396.2.1 70 3).toInt = u405.toInt := by rw [u405w]
      have u405l : 0 ≤ u405.toInt := by rw [u405w]; exact (hv396.2.1 70 3).1
      have u405u : u405.toInt ≤ 500 := by rw [u405w]; exact (hv396.2.1 70 3).2
      have k406 := k404
      obtain ⟨u407, u407w⟩ : ∃ v : Int32, v = h396.2.1 70 4 := ⟨_, rfl⟩
      have u407e : (h396.2.1 70 4).toInt = u407.toInt := by rw [u407w]
      have u407l : 0 ≤ u407.toInt := by rw [u407w]; exact (hv396.2.1 70 4).1
      have u407u : u407.toInt ≤ 500 := by rw [u407w]; exact (hv396.2.1 70 4).2
      have k408 := bd_e k406 (congrArg Int32.toInt u407w.symm)
      obtain ⟨u409, u409w⟩ : ∃ v : Int32, v = h396.2.1 70 5 := ⟨_, rfl⟩
      have u409e : (h396.2.1 70 5).toInt = u409.toInt := by rw [u409w]
      have u409l : -2147483648 ≤ u409.toInt := by rw [u409w]; exact (hv396.2.1 70 5).1
      have u409u : u409.toInt ≤ 2147483647 := by rw [u409w]; exact (hv396.2.1 70 5).2
      have k410 := k408
      refine go_istore (pc := 18) (Nat.le_of_ble_eq_true rfl) dX8_operand_18 (go_lv (lv2 := [(0, .ref 70), (1, .int a2), (2, .int a3), (3, .int v340), (4, .int v403)]) rfl ?_)
      refine go_iload_n (pc := 20) rfl dX8_operand_20 ?_
      refine go_iconst (pc := 21) (v := (-1)) (by decide) dX8_operand_21 ?_
      refine gf_icmp_eq (pc := 22) (tgt := 51) (ti_rfl v340) (ti_c (v := (-1)) (a := (-1)) (by decide)) (by decide) dX8_operand_22 (fun q411 => ?_) (fun q411 => False.elim (by omega))
      refine go_iload (pc := 51) rfl dX8_operand_51 ?_
      refine go_bipush (pc := 53) (v := 48) (by decide) dX8_operand_53 ?_
      refine go_bipush (pc := 55) (v := 57) (by decide) dX8_operand_55 ?_
      refine go_invS (pc := 57) (sl := 0) (s_X8_isIn_f l (d + 1) hv396 v403 48 57) mL_X8_159 iM_X8_isIn rfl rfl (Nat.le_of_ble_eq_true rfl) (show d + 1 + 1 + 1 ≤ d + 3 by omega) (show 8 + (3 + 11) + 40 * (d + 1 + 1) ≤ 40 * (d + 3) by omega) (g_c0 hv396.ln) (Nat.le_of_ble_eq_true rfl) dX8_operand_57 ?_
      intro r h412 hq _
      obtain ⟨v416, rfl, v416l, v416u, rfl, f413, f414, f415⟩ := hq
      try rw [show (48 : Int32).toInt = 48 from (ti_c (v := 48) (a := 48) (by decide))] at f413
      try rw [show (57 : Int32).toInt = 57 from (ti_c (v := 57) (a := 57) (by decide))] at f413
      try rw [show (48 : Int32).toInt = 48 from (ti_c (v := 48) (a := 48) (by decide))] at f414
      try rw [show (57 : Int32).toInt = 57 from (ti_c (v := 57) (a := 57) (by decide))] at f414
      try rw [show (48 : Int32).toInt = 48 from (ti_c (v := 48) (a := 48) (by decide))] at f415
      try rw [show (57 : Int32).toInt = 57 from (ti_c (v := 57) (a := 57) (by decide))] at f415
      replace f415 : PE _ _ := f415
      have k417 := bd_e k410 f415.symm
      refine gf_if_ne (pc := 60) (tgt := 69) (ti_rfl v416) (by decide) dX8_operand_60 (fun q418 => ?_) (fun q418 => ?_)
      ·
        have k419 := if_t k417 q418
        refine go_iconst (pc := 69) (v := 0) (by decide) dX8_operand_69 ?_
        refine go_istore (pc := 70) (Nat.le_of_ble_eq_true rfl) dX8_operand_70 (go_lv (lv2 := [(0, .ref 70), (1, .int a2), (2, .int a3), (3, .int v340), (4, .int v403), (5, .int 0)]) rfl ?_)
        refine go_aload_n (pc := 72) rfl dX8_operand_72 ?_
        refine gi_get (pc := 73) (lo := 0) (hi := 500) hv396 fL_X8_163 rfl (Nat.le_of_ble_eq_true rfl) rfl rfl dX8_operand_73 (fun v420 v420l v420u v420w => ?_)
        have v420r : u407 = h396.2.1 70 4 := u407w
        have v420q : TI v420 u407.toInt := by rw [v420w.trans v420r.symm]; exact (ti_rfl u407)
        refine go_istore (pc := 76) (Nat.le_of_ble_eq_true rfl) dX8_operand_76 (go_lv (lv2 := [(0, .ref 70), (1, .int a2), (2, .int a3), (3, .int v340), (4, .int v403), (5, .int 0), (6, .int v420)]) rfl ?_)
        have z421 : (0 : Int32).toInt = 0 := (ti_c (v := 0) (a := 0) (by decide))
        have z422 : (v420 : Int32).toInt = u407.toInt := v420q
        have g423 : (0 : Int) ≤ (h396.2.1 70 3).toInt := (hv396.2.1 70 3).1
        have g424 : (h396.2.1 70 3).toInt ≤ 500 := (hv396.2.1 70 3).2
        have g425 : (0 : Int) ≤ (h396.2.1 70 4).toInt := (hv396.2.1 70 4).1
        have g426 : (h396.2.1 70 4).toInt ≤ 500 := (hv396.2.1 70 4).2
        have g427 : (-2147483648 : Int) ≤ (h396.2.1 70 5).toInt := (hv396.2.1 70 5).1
        have g428 : (h396.2.1 70 5).toInt ≤ 2147483647 := (hv396.2.1 70 5).2
        have g429 : (h396.2.1 70 3).toInt = u405.toInt := by rw [← (show u405 = h396.2.1 70 3 from u405w)] <;> exact (ti_rfl u405)
        have g430 : (h396.2.1 70 4).toInt = u407.toInt := by rw [← (show u407 = h396.2.1 70 4 from u407w)] <;> exact (ti_rfl u407)
        have g431 : (h396.2.1 70 5).toInt = u409.toInt := by rw [← (show u409 = h396.2.1 70 5 from u409w)] <;> exact (ti_rfl u409)
        exact go_lv rfl ((key 1519) a2 a3 0 v420 _ h396 hv396 (MW.rfl _) (by omega) (by omega) (by omega) (by omega) (by omega) (by omega) (by omega) (by omega) (ve332.trans ve396) (by omega) (by omega) (by omega) (by omega) (by omega) (by omega) (by omega) (by omega) (by omega) (by omega) (by omega) oh396 ck396 kp396 (by omega) (by omega) (by omega) (by omega) (by omega) (by omega) fx396 (by rw [show (0 : Int32).toInt = 0 from (ti_c (v := 0) (a := 0) (by decide)), show (v420 : Int32).toInt = u407.toInt from v420q]; exact k419) (by omega))
      ·
        have k432 := if_f k417 (fun z => z q418)
        refine go_aload_n (pc := 63) rfl dX8_operand_63 ?_
        refine go_iconst (pc := 64) (v := 1) (by decide) dX8_operand_64 ?_
        have g433 : (0 : Int) ≤ (h396.2.1 70 3).toInt := (hv396.2.1 70 3).1
        have g434 : (h396.2.1 70 3).toInt ≤ 500 := (hv396.2.1 70 3).2
        have g435 : (0 : Int) ≤ (h396.2.1 70 4).toInt := (hv396.2.1 70 4).1
        have g436 : (h396.2.1 70 4).toInt ≤ 500 := (hv396.2.1 70 4).2
        have g437 : (-2147483648 : Int) ≤ (h396.2.1 70 5).toInt := (hv396.2.1 70 5).1
        have g438 : (h396.2.1 70 5).toInt ≤ 2147483647 := (hv396.2.1 70 5).2
        have g439 : (h396.2.1 70 3).toInt = u405.toInt := by rw [← (show u405 = h396.2.1 70 3 from u405w)] <;> exact (ti_rfl u405)
        have g440 : (h396.2.1 70 4).toInt = u407.toInt := by rw [← (show u407 = h396.2.1 70 4 from u407w)] <;> exact (ti_rfl u407)
        have g441 : (h396.2.1 70 5).toInt = u409.toInt := by rw [← (show u409 = h396.2.1 70 5 from u409w)] <;> exact (ti_rfl u409)
        refine go_invV (pc := 65) (sl := 0) (s_X8_fails_f l (d + 1) hv396 1 (by rw [show (1 : Int32).toInt = 1 from (ti_c (v := 1) (a := 1) (by decide))]; omega) (by rw [show (1 : Int32).toInt = 1 from (ti_c (v := 1) (a := 1) (by decide))]; omega)) mL_X8_180 iM_X8_fails sM_X8_fails (hv396.sh rfl) rfl rfl rfl (Nat.le_of_ble_eq_true rfl) (show d + 1 + 1 + 1 ≤ d + 3 by omega) (show 8 + (2 + 11) + 40 * (d + 1 + 1) ≤ 40 * (d + 3) by omega) (g_c0 hv396.ln) (Nat.le_of_ble_eq_true rfl) dX8_operand_65 ?_
        intro r h442 hq _
        obtain ⟨rfl, hv442, f443, f444, f445, f446⟩ := hq
        try rw [show (1 : Int32).toInt = 1 from (ti_c (v := 1) (a := 1) (by decide))] at f443
        try rw [show (1 : Int32).toInt = 1 from (ti_c (v := 1) (a := 1) (by decide))] at f444
        try rw [show (1 : Int32).toInt = 1 from (ti_c (v := 1) (a := 1) (by decide))] at f445
        try rw [show (1 : Int32).toInt = 1 from (ti_c (v := 1) (a := 1) (by decide))] at f446
        have fx442 : FX KRt h h442 := FX.tr fx396 f446
        have k447 := bd_e k432 f445.symm
        have ve442 : VE h396.2.1 h442.2.1 := VE.of hv396 hv442
        have oh442 : OH h.2.1 h442.2.1 S := oh396.trans (OH.of hv396 hv442 S)
        have kp442 : KP h.2.1 h442.2.1 := kp396.trans (KP.ve ve442)
        have ck442 : CKF h.2.1 → CKF h442.2.1 := fun z => CKF.ve ve442 (ck396 z)
        have n73_442 : V h442.2.1 73 S = V h396.2.1 73 S := ve442.v (by omega) (by omega)
        have n74_442 : V h442.2.1 74 S = V h396.2.1 74 S := ve442.v (by omega) (by omega)
        have n75_442 : V h442.2.1 75 S = V h396.2.1 75 S := ve442.v (by omega) (by omega)
        obtain ⟨u448, u448w⟩ : ∃ v : Int32, v = h442.2.1 70 3 := ⟨_, rfl⟩
        have u448e : (h442.2.1 70 3).toInt = u448.toInt := by rw [u448w]
        have u448l : 0 ≤ u448.toInt := by rw [u448w]; exact (hv442.2.1 70 3).1
        have u448u : u448.toInt ≤ 500 := by rw [u448w]; exact (hv442.2.1 70 3).2
        have k449 := k447
        obtain ⟨u450, u450w⟩ : ∃ v : Int32, v = h442.2.1 70 4 := ⟨_, rfl⟩
        have u450e : (h442.2.1 70 4).toInt = u450.toInt := by rw [u450w]
        have u450l : 0 ≤ u450.toInt := by rw [u450w]; exact (hv442.2.1 70 4).1
        have u450u : u450.toInt ≤ 500 := by rw [u450w]; exact (hv442.2.1 70 4).2
        have k451 := k449
        obtain ⟨u452, u452w⟩ : ∃ v : Int32, v = h442.2.1 70 5 := ⟨_, rfl⟩
        have u452e : (h442.2.1 70 5).toInt = u452.toInt := by rw [u452w]
        have u452l : -2147483648 ≤ u452.toInt := by rw [u452w]; exact (hv442.2.1 70 5).1
        have u452u : u452.toInt ≤ 2147483647 := by rw [u452w]; exact (hv442.2.1 70 5).2
        have k453 := k451
        have g454 : (0 : Int) ≤ (h442.2.1 70 3).toInt := (hv442.2.1 70 3).1
        have g455 : (h442.2.1 70 3).toInt ≤ 500 := (hv442.2.1 70 3).2
        have g456 : (0 : Int) ≤ (h442.2.1 70 4).toInt := (hv442.2.1 70 4).1
        have g457 : (h442.2.1 70 4).toInt ≤ 500 := (hv442.2.1 70 4).2
        have g458 : (-2147483648 : Int) ≤ (h442.2.1 70 5).toInt := (hv442.2.1 70 5).1
        have g459 : (h442.2.1 70 5).toInt ≤ 2147483647 := (hv442.2.1 70 5).2
        have g460 : (h442.2.1 70 3).toInt = u448.toInt := by rw [← (show u448 = h442.2.1 70 3 from u448w)] <;> exact (ti_rfl u448)
        have g461 : (h442.2.1 70 4).toInt = u450.toInt := by rw [← (show u450 = h442.2.1 70 4 from u450w)] <;> exact (ti_rfl u450)
        have g462 : (h442.2.1 70 5).toInt = u452.toInt := by rw [← (show u452 = h442.2.1 70 5 from u452w)] <;> exact (ti_rfl u452)
        have pp463 : (h442.2.1 70 5).toInt = 0 → (h.2.1 70 5).toInt = 0 := (by omega)
        have pp464 : (h.2.1 70 4).toInt ≤ (h442.2.1 70 4).toInt := (by omega)
        have pp465 : (h442.2.1 70 5).toInt = 0 → OP h.2.1 h442.2.1 := (fun hg => ((((OP.rfl _).trans (OP.ve ve332)).trans (OP.ve ve396)).trans (OP.ve ve442)))
        have pp466 : V h442.2.1 73 S = V h.2.1 73 S := (by omega)
        have pp467 : V h442.2.1 74 S = V h.2.1 74 S := (by omega)
        have pp468 : V h442.2.1 75 S = V h.2.1 75 S := (by omega)
        have pp469 : st h442 = f_X8_operand (st h) a2.toInt a3.toInt := (k453.symm.trans kf)
        have pp470 : FX KRt h h442 := fx442
        subst hS
        exact gi_vret (pc := 68) ⟨rfl, ⟨_, hv442, (MW.rfl _)⟩, pp463, pp464, pp465, pp466, pp467, pp468, pp469, pp470, kp442, oh442, ck442⟩ hv442 dX8_operand_68
  ·
    have k471 := if_f k323 (fun z => z q324)
    have g472 : (0 : Int) ≤ (h.2.1 70 3).toInt := (hv.2.1 70 3).1
    have g473 : (h.2.1 70 3).toInt ≤ 500 := (hv.2.1 70 3).2
    have g474 : (0 : Int) ≤ (h.2.1 70 4).toInt := (hv.2.1 70 4).1
    have g475 : (h.2.1 70 4).toInt ≤ 500 := (hv.2.1 70 4).2
    have g476 : (-2147483648 : Int) ≤ (h.2.1 70 5).toInt := (hv.2.1 70 5).1
    have g477 : (h.2.1 70 5).toInt ≤ 2147483647 := (hv.2.1 70 5).2
    have pp478 : (h.2.1 70 5).toInt = 0 → (h.2.1 70 5).toInt = 0 := (by omega)
    have pp479 : (h.2.1 70 4).toInt ≤ (h.2.1 70 4).toInt := (by omega)
    have pp480 : (h.2.1 70 5).toInt = 0 → OP h.2.1 h.2.1 := (fun hg => (OP.rfl _))
    have pp481 : V h.2.1 73 S = V h.2.1 73 S := (by omega)
    have pp482 : V h.2.1 74 S = V h.2.1 74 S := (by omega)
    have pp483 : V h.2.1 75 S = V h.2.1 75 S := (by omega)
    have pp484 : st h = f_X8_operand (st h) a2.toInt a3.toInt := (k471.symm.trans kf)
    have pp485 : FX KRt h h := fx
    subst hS
    exact gi_vret (pc := 7) ⟨rfl, ⟨_, hv, (MW.rfl _)⟩, pp478, pp479, pp480, pp481, pp482, pp483, pp484, pp485, kp, oh, ck⟩ hv dX8_operand_7
def f_X8_newBlock (s : ST) (a2 : Int) (a3 : Int) : ST × Int :=
  bd (f_X8_isGood s) fun v5 => if v5 = 0 then (bd (f_X8_isGood s) fun v13 => if v13 = 0 then (bd (f_X8_isGood s) fun v21 => if ¬ v21 = 0 then (bd (s.1 70 6) fun v25 => bd (s.1 74 (v25).toNat) fun v30 => bd (s.1 74 (v25).toNat) fun v35 => bd (sI s 74 (v25).toNat ((v35 + 1))) fun s39 => bd (sI s39 90 (((280 * v25) + v30)).toNat (-1)) fun s41 => bd (sI s41 91 (((280 * v25) + v30)).toNat (-1)) fun s43 => bd (sI s43 92 (((280 * v25) + v30)).toNat a2) fun s45 => bd (s45.1 70 4) fun v47 => bd (sI s45 70 4 ((v47 + 1))) fun s52 => (s52, ((280 * v25) + v30))) else ((s, 0))) else (if a3 ≤ 6 then (bd (f_X8_isGood s) fun v97 => if ¬ v97 = 0 then (bd (s.1 70 6) fun v101 => bd (s.1 74 (v101).toNat) fun v106 => bd (s.1 74 (v101).toNat) fun v111 => bd (sI s 74 (v101).toNat ((v111 + 1))) fun s115 => bd (sI s115 90 (((280 * v101) + v106)).toNat (-1)) fun s117 => bd (sI s117 91 (((280 * v101) + v106)).toNat (-1)) fun s119 => bd (sI s119 92 (((280 * v101) + v106)).toNat a2) fun s121 => bd (s121.1 70 4) fun v123 => bd (sI s121 70 4 ((v123 + 1))) fun s128 => (s128, ((280 * v101) + v106))) else ((s, 0))) else (bd (f_X8_fails s 4) fun s171 => bd (s171.1 70 4) fun u177 => bd (f_X8_isGood s171) fun v185 => if ¬ v185 = 0 then (bd (s171.1 70 6) fun v189 => bd (s171.1 74 (v189).toNat) fun v194 => bd (s171.1 74 (v189).toNat) fun v199 => bd (sI s171 74 (v189).toNat ((v199 + 1))) fun s203 => bd (sI s203 90 (((280 * v189) + v194)).toNat (-1)) fun s205 => bd (sI s205 91 (((280 * v189) + v194)).toNat (-1)) fun s207 => bd (sI s207 92 (((280 * v189) + v194)).toNat a2) fun s209 => bd (sI s209 70 4 ((u177 + 1))) fun s214 => (s214, ((280 * v189) + v194))) else ((s171, 0))))) else (bd2 (f_X8_here s) fun s260 v267 => bd (s260.1 70 4) fun u269 => if v267 = 123 then (bd (f_X8_isGood s260) fun v279 => if v279 = 0 then (bd (f_X8_isGood s260) fun v287 => if ¬ v287 = 0 then (bd (s260.1 70 6) fun v291 => bd (s260.1 74 (v291).toNat) fun v296 => bd (s260.1 74 (v291).toNat) fun v301 => bd (sI s260 74 (v291).toNat ((v301 + 1))) fun s305 => bd (sI s305 90 (((280 * v291) + v296)).toNat (-1)) fun s307 => bd (sI s307 91 (((280 * v291) + v296)).toNat (-1)) fun s309 => bd (sI s309 92 (((280 * v291) + v296)).toNat a2) fun s311 => bd (sI s311 70 4 ((u269 + 1))) fun s316 => (s316, ((280 * v291) + v296))) else ((s260, 0))) else (if a3 ≤ 6 then (bd (f_X8_isGood s260) fun v364 => if ¬ v364 = 0 then (bd (s260.1 70 6) fun v368 => bd (s260.1 74 (v368).toNat) fun v373 => bd (s260.1 74 (v368).toNat) fun v378 => bd (sI s260 74 (v368).toNat ((v378 + 1))) fun s382 => bd (sI s382 90 (((280 * v368) + v373)).toNat (-1)) fun s384 => bd (sI s384 91 (((280 * v368) + v373)).toNat (-1)) fun s386 => bd (sI s386 92 (((280 * v368) + v373)).toNat a2) fun s388 => bd (sI s388 70 4 ((u269 + 1))) fun s393 => (s393, ((280 * v368) + v373))) else ((s260, 0))) else (bd (f_X8_fails s260 4) fun s441 => bd (s441.1 70 4) fun u447 => bd (f_X8_isGood s441) fun v455 => if ¬ v455 = 0 then (bd (s441.1 70 6) fun v459 => bd (s441.1 74 (v459).toNat) fun v464 => bd (s441.1 74 (v459).toNat) fun v469 => bd (sI s441 74 (v459).toNat ((v469 + 1))) fun s473 => bd (sI s473 90 (((280 * v459) + v464)).toNat (-1)) fun s475 => bd (sI s475 91 (((280 * v459) + v464)).toNat (-1)) fun s477 => bd (sI s477 92 (((280 * v459) + v464)).toNat a2) fun s479 => bd (sI s479 70 4 ((u447 + 1))) fun s484 => (s484, ((280 * v459) + v464))) else ((s441, 0))))) else (bd (f_X8_fails s260 1) fun s532 => bd (s532.1 70 4) fun u538 => bd (f_X8_isGood s532) fun v546 => if v546 = 0 then (bd (f_X8_isGood s532) fun v554 => if ¬ v554 = 0 then (bd (s532.1 70 6) fun v558 => bd (s532.1 74 (v558).toNat) fun v563 => bd (s532.1 74 (v558).toNat) fun v568 => bd (sI s532 74 (v558).toNat ((v568 + 1))) fun s572 => bd (sI s572 90 (((280 * v558) + v563)).toNat (-1)) fun s574 => bd (sI s574 91 (((280 * v558) + v563)).toNat (-1)) fun s576 => bd (sI s576 92 (((280 * v558) + v563)).toNat a2) fun s578 => bd (sI s578 70 4 ((u538 + 1))) fun s583 => (s583, ((280 * v558) + v563))) else ((s532, 0))) else (if a3 ≤ 6 then (bd (f_X8_isGood s532) fun v631 => if ¬ v631 = 0 then (bd (s532.1 70 6) fun v635 => bd (s532.1 74 (v635).toNat) fun v640 => bd (s532.1 74 (v635).toNat) fun v645 => bd (sI s532 74 (v635).toNat ((v645 + 1))) fun s649 => bd (sI s649 90 (((280 * v635) + v640)).toNat (-1)) fun s651 => bd (sI s651 91 (((280 * v635) + v640)).toNat (-1)) fun s653 => bd (sI s653 92 (((280 * v635) + v640)).toNat a2) fun s655 => bd (sI s655 70 4 ((u538 + 1))) fun s660 => (s660, ((280 * v635) + v640))) else ((s532, 0))) else (bd (f_X8_fails s532 4) fun s708 => bd (s708.1 70 4) fun u714 => bd (f_X8_isGood s708) fun v722 => if ¬ v722 = 0 then (bd (s708.1 70 6) fun v726 => bd (s708.1 74 (v726).toNat) fun v731 => bd (s708.1 74 (v726).toNat) fun v736 => bd (sI s708 74 (v726).toNat ((v736 + 1))) fun s740 => bd (sI s740 90 (((280 * v726) + v731)).toNat (-1)) fun s742 => bd (sI s742 91 (((280 * v726) + v731)).toNat (-1)) fun s744 => bd (sI s744 92 (((280 * v726) + v731)).toNat a2) fun s746 => bd (sI s746 70 4 ((u714 + 1))) fun s751 => (s751, ((280 * v726) + v731))) else ((s708, 0))))))
set_option maxHeartbeats 4000000 in
set_option maxRecDepth 100000 in
theorem s_X8_newBlock_f (l : Launch) (d : Nat) {P : PP} {h : HP} (hv : Iv P h) (a2 : Int32) (a2l : -1 ≤ a2.toInt) (a2u : a2.toInt ≤ 259) (a3 : Int32) (a3l : 0 ≤ a3.toInt) (a3u : a3.toInt ≤ 7) (hb : (h.2.1 70 5).toInt = 0 → 2 * V h.2.1 74 (h.2.1 70 6).toInt ≤ (h.2.1 70 4).toInt + a3.toInt) : Mt l yX8_newBlock cX8_newBlock 4 (some .int) (d + 2) [.ref 70, .int a2, .int a3] h 0 0 (fun r h' => ∃ v : Int32, r = some (.int v) ∧ 0 ≤ v.toInt ∧ v.toInt ≤ 559 ∧ (∃ Q : PP, Iv Q h' ∧ MW P Q) ∧ ((h'.2.1 70 5).toInt = 0 → (h.2.1 70 5).toInt = 0) ∧ ((h.2.1 70 4).toInt ≤ (h'.2.1 70 4).toInt) ∧ ((h'.2.1 70 5).toInt = 0 → (h.2.1 70 4).toInt + 1 ≤ (h'.2.1 70 4).toInt ∧ a3.toInt ≤ 6 ∧ V h'.2.1 74 (h.2.1 70 6).toInt = V h.2.1 74 (h.2.1 70 6).toInt + 1) ∧ (V h'.2.1 73 (h.2.1 70 6).toInt = V h.2.1 73 (h.2.1 70 6).toInt) ∧ (V h'.2.1 75 (h.2.1 70 6).toInt = V h.2.1 75 (h.2.1 70 6).toInt) ∧ ((h'.2.1 70 5).toInt = 0 → ∀ d : Int, LI h.2.1 h'.2.1 (h.2.1 70 6).toInt a2.toInt d v.toInt) ∧ ((st h', v.toInt) = f_X8_newBlock (st h) a2.toInt a3.toInt) ∧ (FX KRt h h') ∧ (KP h.2.1 h'.2.1) ∧ (OH h.2.1 h'.2.1 (h.2.1 70 6).toInt) ∧ (CKF h.2.1 → CKF h'.2.1)) := by
  refine Mt_iv hv (by decide) (Nat.le_of_ble_eq_true rfl) ?_
  show Go l RX8 cX8_newBlock 4 (g_rm (d + 2) 0 0) "newBlock" (some .int) 117 0 0 (fun _ _ => True) (fun r h' => ∃ v : Int32, r = some (.int v) ∧ 0 ≤ v.toInt ∧ v.toInt ≤ 559 ∧ (∃ Q : PP, Iv Q h' ∧ MW P Q) ∧ ((h'.2.1 70 5).toInt = 0 → (h.2.1 70 5).toInt = 0) ∧ ((h.2.1 70 4).toInt ≤ (h'.2.1 70 4).toInt) ∧ ((h'.2.1 70 5).toInt = 0 → (h.2.1 70 4).toInt + 1 ≤ (h'.2.1 70 4).toInt ∧ a3.toInt ≤ 6 ∧ V h'.2.1 74 (h.2.1 70 6).toInt = V h.2.1 74 (h.2.1 70 6).toInt + 1) ∧ (V h'.2.1 73 (h.2.1 70 6).toInt = V h.2.1 73 (h.2.1 70 6).toInt) ∧ (V h'.2.1 75 (h.2.1 70 6).toInt = V h.2.1 75 (h.2.1 70 6).toInt) ∧ ((h'.2.1 70 5).toInt = 0 → ∀ d : Int, LI h.2.1 h'.2.1 (h.2.1 70 6).toInt a2.toInt d v.toInt) ∧ ((st h', v.toInt) = f_X8_newBlock (st h) a2.toInt a3.toInt) ∧ (FX KRt h h') ∧ (KP h.2.1 h'.2.1) ∧ (OH h.2.1 h'.2.1 (h.2.1 70 6).toInt) ∧ (CKF h.2.1 → CKF h'.2.1)) 0 0 [(0, .ref 70), (1, .int a2), (2, .int a3)] [] h
  obtain ⟨S, hS⟩ : ∃ S : Int, S = (h.2.1 70 6).toInt := ⟨_, rfl⟩
  have S0 : 0 ≤ S := by rw [hS]; exact (hv.2.1 70 6).1
  have S1 : S ≤ 1 := by rw [hS]; exact (hv.2.1 70 6).2
  have oh : OH h.2.1 h.2.1 S := OH.rfl _ _
  have ck : CKF h.2.1 → CKF h.2.1 := id
  have kp : KP h.2.1 h.2.1 := KP.rfl _
  rw [← hS] at hb
  have fx : FX KRt h h := FX.rfl
  obtain ⟨fin, kf⟩ : ∃ z, z = f_X8_newBlock (st h) a2.toInt a3.toInt := ⟨_, _root_.rfl⟩
  have k0 := kf
  unfold f_X8_newBlock at k0
  refine go_aload_n (pc := 0) rfl dX8_newBlock_0 ?_
  refine go_invV (pc := 1) (sl := 0) (s_X8_isGood_f l (d + 0) hv ) mL_X8_172 iM_X8_isGood sM_X8_isGood (hv.sh rfl) rfl rfl rfl (Nat.le_of_ble_eq_true rfl) (show d + 0 + 1 + 1 ≤ d + 2 by omega) (show 8 + (1 + 11) + 40 * (d + 0 + 1) ≤ 40 * (d + 2) by omega) (g_c0 hv.ln) (Nat.le_of_ble_eq_true rfl) dX8_newBlock_1 ?_
  intro r h1 hq _
  obtain ⟨v5, rfl, v5l, v5u, rfl, f2, f3, f4⟩ := hq
  replace f4 : PE _ _ := f4
  have k6 := bd_e k0 f4.symm
  refine gf_if_eq (pc := 4) (tgt := 21) (ti_rfl v5) (by decide) dX8_newBlock_4 (fun q7 => ?_) (fun q7 => ?_)
  ·
    have k8 := if_t k6 q7
    refine go_aload_n (pc := 21) rfl dX8_newBlock_21 ?_
    refine go_invV (pc := 22) (sl := 0) (s_X8_isGood_f l (d + 0) hv ) mL_X8_172 iM_X8_isGood sM_X8_isGood (hv.sh rfl) rfl rfl rfl (Nat.le_of_ble_eq_true rfl) (show d + 0 + 1 + 1 ≤ d + 2 by omega) (show 8 + (1 + 11) + 40 * (d + 0 + 1) ≤ 40 * (d + 2) by omega) (g_c0 hv.ln) (Nat.le_of_ble_eq_true rfl) dX8_newBlock_22 ?_
    intro r h9 hq _
    obtain ⟨v13, rfl, v13l, v13u, rfl, f10, f11, f12⟩ := hq
    replace f12 : PE _ _ := f12
    have k14 := bd_e k8 f12.symm
    refine gf_if_eq (pc := 25) (tgt := 39) (ti_rfl v13) (by decide) dX8_newBlock_25 (fun q15 => ?_) (fun q15 => ?_)
    ·
      have k16 := if_t k14 q15
      refine go_aload_n (pc := 39) rfl dX8_newBlock_39 ?_
      refine go_invV (pc := 40) (sl := 0) (s_X8_isGood_f l (d + 0) hv ) mL_X8_172 iM_X8_isGood sM_X8_isGood (hv.sh rfl) rfl rfl rfl (Nat.le_of_ble_eq_true rfl) (show d + 0 + 1 + 1 ≤ d + 2 by omega) (show 8 + (1 + 11) + 40 * (d + 0 + 1) ≤ 40 * (d + 2) by omega) (g_c0 hv.ln) (Nat.le_of_ble_eq_true rfl) dX8_newBlock_40 ?_
      intro r h17 hq _
      obtain ⟨v21, rfl, v21l, v21u, rfl, f18, f19, f20⟩ := hq
      replace f20 : PE _ _ := f20
      have k22 := bd_e k16 f20.symm
      refine gf_if_ne (pc := 43) (tgt := 48) (ti_rfl v21) (by decide) dX8_newBlock_43 (fun q23 => ?_) (fun q23 => ?_)
      ·
        have k24 := if_t k22 q23
        refine go_sipush (pc := 48) (v := 280) (by decide) dX8_newBlock_48 ?_
        refine go_aload_n (pc := 51) rfl dX8_newBlock_51 ?_
        refine gi_get (pc := 52) (lo := 0) (hi := 1) hv fL_X8_187 rfl (Nat.le_of_ble_eq_true rfl) rfl rfl dX8_newBlock_52 (fun v25 v25l v25u v25w => ?_)
        have k26 := bd_e k24 (congrArg Int32.toInt v25w.symm)
        have v25S : v25.toInt = S := by rw [v25w]; exact (congrArg Int32.toInt oh.side).trans hS.symm
        refine gf_imul (pc := 55) (ti_c (v := 280) (a := 280) (by decide)) (ti_rfl v25) (by omega) (by omega) dX8_newBlock_55 (fun v27 e28 => ?_)
        refine go_aload_n (pc := 56) rfl dX8_newBlock_56 ?_
        refine gi_getF (pc := 57) (q := 74) hv fL_X8_20 rfl (Nat.le_of_ble_eq_true rfl) rfl (hv.rf (by decide)) dX8_newBlock_57 ?_
        refine go_aload_n (pc := 60) rfl dX8_newBlock_60 ?_
        refine gi_get (pc := 61) (lo := 0) (hi := 1) hv fL_X8_187 rfl (Nat.le_of_ble_eq_true rfl) rfl rfl dX8_newBlock_61 (fun v29 v29l v29u v29w => ?_)
        have v29r : v25 = h.2.1 70 6 := v25w
        have v29q : TI v29 v25.toInt := by rw [v29w.trans v29r.symm]; exact (ti_rfl v25)
        refine gi_iald (pc := 64) (lo := 0) (hi := 280) (len := 2) hv v29q rfl (by omega) (by omega) (fun _ => rfl) dX8_newBlock_64 (fun v30 v30l v30u v30w => ?_)
        have k31 := bd_e k26 (congrArg Int32.toInt v30w.symm)
        have v30V : v30.toInt = V h.2.1 74 S := by rw [v30w, v25S]; rfl
        refine gf_iadd (pc := 65) e28 (ti_rfl v30) (by omega) (by omega) dX8_newBlock_65 (fun v32 e33 => ?_)
        refine go_istore_n (pc := 66) (Nat.le_of_ble_eq_true rfl) dX8_newBlock_66 (go_lv (lv2 := [(0, .ref 70), (1, .int a2), (2, .int a3), (3, .int v32)]) rfl ?_)
        refine go_aload_n (pc := 67) rfl dX8_newBlock_67 ?_
        refine gi_getF (pc := 68) (q := 74) hv fL_X8_20 rfl (Nat.le_of_ble_eq_true rfl) rfl (hv.rf (by decide)) dX8_newBlock_68 ?_
        refine go_aload_n (pc := 71) rfl dX8_newBlock_71 ?_
        refine gi_get (pc := 72) (lo := 0) (hi := 1) hv fL_X8_187 rfl (Nat.le_of_ble_eq_true rfl) rfl rfl dX8_newBlock_72 (fun v34 v34l v34u v34w => ?_)
        have v34r : v25 = h.2.1 70 6 := v25w
        have v34q : TI v34 v25.toInt := by rw [v34w.trans v34r.symm]; exact (ti_rfl v25)
        refine go_dup2 (pc := 75) rfl rfl dX8_newBlock_75 ?_
        refine gi_iald (pc := 76) (lo := 0) (hi := 280) (len := 2) hv v34q rfl (by omega) (by omega) (fun _ => rfl) dX8_newBlock_76 (fun v35 v35l v35u v35w => ?_)
        have k36 := bd_e k31 (congrArg Int32.toInt v35w.symm)
        have v35V : v35.toInt = V h.2.1 74 S := by rw [v35w, v25S]; rfl
        refine go_iconst (pc := 77) (v := 1) (by decide) dX8_newBlock_77 ?_
        refine gf_iadd (pc := 78) (ti_rfl v35) (ti_c (v := 1) (a := 1) (by decide)) (by omega) (by omega) dX8_newBlock_78 (fun v37 e38 => ?_)
        refine gi_fst (pc := 79) (lo := 0) (hi := 280) (len := 2) hv v34q e38 rfl (by omega) (by omega) (fun _ => rfl) (by omega) (by omega) (by omega) dX8_newBlock_79 (fun h39 hv39 hv39e => ?_)
        have fx39 : FX KRt h h39 := FX.pI fx hv39e (by unfold KRt; omega)
        have k40 := bd_e k36 (st_I hv39e e38)
        refine go_aload_n (pc := 80) rfl dX8_newBlock_80 ?_
        refine gi_getF (pc := 81) (q := 90) hv39 fL_X8_68 rfl (Nat.le_of_ble_eq_true rfl) rfl (hv39.rf (by decide)) dX8_newBlock_81 ?_
        refine go_iload_n (pc := 84) rfl dX8_newBlock_84 ?_
        refine go_iconst (pc := 85) (v := (-1)) (by decide) dX8_newBlock_85 ?_
        refine gi_fst (pc := 86) (lo := -1) (hi := 259) (len := 560) hv39 e33 (ti_c (v := (-1)) (a := (-1)) (by decide)) rfl (by omega) (by omega) (fun _ => rfl) (by omega) (by omega) (by omega) dX8_newBlock_86 (fun h41 hv41 hv41e => ?_)
        have fx41 : FX KRt h h41 := FX.pI fx39 hv41e (by unfold KRt; omega)
        have k42 := bd_e k40 (st_I hv41e (ti_c (v := (-1)) (a := (-1)) (by decide)))
        refine go_aload_n (pc := 87) rfl dX8_newBlock_87 ?_
        refine gi_getF (pc := 88) (q := 91) hv41 fL_X8_71 rfl (Nat.le_of_ble_eq_true rfl) rfl (hv41.rf (by decide)) dX8_newBlock_88 ?_
        refine go_iload_n (pc := 91) rfl dX8_newBlock_91 ?_
        refine go_iconst (pc := 92) (v := (-1)) (by decide) dX8_newBlock_92 ?_
        refine gi_fst (pc := 93) (lo := -1) (hi := 259) (len := 560) hv41 e33 (ti_c (v := (-1)) (a := (-1)) (by decide)) rfl (by omega) (by omega) (fun _ => rfl) (by omega) (by omega) (by omega) dX8_newBlock_93 (fun h43 hv43 hv43e => ?_)
        have fx43 : FX KRt h h43 := FX.pI fx41 hv43e (by unfold KRt; omega)
        have k44 := bd_e k42 (st_I hv43e (ti_c (v := (-1)) (a := (-1)) (by decide)))
        refine go_aload_n (pc := 94) rfl dX8_newBlock_94 ?_
        refine gi_getF (pc := 95) (q := 92) hv43 fL_X8_74 rfl (Nat.le_of_ble_eq_true rfl) rfl (hv43.rf (by decide)) dX8_newBlock_95 ?_
        refine go_iload_n (pc := 98) rfl dX8_newBlock_98 ?_
        refine go_iload_n (pc := 99) rfl dX8_newBlock_99 ?_
        refine gi_fst (pc := 100) (lo := -1) (hi := 259) (len := 560) hv43 e33 (ti_rfl a2) rfl (by omega) (by omega) (fun _ => rfl) (by omega) (by omega) (by omega) dX8_newBlock_100 (fun h45 hv45 hv45e => ?_)
        have fx45 : FX KRt h h45 := FX.pI fx43 hv45e (by unfold KRt; omega)
        have k46 := bd_e k44 (st_I hv45e (ti_rfl a2))
        refine go_aload_n (pc := 101) rfl dX8_newBlock_101 ?_
        refine go_dup (pc := 102) rfl dX8_newBlock_102 ?_
        refine gi_get (pc := 103) (lo := 0) (hi := 500) hv45 fL_X8_163 rfl (Nat.le_of_ble_eq_true rfl) rfl rfl dX8_newBlock_103 (fun v47 v47l v47u v47w => ?_)
        have k48 := bd_e k46 (congrArg Int32.toInt v47w.symm)
        have g49 : (h45.2.1 70 4).toInt = v47.toInt := by rw [v47w]
        refine go_iconst (pc := 106) (v := 1) (by decide) dX8_newBlock_106 ?_
        refine gf_iadd (pc := 107) (ti_rfl v47) (ti_c (v := 1) (a := 1) (by decide)) (by omega) (by omega) dX8_newBlock_107 (fun v50 e51 => ?_)
        have E45 : h45.2.1 = (w1 (w1 (w1 (w1 h.2.1 74 S (v37 : Int32)) 90 (((280 * S) + v30.toInt)) ((-1) : Int32)) 91 (((280 * S) + v30.toInt)) ((-1) : Int32)) 92 (((280 * S) + v30.toInt)) (a2 : Int32)) := by
          rw [hv45e, hv43e, hv41e, hv39e]
          rw [v25S]
          rfl
        have oh45 : OH h.2.1 h45.2.1 S := by rw [E45]; exact ((((oh.trans (OH.w 1 rfl (by omega) (by omega) (by omega) (by omega))).trans (OH.w 280 rfl (by omega) (by omega) (by omega) (by omega))).trans (OH.w 280 rfl (by omega) (by omega) (by omega) (by omega))).trans (OH.w 280 rfl (by omega) (by omega) (by omega) (by omega)))
        have kp45 : KP h.2.1 h45.2.1 := by rw [E45]; exact ((((kp.trans (KP.w (by omega))).trans (KP.w (by omega))).trans (KP.w (by omega))).trans (KP.w (by omega)))
        have n73_45 : V h45.2.1 73 S = V h.2.1 73 S := by rw [E45, V_ne (by omega), V_ne (by omega), V_ne (by omega), V_ne (by omega)]
        have n74_45 : V h45.2.1 74 S = (v35.toInt + 1) := by rw [E45, V_ne (by omega), V_ne (by omega), V_ne (by omega), V_eq]; exact e38
        have n75_45 : V h45.2.1 75 S = V h.2.1 75 S := by rw [E45, V_ne (by omega), V_ne (by omega), V_ne (by omega), V_ne (by omega)]
        have ck45 : CKF h.2.1 → CKF h45.2.1 := fun z => by rw [E45]; exact (CKF.w (by omega) (CKF.w (by omega) (CKF.w (by omega) (CKF.w (by omega) (ck z)))))
        refine gi_put (pc := 108) (lo := 0) (hi := 500) hv45 e51 (fP_X8_163 _) rfl (Nat.le_of_ble_eq_true rfl) rfl rfl (by omega) (by omega) rfl rfl (by decide) (by decide) (by decide) (by decide) dX8_newBlock_108 (fun h52 hv52 hv52e => ?_)
        have fx52 : FX KRt h h52 := FX.pI fx45 hv52e (by unfold KRt; omega)
        have k53 := bd_e k48 (st_I hv52e e51)
        have ve52 : VE h45.2.1 h52.2.1 := VE.of hv45 hv52
        have oh52 : OH h.2.1 h52.2.1 S := oh45.trans (OH.of hv45 hv52 S)
        have kp52 : KP h.2.1 h52.2.1 := kp45.trans (KP.ve ve52)
        have ck52 : CKF h.2.1 → CKF h52.2.1 := fun z => CKF.ve ve52 (ck45 z)
        have n73_52 : V h52.2.1 73 S = V h45.2.1 73 S := ve52.v (by omega) (by omega)
        have n74_52 : V h52.2.1 74 S = V h45.2.1 74 S := ve52.v (by omega) (by omega)
        have n75_52 : V h52.2.1 75 S = V h45.2.1 75 S := ve52.v (by omega) (by omega)
        refine go_iload_n (pc := 111) rfl dX8_newBlock_111 ?_
        have g54 : (0 : Int) ≤ (h52.2.1 70 4).toInt := (hv52.2.1 70 4).1
        have g55 : (h52.2.1 70 4).toInt ≤ 500 := (hv52.2.1 70 4).2
        have g56 : (-2147483648 : Int) ≤ (h52.2.1 70 5).toInt := (hv52.2.1 70 5).1
        have g57 : (h52.2.1 70 5).toInt ≤ 2147483647 := (hv52.2.1 70 5).2
        have g58 : (h52.2.1 70 4).toInt = (v47.toInt + 1) := by rw [← (show v50 = h52.2.1 70 4 from (show v50 = h52.2.1 70 4 from by rw [hv52e]; exact g_iS.symm))] <;> exact e51
        have z60 : (v32 : Int32).toInt = ((280 * v25.toInt) + v30.toInt) := e33
        have pp59 : (h52.2.1 70 5).toInt = 0 → (h.2.1 70 5).toInt = 0 := (by omega)
        have z62 : (v32 : Int32).toInt = ((280 * v25.toInt) + v30.toInt) := e33
        have pp61 : (h.2.1 70 4).toInt ≤ (h52.2.1 70 4).toInt := (by omega)
        have z64 : (v32 : Int32).toInt = ((280 * v25.toInt) + v30.toInt) := e33
        have pp63 : (h52.2.1 70 5).toInt = 0 → (h.2.1 70 4).toInt + 1 ≤ (h52.2.1 70 4).toInt ∧ a3.toInt ≤ 6 ∧ V h52.2.1 74 S = V h.2.1 74 S + 1 := (by omega)
        have z66 : (v32 : Int32).toInt = ((280 * v25.toInt) + v30.toInt) := e33
        have pp65 : V h52.2.1 73 S = V h.2.1 73 S := (by omega)
        have z68 : (v32 : Int32).toInt = ((280 * v25.toInt) + v30.toInt) := e33
        have pp67 : V h52.2.1 75 S = V h.2.1 75 S := (by omega)
        have zz : (v32 : Int32).toInt = ((280 * v25.toInt) + v30.toInt) := e33
        have zy : (v37 : Int32).toInt = (v35.toInt + 1) := e38
        have pp69 : (h52.2.1 70 5).toInt = 0 → ∀ d : Int, LI h.2.1 h52.2.1 S a2.toInt d (v32 : Int32).toInt := (fun hg d => by rw [show (v32 : Int32).toInt = ((280 * S) + v30.toInt) from (by omega)]; exact LI.ve0 (VE.rfl _) (LI.init (x := (v37 : Int32)) (y := ((-1) : Int32)) (z := ((-1) : Int32)) (w := (a2 : Int32)) S0 (by rw [← E45]; exact ve52) (by omega) (by omega) (by decide) (by decide) rfl))
        have pp70 : (st h52, (v32 : Int32).toInt) = f_X8_newBlock (st h) a2.toInt a3.toInt := (by rw [show (v32 : Int32).toInt = ((280 * v25.toInt) + v30.toInt) from e33]; exact k53.symm.trans kf)
        have pp71 : FX KRt h h52 := fx52
        subst hS
        exact gi_iret (pc := 112) e33 ⟨_, rfl, (by rw [show (v32 : Int32).toInt = ((280 * v25.toInt) + v30.toInt) from e33]; omega), (by rw [show (v32 : Int32).toInt = ((280 * v25.toInt) + v30.toInt) from e33]; omega), ⟨_, hv52, (MW.trans (MW.trans (MW.trans (MW.mz _ _) (MW.mz _ _)) (MW.mz _ _)) (MW.mz _ _))⟩, pp59, pp61, pp63, pp65, pp67, pp69, pp70, pp71, kp52, oh52, ck52⟩ hv52 dX8_newBlock_112
      ·
        have k72 := if_f k22 (fun z => z q23)
        refine go_iconst (pc := 46) (v := 0) (by decide) dX8_newBlock_46 ?_
        have g73 : (0 : Int) ≤ (h.2.1 70 4).toInt := (hv.2.1 70 4).1
        have g74 : (h.2.1 70 4).toInt ≤ 500 := (hv.2.1 70 4).2
        have g75 : (-2147483648 : Int) ≤ (h.2.1 70 5).toInt := (hv.2.1 70 5).1
        have g76 : (h.2.1 70 5).toInt ≤ 2147483647 := (hv.2.1 70 5).2
        have z78 : (0 : Int32).toInt = 0 := (ti_c (v := 0) (a := 0) (by decide))
        have pp77 : (h.2.1 70 5).toInt = 0 → (h.2.1 70 5).toInt = 0 := (by omega)
        have z80 : (0 : Int32).toInt = 0 := (ti_c (v := 0) (a := 0) (by decide))
        have pp79 : (h.2.1 70 4).toInt ≤ (h.2.1 70 4).toInt := (by omega)
        have z82 : (0 : Int32).toInt = 0 := (ti_c (v := 0) (a := 0) (by decide))
        have pp81 : (h.2.1 70 5).toInt = 0 → (h.2.1 70 4).toInt + 1 ≤ (h.2.1 70 4).toInt ∧ a3.toInt ≤ 6 ∧ V h.2.1 74 S = V h.2.1 74 S + 1 := (by omega)
        have z84 : (0 : Int32).toInt = 0 := (ti_c (v := 0) (a := 0) (by decide))
        have pp83 : V h.2.1 73 S = V h.2.1 73 S := (by omega)
        have z86 : (0 : Int32).toInt = 0 := (ti_c (v := 0) (a := 0) (by decide))
        have pp85 : V h.2.1 75 S = V h.2.1 75 S := (by omega)
        have pp87 : (h.2.1 70 5).toInt = 0 → ∀ d : Int, LI h.2.1 h.2.1 S a2.toInt d (0 : Int32).toInt := (fun hg => absurd hg (by omega))
        have pp88 : (st h, (0 : Int32).toInt) = f_X8_newBlock (st h) a2.toInt a3.toInt := (by rw [show (0 : Int32).toInt = 0 from (ti_c (v := 0) (a := 0) (by decide))]; exact k72.symm.trans kf)
        have pp89 : FX KRt h h := fx
        subst hS
        exact gi_iret (pc := 47) (ti_c (v := 0) (a := 0) (by decide)) ⟨_, rfl, (by rw [show (0 : Int32).toInt = 0 from (ti_c (v := 0) (a := 0) (by decide))]; omega), (by rw [show (0 : Int32).toInt = 0 from (ti_c (v := 0) (a := 0) (by decide))]; omega), ⟨_, hv, (MW.rfl _)⟩, pp77, pp79, pp81, pp83, pp85, pp87, pp88, pp89, kp, oh, ck⟩ hv dX8_newBlock_47
    ·
      have k90 := if_f k14 q15
      refine go_iload_n (pc := 28) rfl dX8_newBlock_28 ?_
      refine go_bipush (pc := 29) (v := 6) (by decide) dX8_newBlock_29 ?_
      refine gf_icmp_le (pc := 31) (tgt := 39) (ti_rfl a3) (ti_c (v := 6) (a := 6) (by decide)) (by decide) dX8_newBlock_31 (fun q91 => ?_) (fun q91 => ?_)
      ·
        have k92 := if_t k90 q91
        refine go_aload_n (pc := 39) rfl dX8_newBlock_39 ?_
        refine go_invV (pc := 40) (sl := 0) (s_X8_isGood_f l (d + 0) hv ) mL_X8_172 iM_X8_isGood sM_X8_isGood (hv.sh rfl) rfl rfl rfl (Nat.le_of_ble_eq_true rfl) (show d + 0 + 1 + 1 ≤ d + 2 by omega) (show 8 + (1 + 11) + 40 * (d + 0 + 1) ≤ 40 * (d + 2) by omega) (g_c0 hv.ln) (Nat.le_of_ble_eq_true rfl) dX8_newBlock_40 ?_
        intro r h93 hq _
        obtain ⟨v97, rfl, v97l, v97u, rfl, f94, f95, f96⟩ := hq
        replace f96 : PE _ _ := f96
        have k98 := bd_e k92 f96.symm
        refine gf_if_ne (pc := 43) (tgt := 48) (ti_rfl v97) (by decide) dX8_newBlock_43 (fun q99 => ?_) (fun q99 => ?_)
        ·
          have k100 := if_t k98 q99
          refine go_sipush (pc := 48) (v := 280) (by decide) dX8_newBlock_48 ?_
          refine go_aload_n (pc := 51) rfl dX8_newBlock_51 ?_
          refine gi_get (pc := 52) (lo := 0) (hi := 1) hv fL_X8_187 rfl (Nat.le_of_ble_eq_true rfl) rfl rfl dX8_newBlock_52 (fun v101 v101l v101u v101w => ?_)
          have k102 := bd_e k100 (congrArg Int32.toInt v101w.symm)
          have v101S : v101.toInt = S := by rw [v101w]; exact (congrArg Int32.toInt oh.side).trans hS.symm
          refine gf_imul (pc := 55) (ti_c (v := 280) (a := 280) (by decide)) (ti_rfl v101) (by omega) (by omega) dX8_newBlock_55 (fun v103 e104 => ?_)
          refine go_aload_n (pc := 56) rfl dX8_newBlock_56 ?_
          refine gi_getF (pc := 57) (q := 74) hv fL_X8_20 rfl (Nat.le_of_ble_eq_true rfl) rfl (hv.rf (by decide)) dX8_newBlock_57 ?_
          refine go_aload_n (pc := 60) rfl dX8_newBlock_60 ?_
          refine gi_get (pc := 61) (lo := 0) (hi := 1) hv fL_X8_187 rfl (Nat.le_of_ble_eq_true rfl) rfl rfl dX8_newBlock_61 (fun v105 v105l v105u v105w => ?_)
          have v105r : v101 = h.2.1 70 6 := v101w
          have v105q : TI v105 v101.toInt := by rw [v105w.trans v105r.symm]; exact (ti_rfl v101)
          refine gi_iald (pc := 64) (lo := 0) (hi := 280) (len := 2) hv v105q rfl (by omega) (by omega) (fun _ => rfl) dX8_newBlock_64 (fun v106 v106l v106u v106w => ?_)
          have k107 := bd_e k102 (congrArg Int32.toInt v106w.symm)
          have v106V : v106.toInt = V h.2.1 74 S := by rw [v106w, v101S]; rfl
          refine gf_iadd (pc := 65) e104 (ti_rfl v106) (by omega) (by omega) dX8_newBlock_65 (fun v108 e109 => ?_)
          refine go_istore_n (pc := 66) (Nat.le_of_ble_eq_true rfl) dX8_newBlock_66 (go_lv (lv2 := [(0, .ref 70), (1, .int a2), (2, .int a3), (3, .int v108)]) rfl ?_)
          refine go_aload_n (pc := 67) rfl dX8_newBlock_67 ?_
          refine gi_getF (pc := 68) (q := 74) hv fL_X8_20 rfl (Nat.le_of_ble_eq_true rfl) rfl (hv.rf (by decide)) dX8_newBlock_68 ?_
          refine go_aload_n (pc := 71) rfl dX8_newBlock_71 ?_
          refine gi_get (pc := 72) (lo := 0) (hi := 1) hv fL_X8_187 rfl (Nat.le_of_ble_eq_true rfl) rfl rfl dX8_newBlock_72 (fun v110 v110l v110u v110w => ?_)
          have v110r : v101 = h.2.1 70 6 := v101w
          have v110q : TI v110 v101.toInt := by rw [v110w.trans v110r.symm]; exact (ti_rfl v101)
          refine go_dup2 (pc := 75) rfl rfl dX8_newBlock_75 ?_
          refine gi_iald (pc := 76) (lo := 0) (hi := 280) (len := 2) hv v110q rfl (by omega) (by omega) (fun _ => rfl) dX8_newBlock_76 (fun v111 v111l v111u v111w => ?_)
          have k112 := bd_e k107 (congrArg Int32.toInt v111w.symm)
          have v111V : v111.toInt = V h.2.1 74 S := by rw [v111w, v101S]; rfl
          refine go_iconst (pc := 77) (v := 1) (by decide) dX8_newBlock_77 ?_
          refine gf_iadd (pc := 78) (ti_rfl v111) (ti_c (v := 1) (a := 1) (by decide)) (by omega) (by omega) dX8_newBlock_78 (fun v113 e114 => ?_)
          refine gi_fst (pc := 79) (lo := 0) (hi := 280) (len := 2) hv v110q e114 rfl (by omega) (by omega) (fun _ => rfl) (by omega) (by omega) (by omega) dX8_newBlock_79 (fun h115 hv115 hv115e => ?_)
          have fx115 : FX KRt h h115 := FX.pI fx hv115e (by unfold KRt; omega)
          have k116 := bd_e k112 (st_I hv115e e114)
          refine go_aload_n (pc := 80) rfl dX8_newBlock_80 ?_
          refine gi_getF (pc := 81) (q := 90) hv115 fL_X8_68 rfl (Nat.le_of_ble_eq_true rfl) rfl (hv115.rf (by decide)) dX8_newBlock_81 ?_
          refine go_iload_n (pc := 84) rfl dX8_newBlock_84 ?_
          refine go_iconst (pc := 85) (v := (-1)) (by decide) dX8_newBlock_85 ?_
          refine gi_fst (pc := 86) (lo := -1) (hi := 259) (len := 560) hv115 e109 (ti_c (v := (-1)) (a := (-1)) (by decide)) rfl (by omega) (by omega) (fun _ => rfl) (by omega) (by omega) (by omega) dX8_newBlock_86 (fun h117 hv117 hv117e => ?_)
          have fx117 : FX KRt h h117 := FX.pI fx115 hv117e (by unfold KRt; omega)
          have k118 := bd_e k116 (st_I hv117e (ti_c (v := (-1)) (a := (-1)) (by decide)))
          refine go_aload_n (pc := 87) rfl dX8_newBlock_87 ?_
          refine gi_getF (pc := 88) (q := 91) hv117 fL_X8_71 rfl (Nat.le_of_ble_eq_true rfl) rfl (hv117.rf (by decide)) dX8_newBlock_88 ?_
          refine go_iload_n (pc := 91) rfl dX8_newBlock_91 ?_
          refine go_iconst (pc := 92) (v := (-1)) (by decide) dX8_newBlock_92 ?_
          refine gi_fst (pc := 93) (lo := -1) (hi := 259) (len := 560) hv117 e109 (ti_c (v := (-1)) (a := (-1)) (by decide)) rfl (by omega) (by omega) (fun _ => rfl) (by omega) (by omega) (by omega) dX8_newBlock_93 (fun h119 hv119 hv119e => ?_)
          have fx119 : FX KRt h h119 := FX.pI fx117 hv119e (by unfold KRt; omega)
          have k120 := bd_e k118 (st_I hv119e (ti_c (v := (-1)) (a := (-1)) (by decide)))
          refine go_aload_n (pc := 94) rfl dX8_newBlock_94 ?_
          refine gi_getF (pc := 95) (q := 92) hv119 fL_X8_74 rfl (Nat.le_of_ble_eq_true rfl) rfl (hv119.rf (by decide)) dX8_newBlock_95 ?_
          refine go_iload_n (pc := 98) rfl dX8_newBlock_98 ?_
          refine go_iload_n (pc := 99) rfl dX8_newBlock_99 ?_
          refine gi_fst (pc := 100) (lo := -1) (hi := 259) (len := 560) hv119 e109 (ti_rfl a2) rfl (by omega) (by omega) (fun _ => rfl) (by omega) (by omega) (by omega) dX8_newBlock_100 (fun h121 hv121 hv121e => ?_)
          have fx121 : FX KRt h h121 := FX.pI fx119 hv121e (by unfold KRt; omega)
          have k122 := bd_e k120 (st_I hv121e (ti_rfl a2))
          refine go_aload_n (pc := 101) rfl dX8_newBlock_101 ?_
          refine go_dup (pc := 102) rfl dX8_newBlock_102 ?_
          refine gi_get (pc := 103) (lo := 0) (hi := 500) hv121 fL_X8_163 rfl (Nat.le_of_ble_eq_true rfl) rfl rfl dX8_newBlock_103 (fun v123 v123l v123u v123w => ?_)
          have k124 := bd_e k122 (congrArg Int32.toInt v123w.symm)
          have g125 : (h121.2.1 70 4).toInt = v123.toInt := by rw [v123w]
          refine go_iconst (pc := 106) (v := 1) (by decide) dX8_newBlock_106 ?_
          refine gf_iadd (pc := 107) (ti_rfl v123) (ti_c (v := 1) (a := 1) (by decide)) (by omega) (by omega) dX8_newBlock_107 (fun v126 e127 => ?_)
          have E121 : h121.2.1 = (w1 (w1 (w1 (w1 h.2.1 74 S (v113 : Int32)) 90 (((280 * S) + v106.toInt)) ((-1) : Int32)) 91 (((280 * S) + v106.toInt)) ((-1) : Int32)) 92 (((280 * S) + v106.toInt)) (a2 : Int32)) := by
            rw [hv121e, hv119e, hv117e, hv115e]
            rw [v101S]
            rfl
          have oh121 : OH h.2.1 h121.2.1 S := by rw [E121]; exact ((((oh.trans (OH.w 1 rfl (by omega) (by omega) (by omega) (by omega))).trans (OH.w 280 rfl (by omega) (by omega) (by omega) (by omega))).trans (OH.w 280 rfl (by omega) (by omega) (by omega) (by omega))).trans (OH.w 280 rfl (by omega) (by omega) (by omega) (by omega)))
          have kp121 : KP h.2.1 h121.2.1 := by rw [E121]; exact ((((kp.trans (KP.w (by omega))).trans (KP.w (by omega))).trans (KP.w (by omega))).trans (KP.w (by omega)))
          have n73_121 : V h121.2.1 73 S = V h.2.1 73 S := by rw [E121, V_ne (by omega), V_ne (by omega), V_ne (by omega), V_ne (by omega)]
          have n74_121 : V h121.2.1 74 S = (v111.toInt + 1) := by rw [E121, V_ne (by omega), V_ne (by omega), V_ne (by omega), V_eq]; exact e114
          have n75_121 : V h121.2.1 75 S = V h.2.1 75 S := by rw [E121, V_ne (by omega), V_ne (by omega), V_ne (by omega), V_ne (by omega)]
          have ck121 : CKF h.2.1 → CKF h121.2.1 := fun z => by rw [E121]; exact (CKF.w (by omega) (CKF.w (by omega) (CKF.w (by omega) (CKF.w (by omega) (ck z)))))
          refine gi_put (pc := 108) (lo := 0) (hi := 500) hv121 e127 (fP_X8_163 _) rfl (Nat.le_of_ble_eq_true rfl) rfl rfl (by omega) (by omega) rfl rfl (by decide) (by decide) (by decide) (by decide) dX8_newBlock_108 (fun h128 hv128 hv128e => ?_)
          have fx128 : FX KRt h h128 := FX.pI fx121 hv128e (by unfold KRt; omega)
          have k129 := bd_e k124 (st_I hv128e e127)
          have ve128 : VE h121.2.1 h128.2.1 := VE.of hv121 hv128
          have oh128 : OH h.2.1 h128.2.1 S := oh121.trans (OH.of hv121 hv128 S)
          have kp128 : KP h.2.1 h128.2.1 := kp121.trans (KP.ve ve128)
          have ck128 : CKF h.2.1 → CKF h128.2.1 := fun z => CKF.ve ve128 (ck121 z)
          have n73_128 : V h128.2.1 73 S = V h121.2.1 73 S := ve128.v (by omega) (by omega)
          have n74_128 : V h128.2.1 74 S = V h121.2.1 74 S := ve128.v (by omega) (by omega)
          have n75_128 : V h128.2.1 75 S = V h121.2.1 75 S := ve128.v (by omega) (by omega)
          refine go_iload_n (pc := 111) rfl dX8_newBlock_111 ?_
          have g130 : (0 : Int) ≤ (h128.2.1 70 4).toInt := (hv128.2.1 70 4).1
          have g131 : (h128.2.1 70 4).toInt ≤ 500 := (hv128.2.1 70 4).2
          have g132 : (-2147483648 : Int) ≤ (h128.2.1 70 5).toInt := (hv128.2.1 70 5).1
          have g133 : (h128.2.1 70 5).toInt ≤ 2147483647 := (hv128.2.1 70 5).2
          have g134 : (h128.2.1 70 4).toInt = (v123.toInt + 1) := by rw [← (show v126 = h128.2.1 70 4 from (show v126 = h128.2.1 70 4 from by rw [hv128e]; exact g_iS.symm))] <;> exact e127
          have z136 : (v108 : Int32).toInt = ((280 * v101.toInt) + v106.toInt) := e109
          have pp135 : (h128.2.1 70 5).toInt = 0 → (h.2.1 70 5).toInt = 0 := (by omega)
          have z138 : (v108 : Int32).toInt = ((280 * v101.toInt) + v106.toInt) := e109
          have pp137 : (h.2.1 70 4).toInt ≤ (h128.2.1 70 4).toInt := (by omega)
          have z140 : (v108 : Int32).toInt = ((280 * v101.toInt) + v106.toInt) := e109
          have pp139 : (h128.2.1 70 5).toInt = 0 → (h.2.1 70 4).toInt + 1 ≤ (h128.2.1 70 4).toInt ∧ a3.toInt ≤ 6 ∧ V h128.2.1 74 S = V h.2.1 74 S + 1 := (by omega)
          have z142 : (v108 : Int32).toInt = ((280 * v101.toInt) + v106.toInt) := e109
          have pp141 : V h128.2.1 73 S = V h.2.1 73 S := (by omega)
          have z144 : (v108 : Int32).toInt = ((280 * v101.toInt) + v106.toInt) := e109
          have pp143 : V h128.2.1 75 S = V h.2.1 75 S := (by omega)
          have zz : (v108 : Int32).toInt = ((280 * v101.toInt) + v106.toInt) := e109
          have zy : (v113 : Int32).toInt = (v111.toInt + 1) := e114
          have pp145 : (h128.2.1 70 5).toInt = 0 → ∀ d : Int, LI h.2.1 h128.2.1 S a2.toInt d (v108 : Int32).toInt := (fun hg d => by rw [show (v108 : Int32).toInt = ((280 * S) + v106.toInt) from (by omega)]; exact LI.ve0 (VE.rfl _) (LI.init (x := (v113 : Int32)) (y := ((-1) : Int32)) (z := ((-1) : Int32)) (w := (a2 : Int32)) S0 (by rw [← E121]; exact ve128) (by omega) (by omega) (by decide) (by decide) rfl))
          have pp146 : (st h128, (v108 : Int32).toInt) = f_X8_newBlock (st h) a2.toInt a3.toInt := (by rw [show (v108 : Int32).toInt = ((280 * v101.toInt) + v106.toInt) from e109]; exact k129.symm.trans kf)
          have pp147 : FX KRt h h128 := fx128
          subst hS
          exact gi_iret (pc := 112) e109 ⟨_, rfl, (by rw [show (v108 : Int32).toInt = ((280 * v101.toInt) + v106.toInt) from e109]; omega), (by rw [show (v108 : Int32).toInt = ((280 * v101.toInt) + v106.toInt) from e109]; omega), ⟨_, hv128, (MW.trans (MW.trans (MW.trans (MW.mz _ _) (MW.mz _ _)) (MW.mz _ _)) (MW.mz _ _))⟩, pp135, pp137, pp139, pp141, pp143, pp145, pp146, pp147, kp128, oh128, ck128⟩ hv128 dX8_newBlock_112
        ·
          have k148 := if_f k98 (fun z => z q99)
          refine go_iconst (pc := 46) (v := 0) (by decide) dX8_newBlock_46 ?_
          have g149 : (0 : Int) ≤ (h.2.1 70 4).toInt := (hv.2.1 70 4).1
          have g150 : (h.2.1 70 4).toInt ≤ 500 := (hv.2.1 70 4).2
          have g151 : (-2147483648 : Int) ≤ (h.2.1 70 5).toInt := (hv.2.1 70 5).1
          have g152 : (h.2.1 70 5).toInt ≤ 2147483647 := (hv.2.1 70 5).2
          have z154 : (0 : Int32).toInt = 0 := (ti_c (v := 0) (a := 0) (by decide))
          have pp153 : (h.2.1 70 5).toInt = 0 → (h.2.1 70 5).toInt = 0 := (by omega)
          have z156 : (0 : Int32).toInt = 0 := (ti_c (v := 0) (a := 0) (by decide))
          have pp155 : (h.2.1 70 4).toInt ≤ (h.2.1 70 4).toInt := (by omega)
          have z158 : (0 : Int32).toInt = 0 := (ti_c (v := 0) (a := 0) (by decide))
          have pp157 : (h.2.1 70 5).toInt = 0 → (h.2.1 70 4).toInt + 1 ≤ (h.2.1 70 4).toInt ∧ a3.toInt ≤ 6 ∧ V h.2.1 74 S = V h.2.1 74 S + 1 := (by omega)
          have z160 : (0 : Int32).toInt = 0 := (ti_c (v := 0) (a := 0) (by decide))
          have pp159 : V h.2.1 73 S = V h.2.1 73 S := (by omega)
          have z162 : (0 : Int32).toInt = 0 := (ti_c (v := 0) (a := 0) (by decide))
          have pp161 : V h.2.1 75 S = V h.2.1 75 S := (by omega)
          have pp163 : (h.2.1 70 5).toInt = 0 → ∀ d : Int, LI h.2.1 h.2.1 S a2.toInt d (0 : Int32).toInt := (fun hg => absurd hg (by omega))
          have pp164 : (st h, (0 : Int32).toInt) = f_X8_newBlock (st h) a2.toInt a3.toInt := (by rw [show (0 : Int32).toInt = 0 from (ti_c (v := 0) (a := 0) (by decide))]; exact k148.symm.trans kf)
          have pp165 : FX KRt h h := fx
          subst hS
          exact gi_iret (pc := 47) (ti_c (v := 0) (a := 0) (by decide)) ⟨_, rfl, (by rw [show (0 : Int32).toInt = 0 from (ti_c (v := 0) (a := 0) (by decide))]; omega), (by rw [show (0 : Int32).toInt = 0 from (ti_c (v := 0) (a := 0) (by decide))]; omega), ⟨_, hv, (MW.rfl _)⟩, pp153, pp155, pp157, pp159, pp161, pp163, pp164, pp165, kp, oh, ck⟩ hv dX8_newBlock_47
      ·
        have k166 := if_f k90 (Int.not_le.mpr q91)
        refine go_aload_n (pc := 34) rfl dX8_newBlock_34 ?_
        refine go_iconst (pc := 35) (v := 4) (by decide) dX8_newBlock_35 ?_
        have g167 : (0 : Int) ≤ (h.2.1 70 4).toInt := (hv.2.1 70 4).1
        have g168 : (h.2.1 70 4).toInt ≤ 500 := (hv.2.1 70 4).2
        have g169 : (-2147483648 : Int) ≤ (h.2.1 70 5).toInt := (hv.2.1 70 5).1
        have g170 : (h.2.1 70 5).toInt ≤ 2147483647 := (hv.2.1 70 5).2
        refine go_invV (pc := 36) (sl := 0) (s_X8_fails_f l (d + 0) hv 4 (by rw [show (4 : Int32).toInt = 4 from (ti_c (v := 4) (a := 4) (by decide))]; omega) (by rw [show (4 : Int32).toInt = 4 from (ti_c (v := 4) (a := 4) (by decide))]; omega)) mL_X8_180 iM_X8_fails sM_X8_fails (hv.sh rfl) rfl rfl rfl (Nat.le_of_ble_eq_true rfl) (show d + 0 + 1 + 1 ≤ d + 2 by omega) (show 8 + (2 + 11) + 40 * (d + 0 + 1) ≤ 40 * (d + 2) by omega) (g_c0 hv.ln) (Nat.le_of_ble_eq_true rfl) dX8_newBlock_36 ?_
        intro r h171 hq _
        obtain ⟨rfl, hv171, f172, f173, f174, f175⟩ := hq
        try rw [show (4 : Int32).toInt = 4 from (ti_c (v := 4) (a := 4) (by decide))] at f172
        try rw [show (4 : Int32).toInt = 4 from (ti_c (v := 4) (a := 4) (by decide))] at f173
        try rw [show (4 : Int32).toInt = 4 from (ti_c (v := 4) (a := 4) (by decide))] at f174
        try rw [show (4 : Int32).toInt = 4 from (ti_c (v := 4) (a := 4) (by decide))] at f175
        have fx171 : FX KRt h h171 := FX.tr fx f175
        have k176 := bd_e k166 f174.symm
        have ve171 : VE h.2.1 h171.2.1 := VE.of hv hv171
        have oh171 : OH h.2.1 h171.2.1 S := oh.trans (OH.of hv hv171 S)
        have kp171 : KP h.2.1 h171.2.1 := kp.trans (KP.ve ve171)
        have ck171 : CKF h.2.1 → CKF h171.2.1 := fun z => CKF.ve ve171 (ck z)
        have n73_171 : V h171.2.1 73 S = V h.2.1 73 S := ve171.v (by omega) (by omega)
        have n74_171 : V h171.2.1 74 S = V h.2.1 74 S := ve171.v (by omega) (by omega)
        have n75_171 : V h171.2.1 75 S = V h.2.1 75 S := ve171.v (by omega) (by omega)
        obtain ⟨u177, u177w⟩ : ∃ v : Int32, v = h171.2.1 70 4 := ⟨_, rfl⟩
        have u177e : (h171.2.1 70 4).toInt = u177.toInt := by rw [u177w]
        have u177l : 0 ≤ u177.toInt := by rw [u177w]; exact (hv171.2.1 70 4).1
        have u177u : u177.toInt ≤ 500 := by rw [u177w]; exact (hv171.2.1 70 4).2
        have k178 := bd_e k176 (congrArg Int32.toInt u177w.symm)
        obtain ⟨u179, u179w⟩ : ∃ v : Int32, v = h171.2.1 70 5 := ⟨_, rfl⟩
        have u179e : (h171.2.1 70 5).toInt = u179.toInt := by rw [u179w]
        have u179l : -2147483648 ≤ u179.toInt := by rw [u179w]; exact (hv171.2.1 70 5).1
        have u179u : u179.toInt ≤ 2147483647 := by rw [u179w]; exact (hv171.2.1 70 5).2
        have k180 := k178
        refine go_aload_n (pc := 39) rfl dX8_newBlock_39 ?_
        refine go_invV (pc := 40) (sl := 0) (s_X8_isGood_f l (d + 0) hv171 ) mL_X8_172 iM_X8_isGood sM_X8_isGood (hv171.sh rfl) rfl rfl rfl (Nat.le_of_ble_eq_true rfl) (show d + 0 + 1 + 1 ≤ d + 2 by omega) (show 8 + (1 + 11) + 40 * (d + 0 + 1) ≤ 40 * (d + 2) by omega) (g_c0 hv171.ln) (Nat.le_of_ble_eq_true rfl) dX8_newBlock_40 ?_
        intro r h181 hq _
        obtain ⟨v185, rfl, v185l, v185u, rfl, f182, f183, f184⟩ := hq
        replace f184 : PE _ _ := f184
        have k186 := bd_e k180 f184.symm
        refine gf_if_ne (pc := 43) (tgt := 48) (ti_rfl v185) (by decide) dX8_newBlock_43 (fun q187 => ?_) (fun q187 => ?_)
        ·
          have k188 := if_t k186 q187
          refine go_sipush (pc := 48) (v := 280) (by decide) dX8_newBlock_48 ?_
          refine go_aload_n (pc := 51) rfl dX8_newBlock_51 ?_
          refine gi_get (pc := 52) (lo := 0) (hi := 1) hv171 fL_X8_187 rfl (Nat.le_of_ble_eq_true rfl) rfl rfl dX8_newBlock_52 (fun v189 v189l v189u v189w => ?_)
          have k190 := bd_e k188 (congrArg Int32.toInt v189w.symm)
          have v189S : v189.toInt = S := by rw [v189w]; exact (congrArg Int32.toInt oh171.side).trans hS.symm
          refine gf_imul (pc := 55) (ti_c (v := 280) (a := 280) (by decide)) (ti_rfl v189) (by omega) (by omega) dX8_newBlock_55 (fun v191 e192 => ?_)
          refine go_aload_n (pc := 56) rfl dX8_newBlock_56 ?_
          refine gi_getF (pc := 57) (q := 74) hv171 fL_X8_20 rfl (Nat.le_of_ble_eq_true rfl) rfl (hv171.rf (by decide)) dX8_newBlock_57 ?_
          refine go_aload_n (pc := 60) rfl dX8_newBlock_60 ?_
          refine gi_get (pc := 61) (lo := 0) (hi := 1) hv171 fL_X8_187 rfl (Nat.le_of_ble_eq_true rfl) rfl rfl dX8_newBlock_61 (fun v193 v193l v193u v193w => ?_)
          have v193r : v189 = h171.2.1 70 6 := v189w
          have v193q : TI v193 v189.toInt := by rw [v193w.trans v193r.symm]; exact (ti_rfl v189)
          refine gi_iald (pc := 64) (lo := 0) (hi := 280) (len := 2) hv171 v193q rfl (by omega) (by omega) (fun _ => rfl) dX8_newBlock_64 (fun v194 v194l v194u v194w => ?_)
          have k195 := bd_e k190 (congrArg Int32.toInt v194w.symm)
          have v194V : v194.toInt = V h171.2.1 74 S := by rw [v194w, v189S]; rfl
          refine gf_iadd (pc := 65) e192 (ti_rfl v194) (by omega) (by omega) dX8_newBlock_65 (fun v196 e197 => ?_)
          refine go_istore_n (pc := 66) (Nat.le_of_ble_eq_true rfl) dX8_newBlock_66 (go_lv (lv2 := [(0, .ref 70), (1, .int a2), (2, .int a3), (3, .int v196)]) rfl ?_)
          refine go_aload_n (pc := 67) rfl dX8_newBlock_67 ?_
          refine gi_getF (pc := 68) (q := 74) hv171 fL_X8_20 rfl (Nat.le_of_ble_eq_true rfl) rfl (hv171.rf (by decide)) dX8_newBlock_68 ?_
          refine go_aload_n (pc := 71) rfl dX8_newBlock_71 ?_
          refine gi_get (pc := 72) (lo := 0) (hi := 1) hv171 fL_X8_187 rfl (Nat.le_of_ble_eq_true rfl) rfl rfl dX8_newBlock_72 (fun v198 v198l v198u v198w => ?_)
          have v198r : v189 = h171.2.1 70 6 := v189w
          have v198q : TI v198 v189.toInt := by rw [v198w.trans v198r.symm]; exact (ti_rfl v189)
          refine go_dup2 (pc := 75) rfl rfl dX8_newBlock_75 ?_
          refine gi_iald (pc := 76) (lo := 0) (hi := 280) (len := 2) hv171 v198q rfl (by omega) (by omega) (fun _ => rfl) dX8_newBlock_76 (fun v199 v199l v199u v199w => ?_)
          have k200 := bd_e k195 (congrArg Int32.toInt v199w.symm)
          have v199V : v199.toInt = V h171.2.1 74 S := by rw [v199w, v189S]; rfl
          refine go_iconst (pc := 77) (v := 1) (by decide) dX8_newBlock_77 ?_
          refine gf_iadd (pc := 78) (ti_rfl v199) (ti_c (v := 1) (a := 1) (by decide)) (by omega) (by omega) dX8_newBlock_78 (fun v201 e202 => ?_)
          refine gi_fst (pc := 79) (lo := 0) (hi := 280) (len := 2) hv171 v198q e202 rfl (by omega) (by omega) (fun _ => rfl) (by omega) (by omega) (by omega) dX8_newBlock_79 (fun h203 hv203 hv203e => ?_)
          have fx203 : FX KRt h h203 := FX.pI fx171 hv203e (by unfold KRt; omega)
          have k204 := bd_e k200 (st_I hv203e e202)
          refine go_aload_n (pc := 80) rfl dX8_newBlock_80 ?_
          refine gi_getF (pc := 81) (q := 90) hv203 fL_X8_68 rfl (Nat.le_of_ble_eq_true rfl) rfl (hv203.rf (by decide)) dX8_newBlock_81 ?_
          refine go_iload_n (pc := 84) rfl dX8_newBlock_84 ?_
          refine go_iconst (pc := 85) (v := (-1)) (by decide) dX8_newBlock_85 ?_
          refine gi_fst (pc := 86) (lo := -1) (hi := 259) (len := 560) hv203 e197 (ti_c (v := (-1)) (a := (-1)) (by decide)) rfl (by omega) (by omega) (fun _ => rfl) (by omega) (by omega) (by omega) dX8_newBlock_86 (fun h205 hv205 hv205e => ?_)
          have fx205 : FX KRt h h205 := FX.pI fx203 hv205e (by unfold KRt; omega)
          have k206 := bd_e k204 (st_I hv205e (ti_c (v := (-1)) (a := (-1)) (by decide)))
          refine go_aload_n (pc := 87) rfl dX8_newBlock_87 ?_
          refine gi_getF (pc := 88) (q := 91) hv205 fL_X8_71 rfl (Nat.le_of_ble_eq_true rfl) rfl (hv205.rf (by decide)) dX8_newBlock_88 ?_
          refine go_iload_n (pc := 91) rfl dX8_newBlock_91 ?_
          refine go_iconst (pc := 92) (v := (-1)) (by decide) dX8_newBlock_92 ?_
          refine gi_fst (pc := 93) (lo := -1) (hi := 259) (len := 560) hv205 e197 (ti_c (v := (-1)) (a := (-1)) (by decide)) rfl (by omega) (by omega) (fun _ => rfl) (by omega) (by omega) (by omega) dX8_newBlock_93 (fun h207 hv207 hv207e => ?_)
          have fx207 : FX KRt h h207 := FX.pI fx205 hv207e (by unfold KRt; omega)
          have k208 := bd_e k206 (st_I hv207e (ti_c (v := (-1)) (a := (-1)) (by decide)))
          refine go_aload_n (pc := 94) rfl dX8_newBlock_94 ?_
          refine gi_getF (pc := 95) (q := 92) hv207 fL_X8_74 rfl (Nat.le_of_ble_eq_true rfl) rfl (hv207.rf (by decide)) dX8_newBlock_95 ?_
          refine go_iload_n (pc := 98) rfl dX8_newBlock_98 ?_
          refine go_iload_n (pc := 99) rfl dX8_newBlock_99 ?_
          refine gi_fst (pc := 100) (lo := -1) (hi := 259) (len := 560) hv207 e197 (ti_rfl a2) rfl (by omega) (by omega) (fun _ => rfl) (by omega) (by omega) (by omega) dX8_newBlock_100 (fun h209 hv209 hv209e => ?_)
          have fx209 : FX KRt h h209 := FX.pI fx207 hv209e (by unfold KRt; omega)
          have k210 := bd_e k208 (st_I hv209e (ti_rfl a2))
          refine go_aload_n (pc := 101) rfl dX8_newBlock_101 ?_
          refine go_dup (pc := 102) rfl dX8_newBlock_102 ?_
          refine gi_get (pc := 103) (lo := 0) (hi := 500) hv209 fL_X8_163 rfl (Nat.le_of_ble_eq_true rfl) rfl rfl dX8_newBlock_103 (fun v211 v211l v211u v211w => ?_)
          have v211r : u177 = h209.2.1 70 4 := (show u177 = h209.2.1 70 4 from by rw [hv209e]; exact (g_iI rfl (show u177 = h207.2.1 70 4 from by rw [hv207e]; exact (g_iI rfl (show u177 = h205.2.1 70 4 from by rw [hv205e]; exact (g_iI rfl (show u177 = h203.2.1 70 4 from by rw [hv203e]; exact (g_iI rfl u177w.symm).symm).symm).symm).symm).symm).symm).symm)
          have v211q : TI v211 u177.toInt := by rw [v211w.trans v211r.symm]; exact (ti_rfl u177)
          refine go_iconst (pc := 106) (v := 1) (by decide) dX8_newBlock_106 ?_
          refine gf_iadd (pc := 107) v211q (ti_c (v := 1) (a := 1) (by decide)) (by omega) (by omega) dX8_newBlock_107 (fun v212 e213 => ?_)
          have E209 : h209.2.1 = (w1 (w1 (w1 (w1 h171.2.1 74 S (v201 : Int32)) 90 (((280 * S) + v194.toInt)) ((-1) : Int32)) 91 (((280 * S) + v194.toInt)) ((-1) : Int32)) 92 (((280 * S) + v194.toInt)) (a2 : Int32)) := by
            rw [hv209e, hv207e, hv205e, hv203e]
            rw [v189S]
            rfl
          have oh209 : OH h.2.1 h209.2.1 S := by rw [E209]; exact ((((oh171.trans (OH.w 1 rfl (by omega) (by omega) (by omega) (by omega))).trans (OH.w 280 rfl (by omega) (by omega) (by omega) (by omega))).trans (OH.w 280 rfl (by omega) (by omega) (by omega) (by omega))).trans (OH.w 280 rfl (by omega) (by omega) (by omega) (by omega)))
          have kp209 : KP h.2.1 h209.2.1 := by rw [E209]; exact ((((kp171.trans (KP.w (by omega))).trans (KP.w (by omega))).trans (KP.w (by omega))).trans (KP.w (by omega)))
          have n73_209 : V h209.2.1 73 S = V h171.2.1 73 S := by rw [E209, V_ne (by omega), V_ne (by omega), V_ne (by omega), V_ne (by omega)]
          have n74_209 : V h209.2.1 74 S = (v199.toInt + 1) := by rw [E209, V_ne (by omega), V_ne (by omega), V_ne (by omega), V_eq]; exact e202
          have n75_209 : V h209.2.1 75 S = V h171.2.1 75 S := by rw [E209, V_ne (by omega), V_ne (by omega), V_ne (by omega), V_ne (by omega)]
          have ck209 : CKF h.2.1 → CKF h209.2.1 := fun z => by rw [E209]; exact (CKF.w (by omega) (CKF.w (by omega) (CKF.w (by omega) (CKF.w (by omega) (ck171 z)))))
          refine gi_put (pc := 108) (lo := 0) (hi := 500) hv209 e213 (fP_X8_163 _) rfl (Nat.le_of_ble_eq_true rfl) rfl rfl (by omega) (by omega) rfl rfl (by decide) (by decide) (by decide) (by decide) dX8_newBlock_108 (fun h214 hv214 hv214e => ?_)
          have fx214 : FX KRt h h214 := FX.pI fx209 hv214e (by unfold KRt; omega)
          have k215 := bd_e k210 (st_I hv214e e213)
          have ve214 : VE h209.2.1 h214.2.1 := VE.of hv209 hv214
          have oh214 : OH h.2.1 h214.2.1 S := oh209.trans (OH.of hv209 hv214 S)
          have kp214 : KP h.2.1 h214.2.1 := kp209.trans (KP.ve ve214)
          have ck214 : CKF h.2.1 → CKF h214.2.1 := fun z => CKF.ve ve214 (ck209 z)
          have n73_214 : V h214.2.1 73 S = V h209.2.1 73 S := ve214.v (by omega) (by omega)
          have n74_214 : V h214.2.1 74 S = V h209.2.1 74 S := ve214.v (by omega) (by omega)
          have n75_214 : V h214.2.1 75 S = V h209.2.1 75 S := ve214.v (by omega) (by omega)
          refine go_iload_n (pc := 111) rfl dX8_newBlock_111 ?_
          have g216 : (0 : Int) ≤ (h214.2.1 70 4).toInt := (hv214.2.1 70 4).1
          have g217 : (h214.2.1 70 4).toInt ≤ 500 := (hv214.2.1 70 4).2
          have g218 : (-2147483648 : Int) ≤ (h214.2.1 70 5).toInt := (hv214.2.1 70 5).1
          have g219 : (h214.2.1 70 5).toInt ≤ 2147483647 := (hv214.2.1 70 5).2
          have g220 : (h214.2.1 70 5).toInt = u179.toInt := by rw [← (show u179 = h214.2.1 70 5 from (show u179 = h214.2.1 70 5 from by rw [hv214e]; exact (g_iI rfl (show u179 = h209.2.1 70 5 from by rw [hv209e]; exact (g_iI rfl (show u179 = h207.2.1 70 5 from by rw [hv207e]; exact (g_iI rfl (show u179 = h205.2.1 70 5 from by rw [hv205e]; exact (g_iI rfl (show u179 = h203.2.1 70 5 from by rw [hv203e]; exact (g_iI rfl u179w.symm).symm).symm).symm).symm).symm).symm).symm).symm).symm))] <;> exact (ti_rfl u179)
          have g221 : (h214.2.1 70 4).toInt = (u177.toInt + 1) := by rw [← (show v212 = h214.2.1 70 4 from (show v212 = h214.2.1 70 4 from by rw [hv214e]; exact g_iS.symm))] <;> exact e213
          have z223 : (v196 : Int32).toInt = ((280 * v189.toInt) + v194.toInt) := e197
          have pp222 : (h214.2.1 70 5).toInt = 0 → (h.2.1 70 5).toInt = 0 := (by omega)
          have z225 : (v196 : Int32).toInt = ((280 * v189.toInt) + v194.toInt) := e197
          have pp224 : (h.2.1 70 4).toInt ≤ (h214.2.1 70 4).toInt := (by omega)
          have z227 : (v196 : Int32).toInt = ((280 * v189.toInt) + v194.toInt) := e197
          have pp226 : (h214.2.1 70 5).toInt = 0 → (h.2.1 70 4).toInt + 1 ≤ (h214.2.1 70 4).toInt ∧ a3.toInt ≤ 6 ∧ V h214.2.1 74 S = V h.2.1 74 S + 1 := (by omega)
          have z229 : (v196 : Int32).toInt = ((280 * v189.toInt) + v194.toInt) := e197
          have pp228 : V h214.2.1 73 S = V h.2.1 73 S := (by omega)
          have z231 : (v196 : Int32).toInt = ((280 * v189.toInt) + v194.toInt) := e197
          have pp230 : V h214.2.1 75 S = V h.2.1 75 S := (by omega)
          have zz : (v196 : Int32).toInt = ((280 * v189.toInt) + v194.toInt) := e197
          have zy : (v201 : Int32).toInt = (v199.toInt + 1) := e202
          have pp232 : (h214.2.1 70 5).toInt = 0 → ∀ d : Int, LI h.2.1 h214.2.1 S a2.toInt d (v196 : Int32).toInt := (fun hg d => by rw [show (v196 : Int32).toInt = ((280 * S) + v194.toInt) from (by omega)]; exact LI.ve0 ve171 (LI.init (x := (v201 : Int32)) (y := ((-1) : Int32)) (z := ((-1) : Int32)) (w := (a2 : Int32)) S0 (by rw [← E209]; exact ve214) (by omega) (by omega) (by decide) (by decide) rfl))
          have pp233 : (st h214, (v196 : Int32).toInt) = f_X8_newBlock (st h) a2.toInt a3.toInt := (by rw [show (v196 : Int32).toInt = ((280 * v189.toInt) + v194.toInt) from e197]; exact k215.symm.trans kf)
          have pp234 : FX KRt h h214 := fx214
          subst hS
          exact gi_iret (pc := 112) e197 ⟨_, rfl, (by rw [show (v196 : Int32).toInt = ((280 * v189.toInt) + v194.toInt) from e197]; omega), (by rw [show (v196 : Int32).toInt = ((280 * v189.toInt) + v194.toInt) from e197]; omega), ⟨_, hv214, (MW.trans (MW.trans (MW.trans (MW.mz _ _) (MW.mz _ _)) (MW.mz _ _)) (MW.mz _ _))⟩, pp222, pp224, pp226, pp228, pp230, pp232, pp233, pp234, kp214, oh214, ck214⟩ hv214 dX8_newBlock_112
        ·
          have k235 := if_f k186 (fun z => z q187)
          refine go_iconst (pc := 46) (v := 0) (by decide) dX8_newBlock_46 ?_
          have g236 : (0 : Int) ≤ (h171.2.1 70 4).toInt := (hv171.2.1 70 4).1
          have g237 : (h171.2.1 70 4).toInt ≤ 500 := (hv171.2.1 70 4).2
          have g238 : (-2147483648 : Int) ≤ (h171.2.1 70 5).toInt := (hv171.2.1 70 5).1
          have g239 : (h171.2.1 70 5).toInt ≤ 2147483647 := (hv171.2.1 70 5).2
          have g240 : (h171.2.1 70 4).toInt = u177.toInt := by rw [← (show u177 = h171.2.1 70 4 from u177w)] <;> exact (ti_rfl u177)
          have g241 : (h171.2.1 70 5).toInt = u179.toInt := by rw [← (show u179 = h171.2.1 70 5 from u179w)] <;> exact (ti_rfl u179)
          have z243 : (0 : Int32).toInt = 0 := (ti_c (v := 0) (a := 0) (by decide))
          have pp242 : (h171.2.1 70 5).toInt = 0 → (h.2.1 70 5).toInt = 0 := (by omega)
          have z245 : (0 : Int32).toInt = 0 := (ti_c (v := 0) (a := 0) (by decide))
          have pp244 : (h.2.1 70 4).toInt ≤ (h171.2.1 70 4).toInt := (by omega)
          have z247 : (0 : Int32).toInt = 0 := (ti_c (v := 0) (a := 0) (by decide))
          have pp246 : (h171.2.1 70 5).toInt = 0 → (h.2.1 70 4).toInt + 1 ≤ (h171.2.1 70 4).toInt ∧ a3.toInt ≤ 6 ∧ V h171.2.1 74 S = V h.2.1 74 S + 1 := (by omega)
          have z249 : (0 : Int32).toInt = 0 := (ti_c (v := 0) (a := 0) (by decide))
          have pp248 : V h171.2.1 73 S = V h.2.1 73 S := (by omega)
          have z251 : (0 : Int32).toInt = 0 := (ti_c (v := 0) (a := 0) (by decide))
          have pp250 : V h171.2.1 75 S = V h.2.1 75 S := (by omega)
          have pp252 : (h171.2.1 70 5).toInt = 0 → ∀ d : Int, LI h.2.1 h171.2.1 S a2.toInt d (0 : Int32).toInt := (fun hg => absurd hg (by omega))
          have pp253 : (st h171, (0 : Int32).toInt) = f_X8_newBlock (st h) a2.toInt a3.toInt := (by rw [show (0 : Int32).toInt = 0 from (ti_c (v := 0) (a := 0) (by decide))]; exact k235.symm.trans kf)
          have pp254 : FX KRt h h171 := fx171
          subst hS
          exact gi_iret (pc := 47) (ti_c (v := 0) (a := 0) (by decide)) ⟨_, rfl, (by rw [show (0 : Int32).toInt = 0 from (ti_c (v := 0) (a := 0) (by decide))]; omega), (by rw [show (0 : Int32).toInt = 0 from (ti_c (v := 0) (a := 0) (by decide))]; omega), ⟨_, hv171, (MW.rfl _)⟩, pp242, pp244, pp246, pp248, pp250, pp252, pp253, pp254, kp171, oh171, ck171⟩ hv171 dX8_newBlock_47
  ·
    have k255 := if_f k6 q7
    refine go_aload_n (pc := 7) rfl dX8_newBlock_7 ?_
    have g256 : (0 : Int) ≤ (h.2.1 70 4).toInt := (hv.2.1 70 4).1
    have g257 : (h.2.1 70 4).toInt ≤ 500 := (hv.2.1 70 4).2
    have g258 : (-2147483648 : Int) ≤ (h.2.1 70 5).toInt := (hv.2.1 70 5).1
    have g259 : (h.2.1 70 5).toInt ≤ 2147483647 := (hv.2.1 70 5).2
    refine go_invV (pc := 8) (sl := 0) (s_X8_here_f l (d + 0) hv ) mL_X8_176 iM_X8_here sM_X8_here (hv.sh rfl) rfl rfl rfl (Nat.le_of_ble_eq_true rfl) (show d + 0 + 1 + 1 ≤ d + 2 by omega) (show 8 + (1 + 11) + 40 * (d + 0 + 1) ≤ 40 * (d + 2) by omega) (g_c0 hv.ln) (Nat.le_of_ble_eq_true rfl) dX8_newBlock_8 ?_
    intro r h260 hq _
    obtain ⟨v267, rfl, v267l, v267u, hv260, f261, f262, f263, f264, f265, f266⟩ := hq
    have fx260 : FX KRt h h260 := FX.tr fx f266
    have k268 := bd2_e k255 f265
    have ve260 : VE h.2.1 h260.2.1 := VE.of hv hv260
    have oh260 : OH h.2.1 h260.2.1 S := oh.trans (OH.of hv hv260 S)
    have kp260 : KP h.2.1 h260.2.1 := kp.trans (KP.ve ve260)
    have ck260 : CKF h.2.1 → CKF h260.2.1 := fun z => CKF.ve ve260 (ck z)
    have n73_260 : V h260.2.1 73 S = V h.2.1 73 S := ve260.v (by omega) (by omega)
    have n74_260 : V h260.2.1 74 S = V h.2.1 74 S := ve260.v (by omega) (by omega)
    have n75_260 : V h260.2.1 75 S = V h.2.1 75 S := ve260.v (by omega) (by omega)
    obtain ⟨u269, u269w⟩ : ∃ v : Int32, v = h260.2.1 70 4 := ⟨_, rfl⟩
    have u269e : (h260.2.1 70 4).toInt = u269.toInt := by rw [u269w]
    have u269l : 0 ≤ u269.toInt := by rw [u269w]; exact (hv260.2.1 70 4).1
    have u269u : u269.toInt ≤ 500 := by rw [u269w]; exact (hv260.2.1 70 4).2
    have k270 := bd_e k268 (congrArg Int32.toInt u269w.symm)
    obtain ⟨u271, u271w⟩ : ∃ v : Int32, v = h260.2.1 70 5 := ⟨_, rfl⟩
    have u271e : (h260.2.1 70 5).toInt = u271.toInt := by rw [u271w]
    have u271l : -2147483648 ≤ u271.toInt := by rw [u271w]; exact (hv260.2.1 70 5).1
    have u271u : u271.toInt ≤ 2147483647 := by rw [u271w]; exact (hv260.2.1 70 5).2
    have k272 := k270
    refine go_bipush (pc := 11) (v := 123) (by decide) dX8_newBlock_11 ?_
    refine gf_icmp_eq (pc := 13) (tgt := 21) (ti_rfl v267) (ti_c (v := 123) (a := 123) (by decide)) (by decide) dX8_newBlock_13 (fun q273 => ?_) (fun q273 => ?_)
    ·
      have k274 := if_t k272 q273
      refine go_aload_n (pc := 21) rfl dX8_newBlock_21 ?_
      refine go_invV (pc := 22) (sl := 0) (s_X8_isGood_f l (d + 0) hv260 ) mL_X8_172 iM_X8_isGood sM_X8_isGood (hv260.sh rfl) rfl rfl rfl (Nat.le_of_ble_eq_true rfl) (show d + 0 + 1 + 1 ≤ d + 2 by omega) (show 8 + (1 + 11) + 40 * (d + 0 + 1) ≤ 40 * (d + 2) by omega) (g_c0 hv260.ln) (Nat.le_of_ble_eq_true rfl) dX8_newBlock_22 ?_
      intro r h275 hq _
      obtain ⟨v279, rfl, v279l, v279u, rfl, f276, f277, f278⟩ := hq
      replace f278 : PE _ _ := f278
      have k280 := bd_e k274 f278.symm
      refine gf_if_eq (pc := 25) (tgt := 39) (ti_rfl v279) (by decide) dX8_newBlock_25 (fun q281 => ?_) (fun q281 => ?_)
      ·
        have k282 := if_t k280 q281
        refine go_aload_n (pc := 39) rfl dX8_newBlock_39 ?_
        refine go_invV (pc := 40) (sl := 0) (s_X8_isGood_f l (d + 0) hv260 ) mL_X8_172 iM_X8_isGood sM_X8_isGood (hv260.sh rfl) rfl rfl rfl (Nat.le_of_ble_eq_true rfl) (show d + 0 + 1 + 1 ≤ d + 2 by omega) (show 8 + (1 + 11) + 40 * (d + 0 + 1) ≤ 40 * (d + 2) by omega) (g_c0 hv260.ln) (Nat.le_of_ble_eq_true rfl) dX8_newBlock_40 ?_
        intro r h283 hq _
        obtain ⟨v287, rfl, v287l, v287u, rfl, f284, f285, f286⟩ := hq
        replace f286 : PE _ _ := f286
        have k288 := bd_e k282 f286.symm
        refine gf_if_ne (pc := 43) (tgt := 48) (ti_rfl v287) (by decide) dX8_newBlock_43 (fun q289 => ?_) (fun q289 => ?_)
        ·
          have k290 := if_t k288 q289
          refine go_sipush (pc := 48) (v := 280) (by decide) dX8_newBlock_48 ?_
          refine go_aload_n (pc := 51) rfl dX8_newBlock_51 ?_
          refine gi_get (pc := 52) (lo := 0) (hi := 1) hv260 fL_X8_187 rfl (Nat.le_of_ble_eq_true rfl) rfl rfl dX8_newBlock_52 (fun v291 v291l v291u v291w => ?_)
          have k292 := bd_e k290 (congrArg Int32.toInt v291w.symm)
          have v291S : v291.toInt = S := by rw [v291w]; exact (congrArg Int32.toInt oh260.side).trans hS.symm
          refine gf_imul (pc := 55) (ti_c (v := 280) (a := 280) (by decide)) (ti_rfl v291) (by omega) (by omega) dX8_newBlock_55 (fun v293 e294 => ?_)
          refine go_aload_n (pc := 56) rfl dX8_newBlock_56 ?_
          refine gi_getF (pc := 57) (q := 74) hv260 fL_X8_20 rfl (Nat.le_of_ble_eq_true rfl) rfl (hv260.rf (by decide)) dX8_newBlock_57 ?_
          refine go_aload_n (pc := 60) rfl dX8_newBlock_60 ?_
          refine gi_get (pc := 61) (lo := 0) (hi := 1) hv260 fL_X8_187 rfl (Nat.le_of_ble_eq_true rfl) rfl rfl dX8_newBlock_61 (fun v295 v295l v295u v295w => ?_)
          have v295r : v291 = h260.2.1 70 6 := v291w
          have v295q : TI v295 v291.toInt := by rw [v295w.trans v295r.symm]; exact (ti_rfl v291)
          refine gi_iald (pc := 64) (lo := 0) (hi := 280) (len := 2) hv260 v295q rfl (by omega) (by omega) (fun _ => rfl) dX8_newBlock_64 (fun v296 v296l v296u v296w => ?_)
          have k297 := bd_e k292 (congrArg Int32.toInt v296w.symm)
          have v296V : v296.toInt = V h260.2.1 74 S := by rw [v296w, v291S]; rfl
          refine gf_iadd (pc := 65) e294 (ti_rfl v296) (by omega) (by omega) dX8_newBlock_65 (fun v298 e299 => ?_)
          refine go_istore_n (pc := 66) (Nat.le_of_ble_eq_true rfl) dX8_newBlock_66 (go_lv (lv2 := [(0, .ref 70), (1, .int a2), (2, .int a3), (3, .int v298)]) rfl ?_)
          refine go_aload_n (pc := 67) rfl dX8_newBlock_67 ?_
          refine gi_getF (pc := 68) (q := 74) hv260 fL_X8_20 rfl (Nat.le_of_ble_eq_true rfl) rfl (hv260.rf (by decide)) dX8_newBlock_68 ?_
          refine go_aload_n (pc := 71) rfl dX8_newBlock_71 ?_
          refine gi_get (pc := 72) (lo := 0) (hi := 1) hv260 fL_X8_187 rfl (Nat.le_of_ble_eq_true rfl) rfl rfl dX8_newBlock_72 (fun v300 v300l v300u v300w => ?_)
          have v300r : v291 = h260.2.1 70 6 := v291w
          have v300q : TI v300 v291.toInt := by rw [v300w.trans v300r.symm]; exact (ti_rfl v291)
          refine go_dup2 (pc := 75) rfl rfl dX8_newBlock_75 ?_
          refine gi_iald (pc := 76) (lo := 0) (hi := 280) (len := 2) hv260 v300q rfl (by omega) (by omega) (fun _ => rfl) dX8_newBlock_76 (fun v301 v301l v301u v301w => ?_)
          have k302 := bd_e k297 (congrArg Int32.toInt v301w.symm)
          have v301V : v301.toInt = V h260.2.1 74 S := by rw [v301w, v291S]; rfl
          refine go_iconst (pc := 77) (v := 1) (by decide) dX8_newBlock_77 ?_
          refine gf_iadd (pc := 78) (ti_rfl v301) (ti_c (v := 1) (a := 1) (by decide)) (by omega) (by omega) dX8_newBlock_78 (fun v303 e304 => ?_)
          refine gi_fst (pc := 79) (lo := 0) (hi := 280) (len := 2) hv260 v300q e304 rfl (by omega) (by omega) (fun _ => rfl) (by omega) (by omega) (by omega) dX8_newBlock_79 (fun h305 hv305 hv305e => ?_)
          have fx305 : FX KRt h h305 := FX.pI fx260 hv305e (by unfold KRt; omega)
          have k306 := bd_e k302 (st_I hv305e e304)
          refine go_aload_n (pc := 80) rfl dX8_newBlock_80 ?_
          refine gi_getF (pc := 81) (q := 90) hv305 fL_X8_68 rfl (Nat.le_of_ble_eq_true rfl) rfl (hv305.rf (by decide)) dX8_newBlock_81 ?_
          refine go_iload_n (pc := 84) rfl dX8_newBlock_84 ?_
          refine go_iconst (pc := 85) (v := (-1)) (by decide) dX8_newBlock_85 ?_
          refine gi_fst (pc := 86) (lo := -1) (hi := 259) (len := 560) hv305 e299 (ti_c (v := (-1)) (a := (-1)) (by decide)) rfl (by omega) (by omega) (fun _ => rfl) (by omega) (by omega) (by omega) dX8_newBlock_86 (fun h307 hv307 hv307e => ?_)
          have fx307 : FX KRt h h307 := FX.pI fx305 hv307e (by unfold KRt; omega)
          have k308 := bd_e k306 (st_I hv307e (ti_c (v := (-1)) (a := (-1)) (by decide)))
          refine go_aload_n (pc := 87) rfl dX8_newBlock_87 ?_
          refine gi_getF (pc := 88) (q := 91) hv307 fL_X8_71 rfl (Nat.le_of_ble_eq_true rfl) rfl (hv307.rf (by decide)) dX8_newBlock_88 ?_
          refine go_iload_n (pc := 91) rfl dX8_newBlock_91 ?_
          refine go_iconst (pc := 92) (v := (-1)) (by decide) dX8_newBlock_92 ?_
          refine gi_fst (pc := 93) (lo := -1) (hi := 259) (len := 560) hv307 e299 (ti_c (v := (-1)) (a := (-1)) (by decide)) rfl (by omega) (by omega) (fun _ => rfl) (by omega) (by omega) (by omega) dX8_newBlock_93 (fun h309 hv309 hv309e => ?_)
          have fx309 : FX KRt h h309 := FX.pI fx307 hv309e (by unfold KRt; omega)
          have k310 := bd_e k308 (st_I hv309e (ti_c (v := (-1)) (a := (-1)) (by decide)))
          refine go_aload_n (pc := 94) rfl dX8_newBlock_94 ?_
          refine gi_getF (pc := 95) (q := 92) hv309 fL_X8_74 rfl (Nat.le_of_ble_eq_true rfl) rfl (hv309.rf (by decide)) dX8_newBlock_95 ?_
          refine go_iload_n (pc := 98) rfl dX8_newBlock_98 ?_
          refine go_iload_n (pc := 99) rfl dX8_newBlock_99 ?_
          refine gi_fst (pc := 100) (lo := -1) (hi := 259) (len := 560) hv309 e299 (ti_rfl a2) rfl (by omega) (by omega) (fun _ => rfl) (by omega) (by omega) (by omega) dX8_newBlock_100 (fun h311 hv311 hv311e => ?_)
          have fx311 : FX KRt h h311 := FX.pI fx309 hv311e (by unfold KRt; omega)
          have k312 := bd_e k310 (st_I hv311e (ti_rfl a2))
          refine go_aload_n (pc := 101) rfl dX8_newBlock_101 ?_
          refine go_dup (pc := 102) rfl dX8_newBlock_102 ?_
          refine gi_get (pc := 103) (lo := 0) (hi := 500) hv311 fL_X8_163 rfl (Nat.le_of_ble_eq_true rfl) rfl rfl dX8_newBlock_103 (fun v313 v313l v313u v313w => ?_)
          have v313r : u269 = h311.2.1 70 4 := (show u269 = h311.2.1 70 4 from by rw [hv311e]; exact (g_iI rfl (show u269 = h309.2.1 70 4 from by rw [hv309e]; exact (g_iI rfl (show u269 = h307.2.1 70 4 from by rw [hv307e]; exact (g_iI rfl (show u269 = h305.2.1 70 4 from by rw [hv305e]; exact (g_iI rfl u269w.symm).symm).symm).symm).symm).symm).symm).symm)
          have v313q : TI v313 u269.toInt := by rw [v313w.trans v313r.symm]; exact (ti_rfl u269)
          refine go_iconst (pc := 106) (v := 1) (by decide) dX8_newBlock_106 ?_
          refine gf_iadd (pc := 107) v313q (ti_c (v := 1) (a := 1) (by decide)) (by omega) (by omega) dX8_newBlock_107 (fun v314 e315 => ?_)
          have E311 : h311.2.1 = (w1 (w1 (w1 (w1 h260.2.1 74 S (v303 : Int32)) 90 (((280 * S) + v296.toInt)) ((-1) : Int32)) 91 (((280 * S) + v296.toInt)) ((-1) : Int32)) 92 (((280 * S) + v296.toInt)) (a2 : Int32)) := by
            rw [hv311e, hv309e, hv307e, hv305e]
            rw [v291S]
            rfl
          have oh311 : OH h.2.1 h311.2.1 S := by rw [E311]; exact ((((oh260.trans (OH.w 1 rfl (by omega) (by omega) (by omega) (by omega))).trans (OH.w 280 rfl (by omega) (by omega) (by omega) (by omega))).trans (OH.w 280 rfl (by omega) (by omega) (by omega) (by omega))).trans (OH.w 280 rfl (by omega) (by omega) (by omega) (by omega)))
          have kp311 : KP h.2.1 h311.2.1 := by rw [E311]; exact ((((kp260.trans (KP.w (by omega))).trans (KP.w (by omega))).trans (KP.w (by omega))).trans (KP.w (by omega)))
          have n73_311 : V h311.2.1 73 S = V h260.2.1 73 S := by rw [E311, V_ne (by omega), V_ne (by omega), V_ne (by omega), V_ne (by omega)]
          have n74_311 : V h311.2.1 74 S = (v301.toInt + 1) := by rw [E311, V_ne (by omega), V_ne (by omega), V_ne (by omega), V_eq]; exact e304
          have n75_311 : V h311.2.1 75 S = V h260.2.1 75 S := by rw [E311, V_ne (by omega), V_ne (by omega), V_ne (by omega), V_ne (by omega)]
          have ck311 : CKF h.2.1 → CKF h311.2.1 := fun z => by rw [E311]; exact (CKF.w (by omega) (CKF.w (by omega) (CKF.w (by omega) (CKF.w (by omega) (ck260 z)))))
          refine gi_put (pc := 108) (lo := 0) (hi := 500) hv311 e315 (fP_X8_163 _) rfl (Nat.le_of_ble_eq_true rfl) rfl rfl (by omega) (by omega) rfl rfl (by decide) (by decide) (by decide) (by decide) dX8_newBlock_108 (fun h316 hv316 hv316e => ?_)
          have fx316 : FX KRt h h316 := FX.pI fx311 hv316e (by unfold KRt; omega)
          have k317 := bd_e k312 (st_I hv316e e315)
          have ve316 : VE h311.2.1 h316.2.1 := VE.of hv311 hv316
          have oh316 : OH h.2.1 h316.2.1 S := oh311.trans (OH.of hv311 hv316 S)
          have kp316 : KP h.2.1 h316.2.1 := kp311.trans (KP.ve ve316)
          have ck316 : CKF h.2.1 → CKF h316.2.1 := fun z => CKF.ve ve316 (ck311 z)
          have n73_316 : V h316.2.1 73 S = V h311.2.1 73 S := ve316.v (by omega) (by omega)
          have n74_316 : V h316.2.1 74 S = V h311.2.1 74 S := ve316.v (by omega) (by omega)
          have n75_316 : V h316.2.1 75 S = V h311.2.1 75 S := ve316.v (by omega) (by omega)
          refine go_iload_n (pc := 111) rfl dX8_newBlock_111 ?_
          have g318 : (0 : Int) ≤ (h316.2.1 70 4).toInt := (hv316.2.1 70 4).1
          have g319 : (h316.2.1 70 4).toInt ≤ 500 := (hv316.2.1 70 4).2
          have g320 : (-2147483648 : Int) ≤ (h316.2.1 70 5).toInt := (hv316.2.1 70 5).1
          have g321 : (h316.2.1 70 5).toInt ≤ 2147483647 := (hv316.2.1 70 5).2
          have g322 : (h316.2.1 70 5).toInt = u271.toInt := by rw [← (show u271 = h316.2.1 70 5 from (show u271 = h316.2.1 70 5 from by rw [hv316e]; exact (g_iI rfl (show u271 = h311.2.1 70 5 from by rw [hv311e]; exact (g_iI rfl (show u271 = h309.2.1 70 5 from by rw [hv309e]; exact (g_iI rfl (show u271 = h307.2.1 70 5 from by rw [hv307e]; exact (g_iI rfl (show u271 = h305.2.1 70 5 from by rw [hv305e]; exact (g_iI rfl u271w.symm).symm).symm).symm).symm).symm).symm).symm).symm).symm))] <;> exact (ti_rfl u271)
          have g323 : (h316.2.1 70 4).toInt = (u269.toInt + 1) := by rw [← (show v314 = h316.2.1 70 4 from (show v314 = h316.2.1 70 4 from by rw [hv316e]; exact g_iS.symm))] <;> exact e315
          have z325 : (v298 : Int32).toInt = ((280 * v291.toInt) + v296.toInt) := e299
          have pp324 : (h316.2.1 70 5).toInt = 0 → (h.2.1 70 5).toInt = 0 := (by omega)
          have z327 : (v298 : Int32).toInt = ((280 * v291.toInt) + v296.toInt) := e299
          have pp326 : (h.2.1 70 4).toInt ≤ (h316.2.1 70 4).toInt := (by omega)
          have z329 : (v298 : Int32).toInt = ((280 * v291.toInt) + v296.toInt) := e299
          have pp328 : (h316.2.1 70 5).toInt = 0 → (h.2.1 70 4).toInt + 1 ≤ (h316.2.1 70 4).toInt ∧ a3.toInt ≤ 6 ∧ V h316.2.1 74 S = V h.2.1 74 S + 1 := (by omega)
          have z331 : (v298 : Int32).toInt = ((280 * v291.toInt) + v296.toInt) := e299
          have pp330 : V h316.2.1 73 S = V h.2.1 73 S := (by omega)
          have z333 : (v298 : Int32).toInt = ((280 * v291.toInt) + v296.toInt) := e299
          have pp332 : V h316.2.1 75 S = V h.2.1 75 S := (by omega)
          have zz : (v298 : Int32).toInt = ((280 * v291.toInt) + v296.toInt) := e299
          have zy : (v303 : Int32).toInt = (v301.toInt + 1) := e304
          have pp334 : (h316.2.1 70 5).toInt = 0 → ∀ d : Int, LI h.2.1 h316.2.1 S a2.toInt d (v298 : Int32).toInt := (fun hg d => by rw [show (v298 : Int32).toInt = ((280 * S) + v296.toInt) from (by omega)]; exact LI.ve0 ve260 (LI.init (x := (v303 : Int32)) (y := ((-1) : Int32)) (z := ((-1) : Int32)) (w := (a2 : Int32)) S0 (by rw [← E311]; exact ve316) (by omega) (by omega) (by decide) (by decide) rfl))
          have pp335 : (st h316, (v298 : Int32).toInt) = f_X8_newBlock (st h) a2.toInt a3.toInt := (by rw [show (v298 : Int32).toInt = ((280 * v291.toInt) + v296.toInt) from e299]; exact k317.symm.trans kf)
          have pp336 : FX KRt h h316 := fx316
          subst hS
          exact gi_iret (pc := 112) e299 ⟨_, rfl, (by rw [show (v298 : Int32).toInt = ((280 * v291.toInt) + v296.toInt) from e299]; omega), (by rw [show (v298 : Int32).toInt = ((280 * v291.toInt) + v296.toInt) from e299]; omega), ⟨_, hv316, (MW.trans (MW.trans (MW.trans (MW.mz _ _) (MW.mz _ _)) (MW.mz _ _)) (MW.mz _ _))⟩, pp324, pp326, pp328, pp330, pp332, pp334, pp335, pp336, kp316, oh316, ck316⟩ hv316 dX8_newBlock_112
        ·
          have k337 := if_f k288 (fun z => z q289)
          refine go_iconst (pc := 46) (v := 0) (by decide) dX8_newBlock_46 ?_
          have g338 : (0 : Int) ≤ (h260.2.1 70 4).toInt := (hv260.2.1 70 4).1
          have g339 : (h260.2.1 70 4).toInt ≤ 500 := (hv260.2.1 70 4).2
          have g340 : (-2147483648 : Int) ≤ (h260.2.1 70 5).toInt := (hv260.2.1 70 5).1
          have g341 : (h260.2.1 70 5).toInt ≤ 2147483647 := (hv260.2.1 70 5).2
          have g342 : (h260.2.1 70 4).toInt = u269.toInt := by rw [← (show u269 = h260.2.1 70 4 from u269w)] <;> exact (ti_rfl u269)
          have g343 : (h260.2.1 70 5).toInt = u271.toInt := by rw [← (show u271 = h260.2.1 70 5 from u271w)] <;> exact (ti_rfl u271)
          have z345 : (0 : Int32).toInt = 0 := (ti_c (v := 0) (a := 0) (by decide))
          have pp344 : (h260.2.1 70 5).toInt = 0 → (h.2.1 70 5).toInt = 0 := (by omega)
          have z347 : (0 : Int32).toInt = 0 := (ti_c (v := 0) (a := 0) (by decide))
          have pp346 : (h.2.1 70 4).toInt ≤ (h260.2.1 70 4).toInt := (by omega)
          have z349 : (0 : Int32).toInt = 0 := (ti_c (v := 0) (a := 0) (by decide))
          have pp348 : (h260.2.1 70 5).toInt = 0 → (h.2.1 70 4).toInt + 1 ≤ (h260.2.1 70 4).toInt ∧ a3.toInt ≤ 6 ∧ V h260.2.1 74 S = V h.2.1 74 S + 1 := (by omega)
          have z351 : (0 : Int32).toInt = 0 := (ti_c (v := 0) (a := 0) (by decide))
          have pp350 : V h260.2.1 73 S = V h.2.1 73 S := (by omega)
          have z353 : (0 : Int32).toInt = 0 := (ti_c (v := 0) (a := 0) (by decide))
          have pp352 : V h260.2.1 75 S = V h.2.1 75 S := (by omega)
          have pp354 : (h260.2.1 70 5).toInt = 0 → ∀ d : Int, LI h.2.1 h260.2.1 S a2.toInt d (0 : Int32).toInt := (fun hg => absurd hg (by omega))
          have pp355 : (st h260, (0 : Int32).toInt) = f_X8_newBlock (st h) a2.toInt a3.toInt := (by rw [show (0 : Int32).toInt = 0 from (ti_c (v := 0) (a := 0) (by decide))]; exact k337.symm.trans kf)
          have pp356 : FX KRt h h260 := fx260
          subst hS
          exact gi_iret (pc := 47) (ti_c (v := 0) (a := 0) (by decide)) ⟨_, rfl, (by rw [show (0 : Int32).toInt = 0 from (ti_c (v := 0) (a := 0) (by decide))]; omega), (by rw [show (0 : Int32).toInt = 0 from (ti_c (v := 0) (a := 0) (by decide))]; omega), ⟨_, hv260, (MW.rfl _)⟩, pp344, pp346, pp348, pp350, pp352, pp354, pp355, pp356, kp260, oh260, ck260⟩ hv260 dX8_newBlock_47
      ·
        have k357 := if_f k280 q281
        refine go_iload_n (pc := 28) rfl dX8_newBlock_28 ?_
        refine go_bipush (pc := 29) (v := 6) (by decide) dX8_newBlock_29 ?_
        refine gf_icmp_le (pc := 31) (tgt := 39) (ti_rfl a3) (ti_c (v := 6) (a := 6) (by decide)) (by decide) dX8_newBlock_31 (fun q358 => ?_) (fun q358 => ?_)
        ·
          have k359 := if_t k357 q358
          refine go_aload_n (pc := 39) rfl dX8_newBlock_39 ?_
          refine go_invV (pc := 40) (sl := 0) (s_X8_isGood_f l (d + 0) hv260 ) mL_X8_172 iM_X8_isGood sM_X8_isGood (hv260.sh rfl) rfl rfl rfl (Nat.le_of_ble_eq_true rfl) (show d + 0 + 1 + 1 ≤ d + 2 by omega) (show 8 + (1 + 11) + 40 * (d + 0 + 1) ≤ 40 * (d + 2) by omega) (g_c0 hv260.ln) (Nat.le_of_ble_eq_true rfl) dX8_newBlock_40 ?_
          intro r h360 hq _
          obtain ⟨v364, rfl, v364l, v364u, rfl, f361, f362, f363⟩ := hq
          replace f363 : PE _ _ := f363
          have k365 := bd_e k359 f363.symm
          refine gf_if_ne (pc := 43) (tgt := 48) (ti_rfl v364) (by decide) dX8_newBlock_43 (fun q366 => ?_) (fun q366 => ?_)
          ·
            have k367 := if_t k365 q366
            refine go_sipush (pc := 48) (v := 280) (by decide) dX8_newBlock_48 ?_
            refine go_aload_n (pc := 51) rfl dX8_newBlock_51 ?_
            refine gi_get (pc := 52) (lo := 0) (hi := 1) hv260 fL_X8_187 rfl (Nat.le_of_ble_eq_true rfl) rfl rfl dX8_newBlock_52 (fun v368 v368l v368u v368w => ?_)
            have k369 := bd_e k367 (congrArg Int32.toInt v368w.symm)
            have v368S : v368.toInt = S := by rw [v368w]; exact (congrArg Int32.toInt oh260.side).trans hS.symm
            refine gf_imul (pc := 55) (ti_c (v := 280) (a := 280) (by decide)) (ti_rfl v368) (by omega) (by omega) dX8_newBlock_55 (fun v370 e371 => ?_)
            refine go_aload_n (pc := 56) rfl dX8_newBlock_56 ?_
            refine gi_getF (pc := 57) (q := 74) hv260 fL_X8_20 rfl (Nat.le_of_ble_eq_true rfl) rfl (hv260.rf (by decide)) dX8_newBlock_57 ?_
            refine go_aload_n (pc := 60) rfl dX8_newBlock_60 ?_
            refine gi_get (pc := 61) (lo := 0) (hi := 1) hv260 fL_X8_187 rfl (Nat.le_of_ble_eq_true rfl) rfl rfl dX8_newBlock_61 (fun v372 v372l v372u v372w => ?_)
            have v372r : v368 = h260.2.1 70 6 := v368w
            have v372q : TI v372 v368.toInt := by rw [v372w.trans v372r.symm]; exact (ti_rfl v368)
            refine gi_iald (pc := 64) (lo := 0) (hi := 280) (len := 2) hv260 v372q rfl (by omega) (by omega) (fun _ => rfl) dX8_newBlock_64 (fun v373 v373l v373u v373w => ?_)
            have k374 := bd_e k369 (congrArg Int32.toInt v373w.symm)
            have v373V : v373.toInt = V h260.2.1 74 S := by rw [v373w, v368S]; rfl
            refine gf_iadd (pc := 65) e371 (ti_rfl v373) (by omega) (by omega) dX8_newBlock_65 (fun v375 e376 => ?_)
            refine go_istore_n (pc := 66) (Nat.le_of_ble_eq_true rfl) dX8_newBlock_66 (go_lv (lv2 := [(0, .ref 70), (1, .int a2), (2, .int a3), (3, .int v375)]) rfl ?_)
            refine go_aload_n (pc := 67) rfl dX8_newBlock_67 ?_
            refine gi_getF (pc := 68) (q := 74) hv260 fL_X8_20 rfl (Nat.le_of_ble_eq_true rfl) rfl (hv260.rf (by decide)) dX8_newBlock_68 ?_
            refine go_aload_n (pc := 71) rfl dX8_newBlock_71 ?_
            refine gi_get (pc := 72) (lo := 0) (hi := 1) hv260 fL_X8_187 rfl (Nat.le_of_ble_eq_true rfl) rfl rfl dX8_newBlock_72 (fun v377 v377l v377u v377w => ?_)
            have v377r : v368 = h260.2.1 70 6 := v368w
            have v377q : TI v377 v368.toInt := by rw [v377w.trans v377r.symm]; exact (ti_rfl v368)
            refine go_dup2 (pc := 75) rfl rfl dX8_newBlock_75 ?_
            refine gi_iald (pc := 76) (lo := 0) (hi := 280) (len := 2) hv260 v377q rfl (by omega) (by omega) (fun _ => rfl) dX8_newBlock_76 (fun v378 v378l v378u v378w => ?_)
            have k379 := bd_e k374 (congrArg Int32.toInt v378w.symm)
            have v378V : v378.toInt = V h260.2.1 74 S := by rw [v378w, v368S]; rfl
            refine go_iconst (pc := 77) (v := 1) (by decide) dX8_newBlock_77 ?_
            refine gf_iadd (pc := 78) (ti_rfl v378) (ti_c (v := 1) (a := 1) (by decide)) (by omega) (by omega) dX8_newBlock_78 (fun v380 e381 => ?_)
            refine gi_fst (pc := 79) (lo := 0) (hi := 280) (len := 2) hv260 v377q e381 rfl (by omega) (by omega) (fun _ => rfl) (by omega) (by omega) (by omega) dX8_newBlock_79 (fun h382 hv382 hv382e => ?_)
            have fx382 : FX KRt h h382 := FX.pI fx260 hv382e (by unfold KRt; omega)
            have k383 := bd_e k379 (st_I hv382e e381)
            refine go_aload_n (pc := 80) rfl dX8_newBlock_80 ?_
            refine gi_getF (pc := 81) (q := 90) hv382 fL_X8_68 rfl (Nat.le_of_ble_eq_true rfl) rfl (hv382.rf (by decide)) dX8_newBlock_81 ?_
            refine go_iload_n (pc := 84) rfl dX8_newBlock_84 ?_
            refine go_iconst (pc := 85) (v := (-1)) (by decide) dX8_newBlock_85 ?_
            refine gi_fst (pc := 86) (lo := -1) (hi := 259) (len := 560) hv382 e376 (ti_c (v := (-1)) (a := (-1)) (by decide)) rfl (by omega) (by omega) (fun _ => rfl) (by omega) (by omega) (by omega) dX8_newBlock_86 (fun h384 hv384 hv384e => ?_)
            have fx384 : FX KRt h h384 := FX.pI fx382 hv384e (by unfold KRt; omega)
            have k385 := bd_e k383 (st_I hv384e (ti_c (v := (-1)) (a := (-1)) (by decide)))
            refine go_aload_n (pc := 87) rfl dX8_newBlock_87 ?_
            refine gi_getF (pc := 88) (q := 91) hv384 fL_X8_71 rfl (Nat.le_of_ble_eq_true rfl) rfl (hv384.rf (by decide)) dX8_newBlock_88 ?_
            refine go_iload_n (pc := 91) rfl dX8_newBlock_91 ?_
            refine go_iconst (pc := 92) (v := (-1)) (by decide) dX8_newBlock_92 ?_
            refine gi_fst (pc := 93) (lo := -1) (hi := 259) (len := 560) hv384 e376 (ti_c (v := (-1)) (a := (-1)) (by decide)) rfl (by omega) (by omega) (fun _ => rfl) (by omega) (by omega) (by omega) dX8_newBlock_93 (fun h386 hv386 hv386e => ?_)
            have fx386 : FX KRt h h386 := FX.pI fx384 hv386e (by unfold KRt; omega)
            have k387 := bd_e k385 (st_I hv386e (ti_c (v := (-1)) (a := (-1)) (by decide)))
            refine go_aload_n (pc := 94) rfl dX8_newBlock_94 ?_
            refine gi_getF (pc := 95) (q := 92) hv386 fL_X8_74 rfl (Nat.le_of_ble_eq_true rfl) rfl (hv386.rf (by decide)) dX8_newBlock_95 ?_
            refine go_iload_n (pc := 98) rfl dX8_newBlock_98 ?_
            refine go_iload_n (pc := 99) rfl dX8_newBlock_99 ?_
            refine gi_fst (pc := 100) (lo := -1) (hi := 259) (len := 560) hv386 e376 (ti_rfl a2) rfl (by omega) (by omega) (fun _ => rfl) (by omega) (by omega) (by omega) dX8_newBlock_100 (fun h388 hv388 hv388e => ?_)
            have fx388 : FX KRt h h388 := FX.pI fx386 hv388e (by unfold KRt; omega)
            have k389 := bd_e k387 (st_I hv388e (ti_rfl a2))
            refine go_aload_n (pc := 101) rfl dX8_newBlock_101 ?_
            refine go_dup (pc := 102) rfl dX8_newBlock_102 ?_
            refine gi_get (pc := 103) (lo := 0) (hi := 500) hv388 fL_X8_163 rfl (Nat.le_of_ble_eq_true rfl) rfl rfl dX8_newBlock_103 (fun v390 v390l v390u v390w => ?_)
            have v390r : u269 = h388.2.1 70 4 := (show u269 = h388.2.1 70 4 from by rw [hv388e]; exact (g_iI rfl (show u269 = h386.2.1 70 4 from by rw [hv386e]; exact (g_iI rfl (show u269 = h384.2.1 70 4 from by rw [hv384e]; exact (g_iI rfl (show u269 = h382.2.1 70 4 from by rw [hv382e]; exact (g_iI rfl u269w.symm).symm).symm).symm).symm).symm).symm).symm)
            have v390q : TI v390 u269.toInt := by rw [v390w.trans v390r.symm]; exact (ti_rfl u269)
            refine go_iconst (pc := 106) (v := 1) (by decide) dX8_newBlock_106 ?_
            refine gf_iadd (pc := 107) v390q (ti_c (v := 1) (a := 1) (by decide)) (by omega) (by omega) dX8_newBlock_107 (fun v391 e392 => ?_)
            have E388 : h388.2.1 = (w1 (w1 (w1 (w1 h260.2.1 74 S (v380 : Int32)) 90 (((280 * S) + v373.toInt)) ((-1) : Int32)) 91 (((280 * S) + v373.toInt)) ((-1) : Int32)) 92 (((280 * S) + v373.toInt)) (a2 : Int32)) := by
              rw [hv388e, hv386e, hv384e, hv382e]
              rw [v368S]
              rfl
            have oh388 : OH h.2.1 h388.2.1 S := by rw [E388]; exact ((((oh260.trans (OH.w 1 rfl (by omega) (by omega) (by omega) (by omega))).trans (OH.w 280 rfl (by omega) (by omega) (by omega) (by omega))).trans (OH.w 280 rfl (by omega) (by omega) (by omega) (by omega))).trans (OH.w 280 rfl (by omega) (by omega) (by omega) (by omega)))
            have kp388 : KP h.2.1 h388.2.1 := by rw [E388]; exact ((((kp260.trans (KP.w (by omega))).trans (KP.w (by omega))).trans (KP.w (by omega))).trans (KP.w (by omega)))
            have n73_388 : V h388.2.1 73 S = V h260.2.1 73 S := by rw [E388, V_ne (by omega), V_ne (by omega), V_ne (by omega), V_ne (by omega)]
            have n74_388 : V h388.2.1 74 S = (v378.toInt + 1) := by rw [E388, V_ne (by omega), V_ne (by omega), V_ne (by omega), V_eq]; exact e381
            have n75_388 : V h388.2.1 75 S = V h260.2.1 75 S := by rw [E388, V_ne (by omega), V_ne (by omega), V_ne (by omega), V_ne (by omega)]
            have ck388 : CKF h.2.1 → CKF h388.2.1 := fun z => by rw [E388]; exact (CKF.w (by omega) (CKF.w (by omega) (CKF.w (by omega) (CKF.w (by omega) (ck260 z)))))
            refine gi_put (pc := 108) (lo := 0) (hi := 500) hv388 e392 (fP_X8_163 _) rfl (Nat.le_of_ble_eq_true rfl) rfl rfl (by omega) (by omega) rfl rfl (by decide) (by decide) (by decide) (by decide) dX8_newBlock_108 (fun h393 hv393 hv393e => ?_)
            have fx393 : FX KRt h h393 := FX.pI fx388 hv393e (by unfold KRt; omega)
            have k394 := bd_e k389 (st_I hv393e e392)
            have ve393 : VE h388.2.1 h393.2.1 := VE.of hv388 hv393
            have oh393 : OH h.2.1 h393.2.1 S := oh388.trans (OH.of hv388 hv393 S)
            have kp393 : KP h.2.1 h393.2.1 := kp388.trans (KP.ve ve393)
            have ck393 : CKF h.2.1 → CKF h393.2.1 := fun z => CKF.ve ve393 (ck388 z)
            have n73_393 : V h393.2.1 73 S = V h388.2.1 73 S := ve393.v (by omega) (by omega)
            have n74_393 : V h393.2.1 74 S = V h388.2.1 74 S := ve393.v (by omega) (by omega)
            have n75_393 : V h393.2.1 75 S = V h388.2.1 75 S := ve393.v (by omega) (by omega)
            refine go_iload_n (pc := 111) rfl dX8_newBlock_111 ?_
            have g395 : (0 : Int) ≤ (h393.2.1 70 4).toInt := (hv393.2.1 70 4).1
            have g396 : (h393.2.1 70 4).toInt ≤ 500 := (hv393.2.1 70 4).2
            have g397 : (-2147483648 : Int) ≤ (h393.2.1 70 5).toInt := (hv393.2.1 70 5).1
            have g398 : (h393.2.1 70 5).toInt ≤ 2147483647 := (hv393.2.1 70 5).2
            have g399 : (h393.2.1 70 5).toInt = u271.toInt := by rw [← (show u271 = h393.2.1 70 5 from (show u271 = h393.2.1 70 5 from by rw [hv393e]; exact (g_iI rfl (show u271 = h388.2.1 70 5 from by rw [hv388e]; exact (g_iI rfl (show u271 = h386.2.1 70 5 from by rw [hv386e]; exact (g_iI rfl (show u271 = h384.2.1 70 5 from by rw [hv384e]; exact (g_iI rfl (show u271 = h382.2.1 70 5 from by rw [hv382e]; exact (g_iI rfl u271w.symm).symm).symm).symm).symm).symm).symm).symm).symm).symm))] <;> exact (ti_rfl u271)
            have g400 : (h393.2.1 70 4).toInt = (u269.toInt + 1) := by rw [← (show v391 = h393.2.1 70 4 from (show v391 = h393.2.1 70 4 from by rw [hv393e]; exact g_iS.symm))] <;> exact e392
            have z402 : (v375 : Int32).toInt = ((280 * v368.toInt) + v373.toInt) := e376
            have pp401 : (h393.2.1 70 5).toInt = 0 → (h.2.1 70 5).toInt = 0 := (by omega)
            have z404 : (v375 : Int32).toInt = ((280 * v368.toInt) + v373.toInt) := e376
            have pp403 : (h.2.1 70 4).toInt ≤ (h393.2.1 70 4).toInt := (by omega)
            have z406 : (v375 : Int32).toInt = ((280 * v368.toInt) + v373.toInt) := e376
            have pp405 : (h393.2.1 70 5).toInt = 0 → (h.2.1 70 4).toInt + 1 ≤ (h393.2.1 70 4).toInt ∧ a3.toInt ≤ 6 ∧ V h393.2.1 74 S = V h.2.1 74 S + 1 := (by omega)
            have z408 : (v375 : Int32).toInt = ((280 * v368.toInt) + v373.toInt) := e376
            have pp407 : V h393.2.1 73 S = V h.2.1 73 S := (by omega)
            have z410 : (v375 : Int32).toInt = ((280 * v368.toInt) + v373.toInt) := e376
            have pp409 : V h393.2.1 75 S = V h.2.1 75 S := (by omega)
            have zz : (v375 : Int32).toInt = ((280 * v368.toInt) + v373.toInt) := e376
            have zy : (v380 : Int32).toInt = (v378.toInt + 1) := e381
            have pp411 : (h393.2.1 70 5).toInt = 0 → ∀ d : Int, LI h.2.1 h393.2.1 S a2.toInt d (v375 : Int32).toInt := (fun hg d => by rw [show (v375 : Int32).toInt = ((280 * S) + v373.toInt) from (by omega)]; exact LI.ve0 ve260 (LI.init (x := (v380 : Int32)) (y := ((-1) : Int32)) (z := ((-1) : Int32)) (w := (a2 : Int32)) S0 (by rw [← E388]; exact ve393) (by omega) (by omega) (by decide) (by decide) rfl))
            have pp412 : (st h393, (v375 : Int32).toInt) = f_X8_newBlock (st h) a2.toInt a3.toInt := (by rw [show (v375 : Int32).toInt = ((280 * v368.toInt) + v373.toInt) from e376]; exact k394.symm.trans kf)
            have pp413 : FX KRt h h393 := fx393
            subst hS
            exact gi_iret (pc := 112) e376 ⟨_, rfl, (by rw [show (v375 : Int32).toInt = ((280 * v368.toInt) + v373.toInt) from e376]; omega), (by rw [show (v375 : Int32).toInt = ((280 * v368.toInt) + v373.toInt) from e376]; omega), ⟨_, hv393, (MW.trans (MW.trans (MW.trans (MW.mz _ _) (MW.mz _ _)) (MW.mz _ _)) (MW.mz _ _))⟩, pp401, pp403, pp405, pp407, pp409, pp411, pp412, pp413, kp393, oh393, ck393⟩ hv393 dX8_newBlock_112
          ·
            have k414 := if_f k365 (fun z => z q366)
            refine go_iconst (pc := 46) (v := 0) (by decide) dX8_newBlock_46 ?_
            have g415 : (0 : Int) ≤ (h260.2.1 70 4).toInt := (hv260.2.1 70 4).1
            have g416 : (h260.2.1 70 4).toInt ≤ 500 := (hv260.2.1 70 4).2
            have g417 : (-2147483648 : Int) ≤ (h260.2.1 70 5).toInt := (hv260.2.1 70 5).1
            have g418 : (h260.2.1 70 5).toInt ≤ 2147483647 := (hv260.2.1 70 5).2
            have g419 : (h260.2.1 70 4).toInt = u269.toInt := by rw [← (show u269 = h260.2.1 70 4 from u269w)] <;> exact (ti_rfl u269)
            have g420 : (h260.2.1 70 5).toInt = u271.toInt := by rw [← (show u271 = h260.2.1 70 5 from u271w)] <;> exact (ti_rfl u271)
            have z422 : (0 : Int32).toInt = 0 := (ti_c (v := 0) (a := 0) (by decide))
            have pp421 : (h260.2.1 70 5).toInt = 0 → (h.2.1 70 5).toInt = 0 := (by omega)
            have z424 : (0 : Int32).toInt = 0 := (ti_c (v := 0) (a := 0) (by decide))
            have pp423 : (h.2.1 70 4).toInt ≤ (h260.2.1 70 4).toInt := (by omega)
            have z426 : (0 : Int32).toInt = 0 := (ti_c (v := 0) (a := 0) (by decide))
            have pp425 : (h260.2.1 70 5).toInt = 0 → (h.2.1 70 4).toInt + 1 ≤ (h260.2.1 70 4).toInt ∧ a3.toInt ≤ 6 ∧ V h260.2.1 74 S = V h.2.1 74 S + 1 := (by omega)
            have z428 : (0 : Int32).toInt = 0 := (ti_c (v := 0) (a := 0) (by decide))
            have pp427 : V h260.2.1 73 S = V h.2.1 73 S := (by omega)
            have z430 : (0 : Int32).toInt = 0 := (ti_c (v := 0) (a := 0) (by decide))
            have pp429 : V h260.2.1 75 S = V h.2.1 75 S := (by omega)
            have pp431 : (h260.2.1 70 5).toInt = 0 → ∀ d : Int, LI h.2.1 h260.2.1 S a2.toInt d (0 : Int32).toInt := (fun hg => absurd hg (by omega))
            have pp432 : (st h260, (0 : Int32).toInt) = f_X8_newBlock (st h) a2.toInt a3.toInt := (by rw [show (0 : Int32).toInt = 0 from (ti_c (v := 0) (a := 0) (by decide))]; exact k414.symm.trans kf)
            have pp433 : FX KRt h h260 := fx260
            subst hS
            exact gi_iret (pc := 47) (ti_c (v := 0) (a := 0) (by decide)) ⟨_, rfl, (by rw [show (0 : Int32).toInt = 0 from (ti_c (v := 0) (a := 0) (by decide))]; omega), (by rw [show (0 : Int32).toInt = 0 from (ti_c (v := 0) (a := 0) (by decide))]; omega), ⟨_, hv260, (MW.rfl _)⟩, pp421, pp423, pp425, pp427, pp429, pp431, pp432, pp433, kp260, oh260, ck260⟩ hv260 dX8_newBlock_47
        ·
          have k434 := if_f k357 (Int.not_le.mpr q358)
          refine go_aload_n (pc := 34) rfl dX8_newBlock_34 ?_
          refine go_iconst (pc := 35) (v := 4) (by decide) dX8_newBlock_35 ?_
          have g435 : (0 : Int) ≤ (h260.2.1 70 4).toInt := (hv260.2.1 70 4).1
          have g436 : (h260.2.1 70 4).toInt ≤ 500 := (hv260.2.1 70 4).2
          have g437 : (-2147483648 : Int) ≤ (h260.2.1 70 5).toInt := (hv260.2.1 70 5).1
          have g438 : (h260.2.1 70 5).toInt ≤ 2147483647 := (hv260.2.1 70 5).2
          have g439 : (h260.2.1 70 4).toInt = u269.toInt := by rw [← (show u269 = h260.2.1 70 4 from u269w)] <;> exact (ti_rfl u269)
          have g440 : (h260.2.1 70 5).toInt = u271.toInt := by rw [← (show u271 = h260.2.1 70 5 from u271w)] <;> exact (ti_rfl u271)
          refine go_invV (pc := 36) (sl := 0) (s_X8_fails_f l (d + 0) hv260 4 (by rw [show (4 : Int32).toInt = 4 from (ti_c (v := 4) (a := 4) (by decide))]; omega) (by rw [show (4 : Int32).toInt = 4 from (ti_c (v := 4) (a := 4) (by decide))]; omega)) mL_X8_180 iM_X8_fails sM_X8_fails (hv260.sh rfl) rfl rfl rfl (Nat.le_of_ble_eq_true rfl) (show d + 0 + 1 + 1 ≤ d + 2 by omega) (show 8 + (2 + 11) + 40 * (d + 0 + 1) ≤ 40 * (d + 2) by omega) (g_c0 hv260.ln) (Nat.le_of_ble_eq_true rfl) dX8_newBlock_36 ?_
          intro r h441 hq _
          obtain ⟨rfl, hv441, f442, f443, f444, f445⟩ := hq
          try rw [show (4 : Int32).toInt = 4 from (ti_c (v := 4) (a := 4) (by decide))] at f442
          try rw [show (4 : Int32).toInt = 4 from (ti_c (v := 4) (a := 4) (by decide))] at f443
          try rw [show (4 : Int32).toInt = 4 from (ti_c (v := 4) (a := 4) (by decide))] at f444
          try rw [show (4 : Int32).toInt = 4 from (ti_c (v := 4) (a := 4) (by decide))] at f445
          have fx441 : FX KRt h h441 := FX.tr fx260 f445
          have k446 := bd_e k434 f444.symm
          have ve441 : VE h260.2.1 h441.2.1 := VE.of hv260 hv441
          have oh441 : OH h.2.1 h441.2.1 S := oh260.trans (OH.of hv260 hv441 S)
          have kp441 : KP h.2.1 h441.2.1 := kp260.trans (KP.ve ve441)
          have ck441 : CKF h.2.1 → CKF h441.2.1 := fun z => CKF.ve ve441 (ck260 z)
          have n73_441 : V h441.2.1 73 S = V h260.2.1 73 S := ve441.v (by omega) (by omega)
          have n74_441 : V h441.2.1 74 S = V h260.2.1 74 S := ve441.v (by omega) (by omega)
          have n75_441 : V h441.2.1 75 S = V h260.2.1 75 S := ve441.v (by omega) (by omega)
          obtain ⟨u447, u447w⟩ : ∃ v : Int32, v = h441.2.1 70 4 := ⟨_, rfl⟩
          have u447e : (h441.2.1 70 4).toInt = u447.toInt := by rw [u447w]
          have u447l : 0 ≤ u447.toInt := by rw [u447w]; exact (hv441.2.1 70 4).1
          have u447u : u447.toInt ≤ 500 := by rw [u447w]; exact (hv441.2.1 70 4).2
          have k448 := bd_e k446 (congrArg Int32.toInt u447w.symm)
          obtain ⟨u449, u449w⟩ : ∃ v : Int32, v = h441.2.1 70 5 := ⟨_, rfl⟩
          have u449e : (h441.2.1 70 5).toInt = u449.toInt := by rw [u449w]
          have u449l : -2147483648 ≤ u449.toInt := by rw [u449w]; exact (hv441.2.1 70 5).1
          have u449u : u449.toInt ≤ 2147483647 := by rw [u449w]; exact (hv441.2.1 70 5).2
          have k450 := k448
          refine go_aload_n (pc := 39) rfl dX8_newBlock_39 ?_
          refine go_invV (pc := 40) (sl := 0) (s_X8_isGood_f l (d + 0) hv441 ) mL_X8_172 iM_X8_isGood sM_X8_isGood (hv441.sh rfl) rfl rfl rfl (Nat.le_of_ble_eq_true rfl) (show d + 0 + 1 + 1 ≤ d + 2 by omega) (show 8 + (1 + 11) + 40 * (d + 0 + 1) ≤ 40 * (d + 2) by omega) (g_c0 hv441.ln) (Nat.le_of_ble_eq_true rfl) dX8_newBlock_40 ?_
          intro r h451 hq _
          obtain ⟨v455, rfl, v455l, v455u, rfl, f452, f453, f454⟩ := hq
          replace f454 : PE _ _ := f454
          have k456 := bd_e k450 f454.symm
          refine gf_if_ne (pc := 43) (tgt := 48) (ti_rfl v455) (by decide) dX8_newBlock_43 (fun q457 => ?_) (fun q457 => ?_)
          ·
            have k458 := if_t k456 q457
            refine go_sipush (pc := 48) (v := 280) (by decide) dX8_newBlock_48 ?_
            refine go_aload_n (pc := 51) rfl dX8_newBlock_51 ?_
            refine gi_get (pc := 52) (lo := 0) (hi := 1) hv441 fL_X8_187 rfl (Nat.le_of_ble_eq_true rfl) rfl rfl dX8_newBlock_52 (fun v459 v459l v459u v459w => ?_)
            have k460 := bd_e k458 (congrArg Int32.toInt v459w.symm)
            have v459S : v459.toInt = S := by rw [v459w]; exact (congrArg Int32.toInt oh441.side).trans hS.symm
            refine gf_imul (pc := 55) (ti_c (v := 280) (a := 280) (by decide)) (ti_rfl v459) (by omega) (by omega) dX8_newBlock_55 (fun v461 e462 => ?_)
            refine go_aload_n (pc := 56) rfl dX8_newBlock_56 ?_
            refine gi_getF (pc := 57) (q := 74) hv441 fL_X8_20 rfl (Nat.le_of_ble_eq_true rfl) rfl (hv441.rf (by decide)) dX8_newBlock_57 ?_
            refine go_aload_n (pc := 60) rfl dX8_newBlock_60 ?_
            refine gi_get (pc := 61) (lo := 0) (hi := 1) hv441 fL_X8_187 rfl (Nat.le_of_ble_eq_true rfl) rfl rfl dX8_newBlock_61 (fun v463 v463l v463u v463w => ?_)
            have v463r : v459 = h441.2.1 70 6 := v459w
            have v463q : TI v463 v459.toInt := by rw [v463w.trans v463r.symm]; exact (ti_rfl v459)
            refine gi_iald (pc := 64) (lo := 0) (hi := 280) (len := 2) hv441 v463q rfl (by omega) (by omega) (fun _ => rfl) dX8_newBlock_64 (fun v464 v464l v464u v464w => ?_)
            have k465 := bd_e k460 (congrArg Int32.toInt v464w.symm)
            have v464V : v464.toInt = V h441.2.1 74 S := by rw [v464w, v459S]; rfl
            refine gf_iadd (pc := 65) e462 (ti_rfl v464) (by omega) (by omega) dX8_newBlock_65 (fun v466 e467 => ?_)
            refine go_istore_n (pc := 66) (Nat.le_of_ble_eq_true rfl) dX8_newBlock_66 (go_lv (lv2 := [(0, .ref 70), (1, .int a2), (2, .int a3), (3, .int v466)]) rfl ?_)
            refine go_aload_n (pc := 67) rfl dX8_newBlock_67 ?_
            refine gi_getF (pc := 68) (q := 74) hv441 fL_X8_20 rfl (Nat.le_of_ble_eq_true rfl) rfl (hv441.rf (by decide)) dX8_newBlock_68 ?_
            refine go_aload_n (pc := 71) rfl dX8_newBlock_71 ?_
            refine gi_get (pc := 72) (lo := 0) (hi := 1) hv441 fL_X8_187 rfl (Nat.le_of_ble_eq_true rfl) rfl rfl dX8_newBlock_72 (fun v468 v468l v468u v468w => ?_)
            have v468r : v459 = h441.2.1 70 6 := v459w
            have v468q : TI v468 v459.toInt := by rw [v468w.trans v468r.symm]; exact (ti_rfl v459)
            refine go_dup2 (pc := 75) rfl rfl dX8_newBlock_75 ?_
            refine gi_iald (pc := 76) (lo := 0) (hi := 280) (len := 2) hv441 v468q rfl (by omega) (by omega) (fun _ => rfl) dX8_newBlock_76 (fun v469 v469l v469u v469w => ?_)
            have k470 := bd_e k465 (congrArg Int32.toInt v469w.symm)
            have v469V : v469.toInt = V h441.2.1 74 S := by rw [v469w, v459S]; rfl
            refine go_iconst (pc := 77) (v := 1) (by decide) dX8_newBlock_77 ?_
            refine gf_iadd (pc := 78) (ti_rfl v469) (ti_c (v := 1) (a := 1) (by decide)) (by omega) (by omega) dX8_newBlock_78 (fun v471 e472 => ?_)
            refine gi_fst (pc := 79) (lo := 0) (hi := 280) (len := 2) hv441 v468q e472 rfl (by omega) (by omega) (fun _ => rfl) (by omega) (by omega) (by omega) dX8_newBlock_79 (fun h473 hv473 hv473e => ?_)
            have fx473 : FX KRt h h473 := FX.pI fx441 hv473e (by unfold KRt; omega)
            have k474 := bd_e k470 (st_I hv473e e472)
            refine go_aload_n (pc := 80) rfl dX8_newBlock_80 ?_
            refine gi_getF (pc := 81) (q := 90) hv473 fL_X8_68 rfl (Nat.le_of_ble_eq_true rfl) rfl (hv473.rf (by decide)) dX8_newBlock_81 ?_
            refine go_iload_n (pc := 84) rfl dX8_newBlock_84 ?_
            refine go_iconst (pc := 85) (v := (-1)) (by decide) dX8_newBlock_85 ?_
            refine gi_fst (pc := 86) (lo := -1) (hi := 259) (len := 560) hv473 e467 (ti_c (v := (-1)) (a := (-1)) (by decide)) rfl (by omega) (by omega) (fun _ => rfl) (by omega) (by omega) (by omega) dX8_newBlock_86 (fun h475 hv475 hv475e => ?_)
            have fx475 : FX KRt h h475 := FX.pI fx473 hv475e (by unfold KRt; omega)
            have k476 := bd_e k474 (st_I hv475e (ti_c (v := (-1)) (a := (-1)) (by decide)))
            refine go_aload_n (pc := 87) rfl dX8_newBlock_87 ?_
            refine gi_getF (pc := 88) (q := 91) hv475 fL_X8_71 rfl (Nat.le_of_ble_eq_true rfl) rfl (hv475.rf (by decide)) dX8_newBlock_88 ?_
            refine go_iload_n (pc := 91) rfl dX8_newBlock_91 ?_
            refine go_iconst (pc := 92) (v := (-1)) (by decide) dX8_newBlock_92 ?_
            refine gi_fst (pc := 93) (lo := -1) (hi := 259) (len := 560) hv475 e467 (ti_c (v := (-1)) (a := (-1)) (by decide)) rfl (by omega) (by omega) (fun _ => rfl) (by omega) (by omega) (by omega) dX8_newBlock_93 (fun h477 hv477 hv477e => ?_)
            have fx477 : FX KRt h h477 := FX.pI fx475 hv477e (by unfold KRt; omega)
            have k478 := bd_e k476 (st_I hv477e (ti_c (v := (-1)) (a := (-1)) (by decide)))
            refine go_aload_n (pc := 94) rfl dX8_newBlock_94 ?_
            refine gi_getF (pc := 95) (q := 92) hv477 fL_X8_74 rfl (Nat.le_of_ble_eq_true rfl) rfl (hv477.rf (by decide)) dX8_newBlock_95 ?_
            refine go_iload_n (pc := 98) rfl dX8_newBlock_98 ?_
            refine go_iload_n (pc := 99) rfl dX8_newBlock_99 ?_
            refine gi_fst (pc := 100) (lo := -1) (hi := 259) (len := 560) hv477 e467 (ti_rfl a2) rfl (by omega) (by omega) (fun _ => rfl) (by omega) (by omega) (by omega) dX8_newBlock_100 (fun h479 hv479 hv479e => ?_)
            have fx479 : FX KRt h h479 := FX.pI fx477 hv479e (by unfold KRt; omega)
            have k480 := bd_e k478 (st_I hv479e (ti_rfl a2))
            refine go_aload_n (pc := 101) rfl dX8_newBlock_101 ?_
            refine go_dup (pc := 102) rfl dX8_newBlock_102 ?_
            refine gi_get (pc := 103) (lo := 0) (hi := 500) hv479 fL_X8_163 rfl (Nat.le_of_ble_eq_true rfl) rfl rfl dX8_newBlock_103 (fun v481 v481l v481u v481w => ?_)
            have v481r : u447 = h479.2.1 70 4 := (show u447 = h479.2.1 70 4 from by rw [hv479e]; exact (g_iI rfl (show u447 = h477.2.1 70 4 from by rw [hv477e]; exact (g_iI rfl (show u447 = h475.2.1 70 4 from by rw [hv475e]; exact (g_iI rfl (show u447 = h473.2.1 70 4 from by rw [hv473e]; exact (g_iI rfl u447w.symm).symm).symm).symm).symm).symm).symm).symm)
            have v481q : TI v481 u447.toInt := by rw [v481w.trans v481r.symm]; exact (ti_rfl u447)
            refine go_iconst (pc := 106) (v := 1) (by decide) dX8_newBlock_106 ?_
            refine gf_iadd (pc := 107) v481q (ti_c (v := 1) (a := 1) (by decide)) (by omega) (by omega) dX8_newBlock_107 (fun v482 e483 => ?_)
            have E479 : h479.2.1 = (w1 (w1 (w1 (w1 h441.2.1 74 S (v471 : Int32)) 90 (((280 * S) + v464.toInt)) ((-1) : Int32)) 91 (((280 * S) + v464.toInt)) ((-1) : Int32)) 92 (((280 * S) + v464.toInt)) (a2 : Int32)) := by
              rw [hv479e, hv477e, hv475e, hv473e]
              rw [v459S]
              rfl
            have oh479 : OH h.2.1 h479.2.1 S := by rw [E479]; exact ((((oh441.trans (OH.w 1 rfl (by omega) (by omega) (by omega) (by omega))).trans (OH.w 280 rfl (by omega) (by omega) (by omega) (by omega))).trans (OH.w 280 rfl (by omega) (by omega) (by omega) (by omega))).trans (OH.w 280 rfl (by omega) (by omega) (by omega) (by omega)))
            have kp479 : KP h.2.1 h479.2.1 := by rw [E479]; exact ((((kp441.trans (KP.w (by omega))).trans (KP.w (by omega))).trans (KP.w (by omega))).trans (KP.w (by omega)))
            have n73_479 : V h479.2.1 73 S = V h441.2.1 73 S := by rw [E479, V_ne (by omega), V_ne (by omega), V_ne (by omega), V_ne (by omega)]
            have n74_479 : V h479.2.1 74 S = (v469.toInt + 1) := by rw [E479, V_ne (by omega), V_ne (by omega), V_ne (by omega), V_eq]; exact e472
            have n75_479 : V h479.2.1 75 S = V h441.2.1 75 S := by rw [E479, V_ne (by omega), V_ne (by omega), V_ne (by omega), V_ne (by omega)]
            have ck479 : CKF h.2.1 → CKF h479.2.1 := fun z => by rw [E479]; exact (CKF.w (by omega) (CKF.w (by omega) (CKF.w (by omega) (CKF.w (by omega) (ck441 z)))))
            refine gi_put (pc := 108) (lo := 0) (hi := 500) hv479 e483 (fP_X8_163 _) rfl (Nat.le_of_ble_eq_true rfl) rfl rfl (by omega) (by omega) rfl rfl (by decide) (by decide) (by decide) (by decide) dX8_newBlock_108 (fun h484 hv484 hv484e => ?_)
            have fx484 : FX KRt h h484 := FX.pI fx479 hv484e (by unfold KRt; omega)
            have k485 := bd_e k480 (st_I hv484e e483)
            have ve484 : VE h479.2.1 h484.2.1 := VE.of hv479 hv484
            have oh484 : OH h.2.1 h484.2.1 S := oh479.trans (OH.of hv479 hv484 S)
            have kp484 : KP h.2.1 h484.2.1 := kp479.trans (KP.ve ve484)
            have ck484 : CKF h.2.1 → CKF h484.2.1 := fun z => CKF.ve ve484 (ck479 z)
            have n73_484 : V h484.2.1 73 S = V h479.2.1 73 S := ve484.v (by omega) (by omega)
            have n74_484 : V h484.2.1 74 S = V h479.2.1 74 S := ve484.v (by omega) (by omega)
            have n75_484 : V h484.2.1 75 S = V h479.2.1 75 S := ve484.v (by omega) (by omega)
            refine go_iload_n (pc := 111) rfl dX8_newBlock_111 ?_
            have g486 : (0 : Int) ≤ (h484.2.1 70 4).toInt := (hv484.2.1 70 4).1
            have g487 : (h484.2.1 70 4).toInt ≤ 500 := (hv484.2.1 70 4).2
            have g488 : (-2147483648 : Int) ≤ (h484.2.1 70 5).toInt := (hv484.2.1 70 5).1
            have g489 : (h484.2.1 70 5).toInt ≤ 2147483647 := (hv484.2.1 70 5).2
            have g490 : (h484.2.1 70 5).toInt = u449.toInt := by rw [← (show u449 = h484.2.1 70 5 from (show u449 = h484.2.1 70 5 from by rw [hv484e]; exact (g_iI rfl (show u449 = h479.2.1 70 5 from by rw [hv479e]; exact (g_iI rfl (show u449 = h477.2.1 70 5 from by rw [hv477e]; exact (g_iI rfl (show u449 = h475.2.1 70 5 from by rw [hv475e]; exact (g_iI rfl (show u449 = h473.2.1 70 5 from by rw [hv473e]; exact (g_iI rfl u449w.symm).symm).symm).symm).symm).symm).symm).symm).symm).symm))] <;> exact (ti_rfl u449)
            have g491 : (h484.2.1 70 4).toInt = (u447.toInt + 1) := by rw [← (show v482 = h484.2.1 70 4 from (show v482 = h484.2.1 70 4 from by rw [hv484e]; exact g_iS.symm))] <;> exact e483
            have z493 : (v466 : Int32).toInt = ((280 * v459.toInt) + v464.toInt) := e467
            have pp492 : (h484.2.1 70 5).toInt = 0 → (h.2.1 70 5).toInt = 0 := (by omega)
            have z495 : (v466 : Int32).toInt = ((280 * v459.toInt) + v464.toInt) := e467
            have pp494 : (h.2.1 70 4).toInt ≤ (h484.2.1 70 4).toInt := (by omega)
            have z497 : (v466 : Int32).toInt = ((280 * v459.toInt) + v464.toInt) := e467
            have pp496 : (h484.2.1 70 5).toInt = 0 → (h.2.1 70 4).toInt + 1 ≤ (h484.2.1 70 4).toInt ∧ a3.toInt ≤ 6 ∧ V h484.2.1 74 S = V h.2.1 74 S + 1 := (by omega)
            have z499 : (v466 : Int32).toInt = ((280 * v459.toInt) + v464.toInt) := e467
            have pp498 : V h484.2.1 73 S = V h.2.1 73 S := (by omega)
            have z501 : (v466 : Int32).toInt = ((280 * v459.toInt) + v464.toInt) := e467
            have pp500 : V h484.2.1 75 S = V h.2.1 75 S := (by omega)
            have zz : (v466 : Int32).toInt = ((280 * v459.toInt) + v464.toInt) := e467
            have zy : (v471 : Int32).toInt = (v469.toInt + 1) := e472
            have pp502 : (h484.2.1 70 5).toInt = 0 → ∀ d : Int, LI h.2.1 h484.2.1 S a2.toInt d (v466 : Int32).toInt := (fun hg d => by rw [show (v466 : Int32).toInt = ((280 * S) + v464.toInt) from (by omega)]; exact LI.ve0 (ve260.trans ve441) (LI.init (x := (v471 : Int32)) (y := ((-1) : Int32)) (z := ((-1) : Int32)) (w := (a2 : Int32)) S0 (by rw [← E479]; exact ve484) (by omega) (by omega) (by decide) (by decide) rfl))
            have pp503 : (st h484, (v466 : Int32).toInt) = f_X8_newBlock (st h) a2.toInt a3.toInt := (by rw [show (v466 : Int32).toInt = ((280 * v459.toInt) + v464.toInt) from e467]; exact k485.symm.trans kf)
            have pp504 : FX KRt h h484 := fx484
            subst hS
            exact gi_iret (pc := 112) e467 ⟨_, rfl, (by rw [show (v466 : Int32).toInt = ((280 * v459.toInt) + v464.toInt) from e467]; omega), (by rw [show (v466 : Int32).toInt = ((280 * v459.toInt) + v464.toInt) from e467]; omega), ⟨_, hv484, (MW.trans (MW.trans (MW.trans (MW.mz _ _) (MW.mz _ _)) (MW.mz _ _)) (MW.mz _ _))⟩, pp492, pp494, pp496, pp498, pp500, pp502, pp503, pp504, kp484, oh484, ck484⟩ hv484 dX8_newBlock_112
          ·
            have k505 := if_f k456 (fun z => z q457)
            refine go_iconst (pc := 46) (v := 0) (by decide) dX8_newBlock_46 ?_
            have g506 : (0 : Int) ≤ (h441.2.1 70 4).toInt := (hv441.2.1 70 4).1
            have g507 : (h441.2.1 70 4).toInt ≤ 500 := (hv441.2.1 70 4).2
            have g508 : (-2147483648 : Int) ≤ (h441.2.1 70 5).toInt := (hv441.2.1 70 5).1
            have g509 : (h441.2.1 70 5).toInt ≤ 2147483647 := (hv441.2.1 70 5).2
            have g510 : (h441.2.1 70 4).toInt = u447.toInt := by rw [← (show u447 = h441.2.1 70 4 from u447w)] <;> exact (ti_rfl u447)
            have g511 : (h441.2.1 70 5).toInt = u449.toInt := by rw [← (show u449 = h441.2.1 70 5 from u449w)] <;> exact (ti_rfl u449)
            have z513 : (0 : Int32).toInt = 0 := (ti_c (v := 0) (a := 0) (by decide))
            have pp512 : (h441.2.1 70 5).toInt = 0 → (h.2.1 70 5).toInt = 0 := (by omega)
            have z515 : (0 : Int32).toInt = 0 := (ti_c (v := 0) (a := 0) (by decide))
            have pp514 : (h.2.1 70 4).toInt ≤ (h441.2.1 70 4).toInt := (by omega)
            have z517 : (0 : Int32).toInt = 0 := (ti_c (v := 0) (a := 0) (by decide))
            have pp516 : (h441.2.1 70 5).toInt = 0 → (h.2.1 70 4).toInt + 1 ≤ (h441.2.1 70 4).toInt ∧ a3.toInt ≤ 6 ∧ V h441.2.1 74 S = V h.2.1 74 S + 1 := (by omega)
            have z519 : (0 : Int32).toInt = 0 := (ti_c (v := 0) (a := 0) (by decide))
            have pp518 : V h441.2.1 73 S = V h.2.1 73 S := (by omega)
            have z521 : (0 : Int32).toInt = 0 := (ti_c (v := 0) (a := 0) (by decide))
            have pp520 : V h441.2.1 75 S = V h.2.1 75 S := (by omega)
            have pp522 : (h441.2.1 70 5).toInt = 0 → ∀ d : Int, LI h.2.1 h441.2.1 S a2.toInt d (0 : Int32).toInt := (fun hg => absurd hg (by omega))
            have pp523 : (st h441, (0 : Int32).toInt) = f_X8_newBlock (st h) a2.toInt a3.toInt := (by rw [show (0 : Int32).toInt = 0 from (ti_c (v := 0) (a := 0) (by decide))]; exact k505.symm.trans kf)
            have pp524 : FX KRt h h441 := fx441
            subst hS
            exact gi_iret (pc := 47) (ti_c (v := 0) (a := 0) (by decide)) ⟨_, rfl, (by rw [show (0 : Int32).toInt = 0 from (ti_c (v := 0) (a := 0) (by decide))]; omega), (by rw [show (0 : Int32).toInt = 0 from (ti_c (v := 0) (a := 0) (by decide))]; omega), ⟨_, hv441, (MW.rfl _)⟩, pp512, pp514, pp516, pp518, pp520, pp522, pp523, pp524, kp441, oh441, ck441⟩ hv441 dX8_newBlock_47
    ·
      have k525 := if_f k272 q273
      refine go_aload_n (pc := 16) rfl dX8_newBlock_16 ?_
      refine go_iconst (pc := 17) (v := 1) (by decide) dX8_newBlock_17 ?_
      have g526 : (0 : Int) ≤ (h260.2.1 70 4).toInt := (hv260.2.1 70 4).1
      have g527 : (h260.2.1 70 4).toInt ≤ 500 := (hv260.2.1 70 4).2
      have g528 : (-2147483648 : Int) ≤ (h260.2.1 70 5).toInt := (hv260.2.1 70 5).1
      have g529 : (h260.2.1 70 5).toInt ≤ 2147483647 := (hv260.2.1 70 5).2
      have g530 : (h260.2.1 70 4).toInt = u269.toInt := by rw [← (show u269 = h260.2.1 70 4 from u269w)] <;> exact (ti_rfl u269)
      have g531 : (h260.2.1 70 5).toInt = u271.toInt := by rw [← (show u271 = h260.2.1 70 5 from u271w)] <;> exact (ti_rfl u271)
      refine go_invV (pc := 18) (sl := 0) (s_X8_fails_f l (d + 0) hv260 1 (by rw [show (1 : Int32).toInt = 1 from (ti_c (v := 1) (a := 1) (by decide))]; omega) (by rw [show (1 : Int32).toInt = 1 from (ti_c (v := 1) (a := 1) (by decide))]; omega)) mL_X8_180 iM_X8_fails sM_X8_fails (hv260.sh rfl) rfl rfl rfl (Nat.le_of_ble_eq_true rfl) (show d + 0 + 1 + 1 ≤ d + 2 by omega) (show 8 + (2 + 11) + 40 * (d + 0 + 1) ≤ 40 * (d + 2) by omega) (g_c0 hv260.ln) (Nat.le_of_ble_eq_true rfl) dX8_newBlock_18 ?_
      intro r h532 hq _
      obtain ⟨rfl, hv532, f533, f534, f535, f536⟩ := hq
      try rw [show (1 : Int32).toInt = 1 from (ti_c (v := 1) (a := 1) (by decide))] at f533
      try rw [show (1 : Int32).toInt = 1 from (ti_c (v := 1) (a := 1) (by decide))] at f534
      try rw [show (1 : Int32).toInt = 1 from (ti_c (v := 1) (a := 1) (by decide))] at f535
      try rw [show (1 : Int32).toInt = 1 from (ti_c (v := 1) (a := 1) (by decide))] at f536
      have fx532 : FX KRt h h532 := FX.tr fx260 f536
      have k537 := bd_e k525 f535.symm
      have ve532 : VE h260.2.1 h532.2.1 := VE.of hv260 hv532
      have oh532 : OH h.2.1 h532.2.1 S := oh260.trans (OH.of hv260 hv532 S)
      have kp532 : KP h.2.1 h532.2.1 := kp260.trans (KP.ve ve532)
      have ck532 : CKF h.2.1 → CKF h532.2.1 := fun z => CKF.ve ve532 (ck260 z)
      have n73_532 : V h532.2.1 73 S = V h260.2.1 73 S := ve532.v (by omega) (by omega)
      have n74_532 : V h532.2.1 74 S = V h260.2.1 74 S := ve532.v (by omega) (by omega)
      have n75_532 : V h532.2.1 75 S = V h260.2.1 75 S := ve532.v (by omega) (by omega)
      obtain ⟨u538, u538w⟩ : ∃ v : Int32, v = h532.2.1 70 4 := ⟨_, rfl⟩
      have u538e : (h532.2.1 70 4).toInt = u538.toInt := by rw [u538w]
      have u538l : 0 ≤ u538.toInt := by rw [u538w]; exact (hv532.2.1 70 4).1
      have u538u : u538.toInt ≤ 500 := by rw [u538w]; exact (hv532.2.1 70 4).2
      have k539 := bd_e k537 (congrArg Int32.toInt u538w.symm)
      obtain ⟨u540, u540w⟩ : ∃ v : Int32, v = h532.2.1 70 5 := ⟨_, rfl⟩
      have u540e : (h532.2.1 70 5).toInt = u540.toInt := by rw [u540w]
      have u540l : -2147483648 ≤ u540.toInt := by rw [u540w]; exact (hv532.2.1 70 5).1
      have u540u : u540.toInt ≤ 2147483647 := by rw [u540w]; exact (hv532.2.1 70 5).2
      have k541 := k539
      refine go_aload_n (pc := 21) rfl dX8_newBlock_21 ?_
      refine go_invV (pc := 22) (sl := 0) (s_X8_isGood_f l (d + 0) hv532 ) mL_X8_172 iM_X8_isGood sM_X8_isGood (hv532.sh rfl) rfl rfl rfl (Nat.le_of_ble_eq_true rfl) (show d + 0 + 1 + 1 ≤ d + 2 by omega) (show 8 + (1 + 11) + 40 * (d + 0 + 1) ≤ 40 * (d + 2) by omega) (g_c0 hv532.ln) (Nat.le_of_ble_eq_true rfl) dX8_newBlock_22 ?_
      intro r h542 hq _
      obtain ⟨v546, rfl, v546l, v546u, rfl, f543, f544, f545⟩ := hq
      replace f545 : PE _ _ := f545
      have k547 := bd_e k541 f545.symm
      refine gf_if_eq (pc := 25) (tgt := 39) (ti_rfl v546) (by decide) dX8_newBlock_25 (fun q548 => ?_) (fun q548 => ?_)
      ·
        have k549 := if_t k547 q548
        refine go_aload_n (pc := 39) rfl dX8_newBlock_39 ?_
        refine go_invV (pc := 40) (sl := 0) (s_X8_isGood_f l (d + 0) hv532 ) mL_X8_172 iM_X8_isGood sM_X8_isGood (hv532.sh rfl) rfl rfl rfl (Nat.le_of_ble_eq_true rfl) (show d + 0 + 1 + 1 ≤ d + 2 by omega) (show 8 + (1 + 11) + 40 * (d + 0 + 1) ≤ 40 * (d + 2) by omega) (g_c0 hv532.ln) (Nat.le_of_ble_eq_true rfl) dX8_newBlock_40 ?_
        intro r h550 hq _
        obtain ⟨v554, rfl, v554l, v554u, rfl, f551, f552, f553⟩ := hq
        replace f553 : PE _ _ := f553
        have k555 := bd_e k549 f553.symm
        refine gf_if_ne (pc := 43) (tgt := 48) (ti_rfl v554) (by decide) dX8_newBlock_43 (fun q556 => ?_) (fun q556 => ?_)
        ·
          have k557 := if_t k555 q556
          refine go_sipush (pc := 48) (v := 280) (by decide) dX8_newBlock_48 ?_
          refine go_aload_n (pc := 51) rfl dX8_newBlock_51 ?_
          refine gi_get (pc := 52) (lo := 0) (hi := 1) hv532 fL_X8_187 rfl (Nat.le_of_ble_eq_true rfl) rfl rfl dX8_newBlock_52 (fun v558 v558l v558u v558w => ?_)
          have k559 := bd_e k557 (congrArg Int32.toInt v558w.symm)
          have v558S : v558.toInt = S := by rw [v558w]; exact (congrArg Int32.toInt oh532.side).trans hS.symm
          refine gf_imul (pc := 55) (ti_c (v := 280) (a := 280) (by decide)) (ti_rfl v558) (by omega) (by omega) dX8_newBlock_55 (fun v560 e561 => ?_)
          refine go_aload_n (pc := 56) rfl dX8_newBlock_56 ?_
          refine gi_getF (pc := 57) (q := 74) hv532 fL_X8_20 rfl (Nat.le_of_ble_eq_true rfl) rfl (hv532.rf (by decide)) dX8_newBlock_57 ?_
          refine go_aload_n (pc := 60) rfl dX8_newBlock_60 ?_
          refine gi_get (pc := 61) (lo := 0) (hi := 1) hv532 fL_X8_187 rfl (Nat.le_of_ble_eq_true rfl) rfl rfl dX8_newBlock_61 (fun v562 v562l v562u v562w => ?_)
          have v562r : v558 = h532.2.1 70 6 := v558w
          have v562q : TI v562 v558.toInt := by rw [v562w.trans v562r.symm]; exact (ti_rfl v558)
          refine gi_iald (pc := 64) (lo := 0) (hi := 280) (len := 2) hv532 v562q rfl (by omega) (by omega) (fun _ => rfl) dX8_newBlock_64 (fun v563 v563l v563u v563w => ?_)
          have k564 := bd_e k559 (congrArg Int32.toInt v563w.symm)
          have v563V : v563.toInt = V h532.2.1 74 S := by rw [v563w, v558S]; rfl
          refine gf_iadd (pc := 65) e561 (ti_rfl v563) (by omega) (by omega) dX8_newBlock_65 (fun v565 e566 => ?_)
          refine go_istore_n (pc := 66) (Nat.le_of_ble_eq_true rfl) dX8_newBlock_66 (go_lv (lv2 := [(0, .ref 70), (1, .int a2), (2, .int a3), (3, .int v565)]) rfl ?_)
          refine go_aload_n (pc := 67) rfl dX8_newBlock_67 ?_
          refine gi_getF (pc := 68) (q := 74) hv532 fL_X8_20 rfl (Nat.le_of_ble_eq_true rfl) rfl (hv532.rf (by decide)) dX8_newBlock_68 ?_
          refine go_aload_n (pc := 71) rfl dX8_newBlock_71 ?_
          refine gi_get (pc := 72) (lo := 0) (hi := 1) hv532 fL_X8_187 rfl (Nat.le_of_ble_eq_true rfl) rfl rfl dX8_newBlock_72 (fun v567 v567l v567u v567w => ?_)
          have v567r : v558 = h532.2.1 70 6 := v558w
          have v567q : TI v567 v558.toInt := by rw [v567w.trans v567r.symm]; exact (ti_rfl v558)
          refine go_dup2 (pc := 75) rfl rfl dX8_newBlock_75 ?_
          refine gi_iald (pc := 76) (lo := 0) (hi := 280) (len := 2) hv532 v567q rfl (by omega) (by omega) (fun _ => rfl) dX8_newBlock_76 (fun v568 v568l v568u v568w => ?_)
          have k569 := bd_e k564 (congrArg Int32.toInt v568w.symm)
          have v568V : v568.toInt = V h532.2.1 74 S := by rw [v568w, v558S]; rfl
          refine go_iconst (pc := 77) (v := 1) (by decide) dX8_newBlock_77 ?_
          refine gf_iadd (pc := 78) (ti_rfl v568) (ti_c (v := 1) (a := 1) (by decide)) (by omega) (by omega) dX8_newBlock_78 (fun v570 e571 => ?_)
          refine gi_fst (pc := 79) (lo := 0) (hi := 280) (len := 2) hv532 v567q e571 rfl (by omega) (by omega) (fun _ => rfl) (by omega) (by omega) (by omega) dX8_newBlock_79 (fun h572 hv572 hv572e => ?_)
          have fx572 : FX KRt h h572 := FX.pI fx532 hv572e (by unfold KRt; omega)
          have k573 := bd_e k569 (st_I hv572e e571)
          refine go_aload_n (pc := 80) rfl dX8_newBlock_80 ?_
          refine gi_getF (pc := 81) (q := 90) hv572 fL_X8_68 rfl (Nat.le_of_ble_eq_true rfl) rfl (hv572.rf (by decide)) dX8_newBlock_81 ?_
          refine go_iload_n (pc := 84) rfl dX8_newBlock_84 ?_
          refine go_iconst (pc := 85) (v := (-1)) (by decide) dX8_newBlock_85 ?_
          refine gi_fst (pc := 86) (lo := -1) (hi := 259) (len := 560) hv572 e566 (ti_c (v := (-1)) (a := (-1)) (by decide)) rfl (by omega) (by omega) (fun _ => rfl) (by omega) (by omega) (by omega) dX8_newBlock_86 (fun h574 hv574 hv574e => ?_)
          have fx574 : FX KRt h h574 := FX.pI fx572 hv574e (by unfold KRt; omega)
          have k575 := bd_e k573 (st_I hv574e (ti_c (v := (-1)) (a := (-1)) (by decide)))
          refine go_aload_n (pc := 87) rfl dX8_newBlock_87 ?_
          refine gi_getF (pc := 88) (q := 91) hv574 fL_X8_71 rfl (Nat.le_of_ble_eq_true rfl) rfl (hv574.rf (by decide)) dX8_newBlock_88 ?_
          refine go_iload_n (pc := 91) rfl dX8_newBlock_91 ?_
          refine go_iconst (pc := 92) (v := (-1)) (by decide) dX8_newBlock_92 ?_
          refine gi_fst (pc := 93) (lo := -1) (hi := 259) (len := 560) hv574 e566 (ti_c (v := (-1)) (a := (-1)) (by decide)) rfl (by omega) (by omega) (fun _ => rfl) (by omega) (by omega) (by omega) dX8_newBlock_93 (fun h576 hv576 hv576e => ?_)
          have fx576 : FX KRt h h576 := FX.pI fx574 hv576e (by unfold KRt; omega)
          have k577 := bd_e k575 (st_I hv576e (ti_c (v := (-1)) (a := (-1)) (by decide)))
          refine go_aload_n (pc := 94) rfl dX8_newBlock_94 ?_
          refine gi_getF (pc := 95) (q := 92) hv576 fL_X8_74 rfl (Nat.le_of_ble_eq_true rfl) rfl (hv576.rf (by decide)) dX8_newBlock_95 ?_
          refine go_iload_n (pc := 98) rfl dX8_newBlock_98 ?_
          refine go_iload_n (pc := 99) rfl dX8_newBlock_99 ?_
          refine gi_fst (pc := 100) (lo := -1) (hi := 259) (len := 560) hv576 e566 (ti_rfl a2) rfl (by omega) (by omega) (fun _ => rfl) (by omega) (by omega) (by omega) dX8_newBlock_100 (fun h578 hv578 hv578e => ?_)
          have fx578 : FX KRt h h578 := FX.pI fx576 hv578e (by unfold KRt; omega)
          have k579 := bd_e k577 (st_I hv578e (ti_rfl a2))
          refine go_aload_n (pc := 101) rfl dX8_newBlock_101 ?_
          refine go_dup (pc := 102) rfl dX8_newBlock_102 ?_
          refine gi_get (pc := 103) (lo := 0) (hi := 500) hv578 fL_X8_163 rfl (Nat.le_of_ble_eq_true rfl) rfl rfl dX8_newBlock_103 (fun v580 v580l v580u v580w => ?_)
          have v580r : u538 = h578.2.1 70 4 := (show u538 = h578.2.1 70 4 from by rw [hv578e]; exact (g_iI rfl (show u538 = h576.2.1 70 4 from by rw [hv576e]; exact (g_iI rfl (show u538 = h574.2.1 70 4 from by rw [hv574e]; exact (g_iI rfl (show u538 = h572.2.1 70 4 from by rw [hv572e]; exact (g_iI rfl u538w.symm).symm).symm).symm).symm).symm).symm).symm)
          have v580q : TI v580 u538.toInt := by rw [v580w.trans v580r.symm]; exact (ti_rfl u538)
          refine go_iconst (pc := 106) (v := 1) (by decide) dX8_newBlock_106 ?_
          refine gf_iadd (pc := 107) v580q (ti_c (v := 1) (a := 1) (by decide)) (by omega) (by omega) dX8_newBlock_107 (fun v581 e582 => ?_)
          have E578 : h578.2.1 = (w1 (w1 (w1 (w1 h532.2.1 74 S (v570 : Int32)) 90 (((280 * S) + v563.toInt)) ((-1) : Int32)) 91 (((280 * S) + v563.toInt)) ((-1) : Int32)) 92 (((280 * S) + v563.toInt)) (a2 : Int32)) := by
            rw [hv578e, hv576e, hv574e, hv572e]
            rw [v558S]
            rfl
          have oh578 : OH h.2.1 h578.2.1 S := by rw [E578]; exact ((((oh532.trans (OH.w 1 rfl (by omega) (by omega) (by omega) (by omega))).trans (OH.w 280 rfl (by omega) (by omega) (by omega) (by omega))).trans (OH.w 280 rfl (by omega) (by omega) (by omega) (by omega))).trans (OH.w 280 rfl (by omega) (by omega) (by omega) (by omega)))
          have kp578 : KP h.2.1 h578.2.1 := by rw [E578]; exact ((((kp532.trans (KP.w (by omega))).trans (KP.w (by omega))).trans (KP.w (by omega))).trans (KP.w (by omega)))
          have n73_578 : V h578.2.1 73 S = V h532.2.1 73 S := by rw [E578, V_ne (by omega), V_ne (by omega), V_ne (by omega), V_ne (by omega)]
          have n74_578 : V h578.2.1 74 S = (v568.toInt + 1) := by rw [E578, V_ne (by omega), V_ne (by omega), V_ne (by omega), V_eq]; exact e571
          have n75_578 : V h578.2.1 75 S = V h532.2.1 75 S := by rw [E578, V_ne (by omega), V_ne (by omega), V_ne (by omega), V_ne (by omega)]
          have ck578 : CKF h.2.1 → CKF h578.2.1 := fun z => by rw [E578]; exact (CKF.w (by omega) (CKF.w (by omega) (CKF.w (by omega) (CKF.w (by omega) (ck532 z)))))
          refine gi_put (pc := 108) (lo := 0) (hi := 500) hv578 e582 (fP_X8_163 _) rfl (Nat.le_of_ble_eq_true rfl) rfl rfl (by omega) (by omega) rfl rfl (by decide) (by decide) (by decide) (by decide) dX8_newBlock_108 (fun h583 hv583 hv583e => ?_)
          have fx583 : FX KRt h h583 := FX.pI fx578 hv583e (by unfold KRt; omega)
          have k584 := bd_e k579 (st_I hv583e e582)
          have ve583 : VE h578.2.1 h583.2.1 := VE.of hv578 hv583
          have oh583 : OH h.2.1 h583.2.1 S := oh578.trans (OH.of hv578 hv583 S)
          have kp583 : KP h.2.1 h583.2.1 := kp578.trans (KP.ve ve583)
          have ck583 : CKF h.2.1 → CKF h583.2.1 := fun z => CKF.ve ve583 (ck578 z)
          have n73_583 : V h583.2.1 73 S = V h578.2.1 73 S := ve583.v (by omega) (by omega)
          have n74_583 : V h583.2.1 74 S = V h578.2.1 74 S := ve583.v (by omega) (by omega)
          have n75_583 : V h583.2.1 75 S = V h578.2.1 75 S := ve583.v (by omega) (by omega)
          refine go_iload_n (pc := 111) rfl dX8_newBlock_111 ?_
          have g585 : (0 : Int) ≤ (h583.2.1 70 4).toInt := (hv583.2.1 70 4).1
          have g586 : (h583.2.1 70 4).toInt ≤ 500 := (hv583.2.1 70 4).2
          have g587 : (-2147483648 : Int) ≤ (h583.2.1 70 5).toInt := (hv583.2.1 70 5).1
          have g588 : (h583.2.1 70 5).toInt ≤ 2147483647 := (hv583.2.1 70 5).2
          have g589 : (h583.2.1 70 5).toInt = u540.toInt := by rw [← (show u540 = h583.2.1 70 5 from (show u540 = h583.2.1 70 5 from by rw [hv583e]; exact (g_iI rfl (show u540 = h578.2.1 70 5 from by rw [hv578e]; exact (g_iI rfl (show u540 = h576.2.1 70 5 from by rw [hv576e]; exact (g_iI rfl (show u540 = h574.2.1 70 5 from by rw [hv574e]; exact (g_iI rfl (show u540 = h572.2.1 70 5 from by rw [hv572e]; exact (g_iI rfl u540w.symm).symm).symm).symm).symm).symm).symm).symm).symm).symm))] <;> exact (ti_rfl u540)
          have g590 : (h583.2.1 70 4).toInt = (u538.toInt + 1) := by rw [← (show v581 = h583.2.1 70 4 from (show v581 = h583.2.1 70 4 from by rw [hv583e]; exact g_iS.symm))] <;> exact e582
          have z592 : (v565 : Int32).toInt = ((280 * v558.toInt) + v563.toInt) := e566
          have pp591 : (h583.2.1 70 5).toInt = 0 → (h.2.1 70 5).toInt = 0 := (by omega)
          have z594 : (v565 : Int32).toInt = ((280 * v558.toInt) + v563.toInt) := e566
          have pp593 : (h.2.1 70 4).toInt ≤ (h583.2.1 70 4).toInt := (by omega)
          have z596 : (v565 : Int32).toInt = ((280 * v558.toInt) + v563.toInt) := e566
          have pp595 : (h583.2.1 70 5).toInt = 0 → (h.2.1 70 4).toInt + 1 ≤ (h583.2.1 70 4).toInt ∧ a3.toInt ≤ 6 ∧ V h583.2.1 74 S = V h.2.1 74 S + 1 := (by omega)
          have z598 : (v565 : Int32).toInt = ((280 * v558.toInt) + v563.toInt) := e566
          have pp597 : V h583.2.1 73 S = V h.2.1 73 S := (by omega)
          have z600 : (v565 : Int32).toInt = ((280 * v558.toInt) + v563.toInt) := e566
          have pp599 : V h583.2.1 75 S = V h.2.1 75 S := (by omega)
          have zz : (v565 : Int32).toInt = ((280 * v558.toInt) + v563.toInt) := e566
          have zy : (v570 : Int32).toInt = (v568.toInt + 1) := e571
          have pp601 : (h583.2.1 70 5).toInt = 0 → ∀ d : Int, LI h.2.1 h583.2.1 S a2.toInt d (v565 : Int32).toInt := (fun hg d => by rw [show (v565 : Int32).toInt = ((280 * S) + v563.toInt) from (by omega)]; exact LI.ve0 (ve260.trans ve532) (LI.init (x := (v570 : Int32)) (y := ((-1) : Int32)) (z := ((-1) : Int32)) (w := (a2 : Int32)) S0 (by rw [← E578]; exact ve583) (by omega) (by omega) (by decide) (by decide) rfl))
          have pp602 : (st h583, (v565 : Int32).toInt) = f_X8_newBlock (st h) a2.toInt a3.toInt := (by rw [show (v565 : Int32).toInt = ((280 * v558.toInt) + v563.toInt) from e566]; exact k584.symm.trans kf)
          have pp603 : FX KRt h h583 := fx583
          subst hS
          exact gi_iret (pc := 112) e566 ⟨_, rfl, (by rw [show (v565 : Int32).toInt = ((280 * v558.toInt) + v563.toInt) from e566]; omega), (by rw [show (v565 : Int32).toInt = ((280 * v558.toInt) + v563.toInt) from e566]; omega), ⟨_, hv583, (MW.trans (MW.trans (MW.trans (MW.mz _ _) (MW.mz _ _)) (MW.mz _ _)) (MW.mz _ _))⟩, pp591, pp593, pp595, pp597, pp599, pp601, pp602, pp603, kp583, oh583, ck583⟩ hv583 dX8_newBlock_112
        ·
          have k604 := if_f k555 (fun z => z q556)
          refine go_iconst (pc := 46) (v := 0) (by decide) dX8_newBlock_46 ?_
          have g605 : (0 : Int) ≤ (h532.2.1 70 4).toInt := (hv532.2.1 70 4).1
          have g606 : (h532.2.1 70 4).toInt ≤ 500 := (hv532.2.1 70 4).2
          have g607 : (-2147483648 : Int) ≤ (h532.2.1 70 5).toInt := (hv532.2.1 70 5).1
          have g608 : (h532.2.1 70 5).toInt ≤ 2147483647 := (hv532.2.1 70 5).2
          have g609 : (h532.2.1 70 4).toInt = u538.toInt := by rw [← (show u538 = h532.2.1 70 4 from u538w)] <;> exact (ti_rfl u538)
          have g610 : (h532.2.1 70 5).toInt = u540.toInt := by rw [← (show u540 = h532.2.1 70 5 from u540w)] <;> exact (ti_rfl u540)
          have z612 : (0 : Int32).toInt = 0 := (ti_c (v := 0) (a := 0) (by decide))
          have pp611 : (h532.2.1 70 5).toInt = 0 → (h.2.1 70 5).toInt = 0 := (by omega)
          have z614 : (0 : Int32).toInt = 0 := (ti_c (v := 0) (a := 0) (by decide))
          have pp613 : (h.2.1 70 4).toInt ≤ (h532.2.1 70 4).toInt := (by omega)
          have z616 : (0 : Int32).toInt = 0 := (ti_c (v := 0) (a := 0) (by decide))
          have pp615 : (h532.2.1 70 5).toInt = 0 → (h.2.1 70 4).toInt + 1 ≤ (h532.2.1 70 4).toInt ∧ a3.toInt ≤ 6 ∧ V h532.2.1 74 S = V h.2.1 74 S + 1 := (by omega)
          have z618 : (0 : Int32).toInt = 0 := (ti_c (v := 0) (a := 0) (by decide))
          have pp617 : V h532.2.1 73 S = V h.2.1 73 S := (by omega)
          have z620 : (0 : Int32).toInt = 0 := (ti_c (v := 0) (a := 0) (by decide))
          have pp619 : V h532.2.1 75 S = V h.2.1 75 S := (by omega)
          have pp621 : (h532.2.1 70 5).toInt = 0 → ∀ d : Int, LI h.2.1 h532.2.1 S a2.toInt d (0 : Int32).toInt := (fun hg => absurd hg (by omega))
          have pp622 : (st h532, (0 : Int32).toInt) = f_X8_newBlock (st h) a2.toInt a3.toInt := (by rw [show (0 : Int32).toInt = 0 from (ti_c (v := 0) (a := 0) (by decide))]; exact k604.symm.trans kf)
          have pp623 : FX KRt h h532 := fx532
          subst hS
          exact gi_iret (pc := 47) (ti_c (v := 0) (a := 0) (by decide)) ⟨_, rfl, (by rw [show (0 : Int32).toInt = 0 from (ti_c (v := 0) (a := 0) (by decide))]; omega), (by rw [show (0 : Int32).toInt = 0 from (ti_c (v := 0) (a := 0) (by decide))]; omega), ⟨_, hv532, (MW.rfl _)⟩, pp611, pp613, pp615, pp617, pp619, pp621, pp622, pp623, kp532, oh532, ck532⟩ hv532 dX8_newBlock_47
      ·
        have k624 := if_f k547 q548
        refine go_iload_n (pc := 28) rfl dX8_newBlock_28 ?_
        refine go_bipush (pc := 29) (v := 6) (by decide) dX8_newBlock_29 ?_
        refine gf_icmp_le (pc := 31) (tgt := 39) (ti_rfl a3) (ti_c (v := 6) (a := 6) (by decide)) (by decide) dX8_newBlock_31 (fun q625 => ?_) (fun q625 => ?_)
        ·
          have k626 := if_t k624 q625
          refine go_aload_n (pc := 39) rfl dX8_newBlock_39 ?_
          refine go_invV (pc := 40) (sl := 0) (s_X8_isGood_f l (d + 0) hv532 ) mL_X8_172 iM_X8_isGood sM_X8_isGood (hv532.sh rfl) rfl rfl rfl (Nat.le_of_ble_eq_true rfl) (show d + 0 + 1 + 1 ≤ d + 2 by omega) (show 8 + (1 + 11) + 40 * (d + 0 + 1) ≤ 40 * (d + 2) by omega) (g_c0 hv532.ln) (Nat.le_of_ble_eq_true rfl) dX8_newBlock_40 ?_
          intro r h627 hq _
          obtain ⟨v631, rfl, v631l, v631u, rfl, f628, f629, f630⟩ := hq
          replace f630 : PE _ _ := f630
          have k632 := bd_e k626 f630.symm
          refine gf_if_ne (pc := 43) (tgt := 48) (ti_rfl v631) (by decide) dX8_newBlock_43 (fun q633 => ?_) (fun q633 => ?_)
          ·
            have k634 := if_t k632 q633
            refine go_sipush (pc := 48) (v := 280) (by decide) dX8_newBlock_48 ?_
            refine go_aload_n (pc := 51) rfl dX8_newBlock_51 ?_
            refine gi_get (pc := 52) (lo := 0) (hi := 1) hv532 fL_X8_187 rfl (Nat.le_of_ble_eq_true rfl) rfl rfl dX8_newBlock_52 (fun v635 v635l v635u v635w => ?_)
            have k636 := bd_e k634 (congrArg Int32.toInt v635w.symm)
            have v635S : v635.toInt = S := by rw [v635w]; exact (congrArg Int32.toInt oh532.side).trans hS.symm
            refine gf_imul (pc := 55) (ti_c (v := 280) (a := 280) (by decide)) (ti_rfl v635) (by omega) (by omega) dX8_newBlock_55 (fun v637 e638 => ?_)
            refine go_aload_n (pc := 56) rfl dX8_newBlock_56 ?_
            refine gi_getF (pc := 57) (q := 74) hv532 fL_X8_20 rfl (Nat.le_of_ble_eq_true rfl) rfl (hv532.rf (by decide)) dX8_newBlock_57 ?_
            refine go_aload_n (pc := 60) rfl dX8_newBlock_60 ?_
            refine gi_get (pc := 61) (lo := 0) (hi := 1) hv532 fL_X8_187 rfl (Nat.le_of_ble_eq_true rfl) rfl rfl dX8_newBlock_61 (fun v639 v639l v639u v639w => ?_)
            have v639r : v635 = h532.2.1 70 6 := v635w
            have v639q : TI v639 v635.toInt := by rw [v639w.trans v639r.symm]; exact (ti_rfl v635)
            refine gi_iald (pc := 64) (lo := 0) (hi := 280) (len := 2) hv532 v639q rfl (by omega) (by omega) (fun _ => rfl) dX8_newBlock_64 (fun v640 v640l v640u v640w => ?_)
            have k641 := bd_e k636 (congrArg Int32.toInt v640w.symm)
            have v640V : v640.toInt = V h532.2.1 74 S := by rw [v640w, v635S]; rfl
            refine gf_iadd (pc := 65) e638 (ti_rfl v640) (by omega) (by omega) dX8_newBlock_65 (fun v642 e643 => ?_)
            refine go_istore_n (pc := 66) (Nat.le_of_ble_eq_true rfl) dX8_newBlock_66 (go_lv (lv2 := [(0, .ref 70), (1, .int a2), (2, .int a3), (3, .int v642)]) rfl ?_)
            refine go_aload_n (pc := 67) rfl dX8_newBlock_67 ?_
            refine gi_getF (pc := 68) (q := 74) hv532 fL_X8_20 rfl (Nat.le_of_ble_eq_true rfl) rfl (hv532.rf (by decide)) dX8_newBlock_68 ?_
            refine go_aload_n (pc := 71) rfl dX8_newBlock_71 ?_
            refine gi_get (pc := 72) (lo := 0) (hi := 1) hv532 fL_X8_187 rfl (Nat.le_of_ble_eq_true rfl) rfl rfl dX8_newBlock_72 (fun v644 v644l v644u v644w => ?_)
            have v644r : v635 = h532.2.1 70 6 := v635w
            have v644q : TI v644 v635.toInt := by rw [v644w.trans v644r.symm]; exact (ti_rfl v635)
            refine go_dup2 (pc := 75) rfl rfl dX8_newBlock_75 ?_
            refine gi_iald (pc := 76) (lo := 0) (hi := 280) (len := 2) hv532 v644q rfl (by omega) (by omega) (fun _ => rfl) dX8_newBlock_76 (fun v645 v645l v645u v645w => ?_)
            have k646 := bd_e k641 (congrArg Int32.toInt v645w.symm)
            have v645V : v645.toInt = V h532.2.1 74 S := by rw [v645w, v635S]; rfl
            refine go_iconst (pc := 77) (v := 1) (by decide) dX8_newBlock_77 ?_
            refine gf_iadd (pc := 78) (ti_rfl v645) (ti_c (v := 1) (a := 1) (by decide)) (by omega) (by omega) dX8_newBlock_78 (fun v647 e648 => ?_)
            refine gi_fst (pc := 79) (lo := 0) (hi := 280) (len := 2) hv532 v644q e648 rfl (by omega) (by omega) (fun _ => rfl) (by omega) (by omega) (by omega) dX8_newBlock_79 (fun h649 hv649 hv649e => ?_)
            have fx649 : FX KRt h h649 := FX.pI fx532 hv649e (by unfold KRt; omega)
            have k650 := bd_e k646 (st_I hv649e e648)
            refine go_aload_n (pc := 80) rfl dX8_newBlock_80 ?_
            refine gi_getF (pc := 81) (q := 90) hv649 fL_X8_68 rfl (Nat.le_of_ble_eq_true rfl) rfl (hv649.rf (by decide)) dX8_newBlock_81 ?_
            refine go_iload_n (pc := 84) rfl dX8_newBlock_84 ?_
            refine go_iconst (pc := 85) (v := (-1)) (by decide) dX8_newBlock_85 ?_
            refine gi_fst (pc := 86) (lo := -1) (hi := 259) (len := 560) hv649 e643 (ti_c (v := (-1)) (a := (-1)) (by decide)) rfl (by omega) (by omega) (fun _ => rfl) (by omega) (by omega) (by omega) dX8_newBlock_86 (fun h651 hv651 hv651e => ?_)
            have fx651 : FX KRt h h651 := FX.pI fx649 hv651e (by unfold KRt; omega)
            have k652 := bd_e k650 (st_I hv651e (ti_c (v := (-1)) (a := (-1)) (by decide)))
            refine go_aload_n (pc := 87) rfl dX8_newBlock_87 ?_
            refine gi_getF (pc := 88) (q := 91) hv651 fL_X8_71 rfl (Nat.le_of_ble_eq_true rfl) rfl (hv651.rf (by decide)) dX8_newBlock_88 ?_
            refine go_iload_n (pc := 91) rfl dX8_newBlock_91 ?_
            refine go_iconst (pc := 92) (v := (-1)) (by decide) dX8_newBlock_92 ?_
            refine gi_fst (pc := 93) (lo := -1) (hi := 259) (len := 560) hv651 e643 (ti_c (v := (-1)) (a := (-1)) (by decide)) rfl (by omega) (by omega) (fun _ => rfl) (by omega) (by omega) (by omega) dX8_newBlock_93 (fun h653 hv653 hv653e => ?_)
            have fx653 : FX KRt h h653 := FX.pI fx651 hv653e (by unfold KRt; omega)
            have k654 := bd_e k652 (st_I hv653e (ti_c (v := (-1)) (a := (-1)) (by decide)))
            refine go_aload_n (pc := 94) rfl dX8_newBlock_94 ?_
            refine gi_getF (pc := 95) (q := 92) hv653 fL_X8_74 rfl (Nat.le_of_ble_eq_true rfl) rfl (hv653.rf (by decide)) dX8_newBlock_95 ?_
            refine go_iload_n (pc := 98) rfl dX8_newBlock_98 ?_
            refine go_iload_n (pc := 99) rfl dX8_newBlock_99 ?_
            refine gi_fst (pc := 100) (lo := -1) (hi := 259) (len := 560) hv653 e643 (ti_rfl a2) rfl (by omega) (by omega) (fun _ => rfl) (by omega) (by omega) (by omega) dX8_newBlock_100 (fun h655 hv655 hv655e => ?_)
            have fx655 : FX KRt h h655 := FX.pI fx653 hv655e (by unfold KRt; omega)
            have k656 := bd_e k654 (st_I hv655e (ti_rfl a2))
            refine go_aload_n (pc := 101) rfl dX8_newBlock_101 ?_
            refine go_dup (pc := 102) rfl dX8_newBlock_102 ?_
            refine gi_get (pc := 103) (lo := 0) (hi := 500) hv655 fL_X8_163 rfl (Nat.le_of_ble_eq_true rfl) rfl rfl dX8_newBlock_103 (fun v657 v657l v657u v657w => ?_)
            have v657r : u538 = h655.2.1 70 4 := (show u538 = h655.2.1 70 4 from by rw [hv655e]; exact (g_iI rfl (show u538 = h653.2.1 70 4 from by rw [hv653e]; exact (g_iI rfl (show u538 = h651.2.1 70 4 from by rw [hv651e]; exact (g_iI rfl (show u538 = h649.2.1 70 4 from by rw [hv649e]; exact (g_iI rfl u538w.symm).symm).symm).symm).symm).symm).symm).symm)
            have v657q : TI v657 u538.toInt := by rw [v657w.trans v657r.symm]; exact (ti_rfl u538)
            refine go_iconst (pc := 106) (v := 1) (by decide) dX8_newBlock_106 ?_
            refine gf_iadd (pc := 107) v657q (ti_c (v := 1) (a := 1) (by decide)) (by omega) (by omega) dX8_newBlock_107 (fun v658 e659 => ?_)
            have E655 : h655.2.1 = (w1 (w1 (w1 (w1 h532.2.1 74 S (v647 : Int32)) 90 (((280 * S) + v640.toInt)) ((-1) : Int32)) 91 (((280 * S) + v640.toInt)) ((-1) : Int32)) 92 (((280 * S) + v640.toInt)) (a2 : Int32)) := by
              rw [hv655e, hv653e, hv651e, hv649e]
              rw [v635S]
              rfl
            have oh655 : OH h.2.1 h655.2.1 S := by rw [E655]; exact ((((oh532.trans (OH.w 1 rfl (by omega) (by omega) (by omega) (by omega))).trans (OH.w 280 rfl (by omega) (by omega) (by omega) (by omega))).trans (OH.w 280 rfl (by omega) (by omega) (by omega) (by omega))).trans (OH.w 280 rfl (by omega) (by omega) (by omega) (by omega)))
            have kp655 : KP h.2.1 h655.2.1 := by rw [E655]; exact ((((kp532.trans (KP.w (by omega))).trans (KP.w (by omega))).trans (KP.w (by omega))).trans (KP.w (by omega)))
            have n73_655 : V h655.2.1 73 S = V h532.2.1 73 S := by rw [E655, V_ne (by omega), V_ne (by omega), V_ne (by omega), V_ne (by omega)]
            have n74_655 : V h655.2.1 74 S = (v645.toInt + 1) := by rw [E655, V_ne (by omega), V_ne (by omega), V_ne (by omega), V_eq]; exact e648
            have n75_655 : V h655.2.1 75 S = V h532.2.1 75 S := by rw [E655, V_ne (by omega), V_ne (by omega), V_ne (by omega), V_ne (by omega)]
            have ck655 : CKF h.2.1 → CKF h655.2.1 := fun z => by rw [E655]; exact (CKF.w (by omega) (CKF.w (by omega) (CKF.w (by omega) (CKF.w (by omega) (ck532 z)))))
            refine gi_put (pc := 108) (lo := 0) (hi := 500) hv655 e659 (fP_X8_163 _) rfl (Nat.le_of_ble_eq_true rfl) rfl rfl (by omega) (by omega) rfl rfl (by decide) (by decide) (by decide) (by decide) dX8_newBlock_108 (fun h660 hv660 hv660e => ?_)
            have fx660 : FX KRt h h660 := FX.pI fx655 hv660e (by unfold KRt; omega)
            have k661 := bd_e k656 (st_I hv660e e659)
            have ve660 : VE h655.2.1 h660.2.1 := VE.of hv655 hv660
            have oh660 : OH h.2.1 h660.2.1 S := oh655.trans (OH.of hv655 hv660 S)
            have kp660 : KP h.2.1 h660.2.1 := kp655.trans (KP.ve ve660)
            have ck660 : CKF h.2.1 → CKF h660.2.1 := fun z => CKF.ve ve660 (ck655 z)
            have n73_660 : V h660.2.1 73 S = V h655.2.1 73 S := ve660.v (by omega) (by omega)
            have n74_660 : V h660.2.1 74 S = V h655.2.1 74 S := ve660.v (by omega) (by omega)
            have n75_660 : V h660.2.1 75 S = V h655.2.1 75 S := ve660.v (by omega) (by omega)
            refine go_iload_n (pc := 111) rfl dX8_newBlock_111 ?_
            have g662 : (0 : Int) ≤ (h660.2.1 70 4).toInt := (hv660.2.1 70 4).1
            have g663 : (h660.2.1 70 4).toInt ≤ 500 := (hv660.2.1 70 4).2
            have g664 : (-2147483648 : Int) ≤ (h660.2.1 70 5).toInt := (hv660.2.1 70 5).1
            have g665 : (h660.2.1 70 5).toInt ≤ 2147483647 := (hv660.2.1 70 5).2
            have g666 : (h660.2.1 70 5).toInt = u540.toInt := by rw [← (show u540 = h660.2.1 70 5 from (show u540 = h660.2.1 70 5 from by rw [hv660e]; exact (g_iI rfl (show u540 = h655.2.1 70 5 from by rw [hv655e]; exact (g_iI rfl (show u540 = h653.2.1 70 5 from by rw [hv653e]; exact (g_iI rfl (show u540 = h651.2.1 70 5 from by rw [hv651e]; exact (g_iI rfl (show u540 = h649.2.1 70 5 from by rw [hv649e]; exact (g_iI rfl u540w.symm).symm).symm).symm).symm).symm).symm).symm).symm).symm))] <;> exact (ti_rfl u540)
            have g667 : (h660.2.1 70 4).toInt = (u538.toInt + 1) := by rw [← (show v658 = h660.2.1 70 4 from (show v658 = h660.2.1 70 4 from by rw [hv660e]; exact g_iS.symm))] <;> exact e659
            have z669 : (v642 : Int32).toInt = ((280 * v635.toInt) + v640.toInt) := e643
            have pp668 : (h660.2.1 70 5).toInt = 0 → (h.2.1 70 5).toInt = 0 := (by omega)
            have z671 : (v642 : Int32).toInt = ((280 * v635.toInt) + v640.toInt) := e643
            have pp670 : (h.2.1 70 4).toInt ≤ (h660.2.1 70 4).toInt := (by omega)
            have z673 : (v642 : Int32).toInt = ((280 * v635.toInt) + v640.toInt) := e643
            have pp672 : (h660.2.1 70 5).toInt = 0 → (h.2.1 70 4).toInt + 1 ≤ (h660.2.1 70 4).toInt ∧ a3.toInt ≤ 6 ∧ V h660.2.1 74 S = V h.2.1 74 S + 1 := (by omega)
            have z675 : (v642 : Int32).toInt = ((280 * v635.toInt) + v640.toInt) := e643
            have pp674 : V h660.2.1 73 S = V h.2.1 73 S := (by omega)
            have z677 : (v642 : Int32).toInt = ((280 * v635.toInt) + v640.toInt) := e643
            have pp676 : V h660.2.1 75 S = V h.2.1 75 S := (by omega)
            have zz : (v642 : Int32).toInt = ((280 * v635.toInt) + v640.toInt) := e643
            have zy : (v647 : Int32).toInt = (v645.toInt + 1) := e648
            have pp678 : (h660.2.1 70 5).toInt = 0 → ∀ d : Int, LI h.2.1 h660.2.1 S a2.toInt d (v642 : Int32).toInt := (fun hg d => by rw [show (v642 : Int32).toInt = ((280 * S) + v640.toInt) from (by omega)]; exact LI.ve0 (ve260.trans ve532) (LI.init (x := (v647 : Int32)) (y := ((-1) : Int32)) (z := ((-1) : Int32)) (w := (a2 : Int32)) S0 (by rw [← E655]; exact ve660) (by omega) (by omega) (by decide) (by decide) rfl))
            have pp679 : (st h660, (v642 : Int32).toInt) = f_X8_newBlock (st h) a2.toInt a3.toInt := (by rw [show (v642 : Int32).toInt = ((280 * v635.toInt) + v640.toInt) from e643]; exact k661.symm.trans kf)
            have pp680 : FX KRt h h660 := fx660
            subst hS
            exact gi_iret (pc := 112) e643 ⟨_, rfl, (by rw [show (v642 : Int32).toInt = ((280 * v635.toInt) + v640.toInt) from e643]; omega), (by rw [show (v642 : Int32).toInt = ((280 * v635.toInt) + v640.toInt) from e643]; omega), ⟨_, hv660, (MW.trans (MW.trans (MW.trans (MW.mz _ _) (MW.mz _ _)) (MW.mz _ _)) (MW.mz _ _))⟩, pp668, pp670, pp672, pp674, pp676, pp678, pp679, pp680, kp660, oh660, ck660⟩ hv660 dX8_newBlock_112
          ·
            have k681 := if_f k632 (fun z => z q633)
            refine go_iconst (pc := 46) (v := 0) (by decide) dX8_newBlock_46 ?_
            have g682 : (0 : Int) ≤ (h532.2.1 70 4).toInt := (hv532.2.1 70 4).1
            have g683 : (h532.2.1 70 4).toInt ≤ 500 := (hv532.2.1 70 4).2
            have g684 : (-2147483648 : Int) ≤ (h532.2.1 70 5).toInt := (hv532.2.1 70 5).1
            have g685 : (h532.2.1 70 5).toInt ≤ 2147483647 := (hv532.2.1 70 5).2
            have g686 : (h532.2.1 70 4).toInt = u538.toInt := by rw [← (show u538 = h532.2.1 70 4 from u538w)] <;> exact (ti_rfl u538)
            have g687 : (h532.2.1 70 5).toInt = u540.toInt := by rw [← (show u540 = h532.2.1 70 5 from u540w)] <;> exact (ti_rfl u540)
            have z689 : (0 : Int32).toInt = 0 := (ti_c (v := 0) (a := 0) (by decide))
            have pp688 : (h532.2.1 70 5).toInt = 0 → (h.2.1 70 5).toInt = 0 := (by omega)
            have z691 : (0 : Int32).toInt = 0 := (ti_c (v := 0) (a := 0) (by decide))
            have pp690 : (h.2.1 70 4).toInt ≤ (h532.2.1 70 4).toInt := (by omega)
            have z693 : (0 : Int32).toInt = 0 := (ti_c (v := 0) (a := 0) (by decide))
            have pp692 : (h532.2.1 70 5).toInt = 0 → (h.2.1 70 4).toInt + 1 ≤ (h532.2.1 70 4).toInt ∧ a3.toInt ≤ 6 ∧ V h532.2.1 74 S = V h.2.1 74 S + 1 := (by omega)
            have z695 : (0 : Int32).toInt = 0 := (ti_c (v := 0) (a := 0) (by decide))
            have pp694 : V h532.2.1 73 S = V h.2.1 73 S := (by omega)
            have z697 : (0 : Int32).toInt = 0 := (ti_c (v := 0) (a := 0) (by decide))
            have pp696 : V h532.2.1 75 S = V h.2.1 75 S := (by omega)
            have pp698 : (h532.2.1 70 5).toInt = 0 → ∀ d : Int, LI h.2.1 h532.2.1 S a2.toInt d (0 : Int32).toInt := (fun hg => absurd hg (by omega))
            have pp699 : (st h532, (0 : Int32).toInt) = f_X8_newBlock (st h) a2.toInt a3.toInt := (by rw [show (0 : Int32).toInt = 0 from (ti_c (v := 0) (a := 0) (by decide))]; exact k681.symm.trans kf)
            have pp700 : FX KRt h h532 := fx532
            subst hS
            exact gi_iret (pc := 47) (ti_c (v := 0) (a := 0) (by decide)) ⟨_, rfl, (by rw [show (0 : Int32).toInt = 0 from (ti_c (v := 0) (a := 0) (by decide))]; omega), (by rw [show (0 : Int32).toInt = 0 from (ti_c (v := 0) (a := 0) (by decide))]; omega), ⟨_, hv532, (MW.rfl _)⟩, pp688, pp690, pp692, pp694, pp696, pp698, pp699, pp700, kp532, oh532, ck532⟩ hv532 dX8_newBlock_47
        ·
          have k701 := if_f k624 (Int.not_le.mpr q625)
          refine go_aload_n (pc := 34) rfl dX8_newBlock_34 ?_
          refine go_iconst (pc := 35) (v := 4) (by decide) dX8_newBlock_35 ?_
          have g702 : (0 : Int) ≤ (h532.2.1 70 4).toInt := (hv532.2.1 70 4).1
          have g703 : (h532.2.1 70 4).toInt ≤ 500 := (hv532.2.1 70 4).2
          have g704 : (-2147483648 : Int) ≤ (h532.2.1 70 5).toInt := (hv532.2.1 70 5).1
          have g705 : (h532.2.1 70 5).toInt ≤ 2147483647 := (hv532.2.1 70 5).2
          have g706 : (h532.2.1 70 4).toInt = u538.toInt := by rw [← (show u538 = h532.2.1 70 4 from u538w)] <;> exact (ti_rfl u538)
          have g707 : (h532.2.1 70 5).toInt = u540.toInt := by rw [← (show u540 = h532.2.1 70 5 from u540w)] <;> exact (ti_rfl u540)
          refine go_invV (pc := 36) (sl := 0) (s_X8_fails_f l (d + 0) hv532 4 (by rw [show (4 : Int32).toInt = 4 from (ti_c (v := 4) (a := 4) (by decide))]; omega) (by rw [show (4 : Int32).toInt = 4 from (ti_c (v := 4) (a := 4) (by decide))]; omega)) mL_X8_180 iM_X8_fails sM_X8_fails (hv532.sh rfl) rfl rfl rfl (Nat.le_of_ble_eq_true rfl) (show d + 0 + 1 + 1 ≤ d + 2 by omega) (show 8 + (2 + 11) + 40 * (d + 0 + 1) ≤ 40 * (d + 2) by omega) (g_c0 hv532.ln) (Nat.le_of_ble_eq_true rfl) dX8_newBlock_36 ?_
          intro r h708 hq _
          obtain ⟨rfl, hv708, f709, f710, f711, f712⟩ := hq
          try rw [show (4 : Int32).toInt = 4 from (ti_c (v := 4) (a := 4) (by decide))] at f709
          try rw [show (4 : Int32).toInt = 4 from (ti_c (v := 4) (a := 4) (by decide))] at f710
          try rw [show (4 : Int32).toInt = 4 from (ti_c (v := 4) (a := 4) (by decide))] at f711
          try rw [show (4 : Int32).toInt = 4 from (ti_c (v := 4) (a := 4) (by decide))] at f712
          have fx708 : FX KRt h h708 := FX.tr fx532 f712
          have k713 := bd_e k701 f711.symm
          have ve708 : VE h532.2.1 h708.2.1 := VE.of hv532 hv708
          have oh708 : OH h.2.1 h708.2.1 S := oh532.trans (OH.of hv532 hv708 S)
          have kp708 : KP h.2.1 h708.2.1 := kp532.trans (KP.ve ve708)
          have ck708 : CKF h.2.1 → CKF h708.2.1 := fun z => CKF.ve ve708 (ck532 z)
          have n73_708 : V h708.2.1 73 S = V h532.2.1 73 S := ve708.v (by omega) (by omega)
          have n74_708 : V h708.2.1 74 S = V h532.2.1 74 S := ve708.v (by omega) (by omega)
          have n75_708 : V h708.2.1 75 S = V h532.2.1 75 S := ve708.v (by omega) (by omega)
          obtain ⟨u714, u714w⟩ : ∃ v : Int32, v = h708.2.1 70 4 := ⟨_, rfl⟩
          have u714e : (h708.2.1 70 4).toInt = u714.toInt := by rw [u714w]
          have u714l : 0 ≤ u714.toInt := by rw [u714w]; exact (hv708.2.1 70 4).1
          have u714u : u714.toInt ≤ 500 := by rw [u714w]; exact (hv708.2.1 70 4).2
          have k715 := bd_e k713 (congrArg Int32.toInt u714w.symm)
          obtain ⟨u716, u716w⟩ : ∃ v : Int32, v = h708.2.1 70 5 := ⟨_, rfl⟩
          have u716e : (h708.2.1 70 5).toInt = u716.toInt := by rw [u716w]
          have u716l : -2147483648 ≤ u716.toInt := by rw [u716w]; exact (hv708.2.1 70 5).1
          have u716u : u716.toInt ≤ 2147483647 := by rw [u716w]; exact (hv708.2.1 70 5).2
          have k717 := k715
          refine go_aload_n (pc := 39) rfl dX8_newBlock_39 ?_
          refine go_invV (pc := 40) (sl := 0) (s_X8_isGood_f l (d + 0) hv708 ) mL_X8_172 iM_X8_isGood sM_X8_isGood (hv708.sh rfl) rfl rfl rfl (Nat.le_of_ble_eq_true rfl) (show d + 0 + 1 + 1 ≤ d + 2 by omega) (show 8 + (1 + 11) + 40 * (d + 0 + 1) ≤ 40 * (d + 2) by omega) (g_c0 hv708.ln) (Nat.le_of_ble_eq_true rfl) dX8_newBlock_40 ?_
          intro r h718 hq _
          obtain ⟨v722, rfl, v722l, v722u, rfl, f719, f720, f721⟩ := hq
          replace f721 : PE _ _ := f721
          have k723 := bd_e k717 f721.symm
          refine gf_if_ne (pc := 43) (tgt := 48) (ti_rfl v722) (by decide) dX8_newBlock_43 (fun q724 => ?_) (fun q724 => ?_)
          ·
            have k725 := if_t k723 q724
            refine go_sipush (pc := 48) (v := 280) (by decide) dX8_newBlock_48 ?_
            refine go_aload_n (pc := 51) rfl dX8_newBlock_51 ?_
            refine gi_get (pc := 52) (lo := 0) (hi := 1) hv708 fL_X8_187 rfl (Nat.le_of_ble_eq_true rfl) rfl rfl dX8_newBlock_52 (fun v726 v726l v726u v726w => ?_)
            have k727 := bd_e k725 (congrArg Int32.toInt v726w.symm)
            have v726S : v726.toInt = S := by rw [v726w]; exact (congrArg Int32.toInt oh708.side).trans hS.symm
            refine gf_imul (pc := 55) (ti_c (v := 280) (a := 280) (by decide)) (ti_rfl v726) (by omega) (by omega) dX8_newBlock_55 (fun v728 e729 => ?_)
            refine go_aload_n (pc := 56) rfl dX8_newBlock_56 ?_
            refine gi_getF (pc := 57) (q := 74) hv708 fL_X8_20 rfl (Nat.le_of_ble_eq_true rfl) rfl (hv708.rf (by decide)) dX8_newBlock_57 ?_
            refine go_aload_n (pc := 60) rfl dX8_newBlock_60 ?_
            refine gi_get (pc := 61) (lo := 0) (hi := 1) hv708 fL_X8_187 rfl (Nat.le_of_ble_eq_true rfl) rfl rfl dX8_newBlock_61 (fun v730 v730l v730u v730w => ?_)
            have v730r : v726 = h708.2.1 70 6 := v726w
            have v730q : TI v730 v726.toInt := by rw [v730w.trans v730r.symm]; exact (ti_rfl v726)
            refine gi_iald (pc := 64) (lo := 0) (hi := 280) (len := 2) hv708 v730q rfl (by omega) (by omega) (fun _ => rfl) dX8_newBlock_64 (fun v731 v731l v731u v731w => ?_)
            have k732 := bd_e k727 (congrArg Int32.toInt v731w.symm)
            have v731V : v731.toInt = V h708.2.1 74 S := by rw [v731w, v726S]; rfl
            refine gf_iadd (pc := 65) e729 (ti_rfl v731) (by omega) (by omega) dX8_newBlock_65 (fun v733 e734 => ?_)
            refine go_istore_n (pc := 66) (Nat.le_of_ble_eq_true rfl) dX8_newBlock_66 (go_lv (lv2 := [(0, .ref 70), (1, .int a2), (2, .int a3), (3, .int v733)]) rfl ?_)
            refine go_aload_n (pc := 67) rfl dX8_newBlock_67 ?_
            refine gi_getF (pc := 68) (q := 74) hv708 fL_X8_20 rfl (Nat.le_of_ble_eq_true rfl) rfl (hv708.rf (by decide)) dX8_newBlock_68 ?_
            refine go_aload_n (pc := 71) rfl dX8_newBlock_71 ?_
            refine gi_get (pc := 72) (lo := 0) (hi := 1) hv708 fL_X8_187 rfl (Nat.le_of_ble_eq_true rfl) rfl rfl dX8_newBlock_72 (fun v735 v735l v735u v735w => ?_)
            have v735r : v726 = h708.2.1 70 6 := v726w
            have v735q : TI v735 v726.toInt := by rw [v735w.trans v735r.symm]; exact (ti_rfl v726)
            refine go_dup2 (pc := 75) rfl rfl dX8_newBlock_75 ?_
            refine gi_iald (pc := 76) (lo := 0) (hi := 280) (len := 2) hv708 v735q rfl (by omega) (by omega) (fun _ => rfl) dX8_newBlock_76 (fun v736 v736l v736u v736w => ?_)
            have k737 := bd_e k732 (congrArg Int32.toInt v736w.symm)
            have v736V : v736.toInt = V h708.2.1 74 S := by rw [v736w, v726S]; rfl
            refine go_iconst (pc := 77) (v := 1) (by decide) dX8_newBlock_77 ?_
            refine gf_iadd (pc := 78) (ti_rfl v736) (ti_c (v := 1) (a := 1) (by decide)) (by omega) (by omega) dX8_newBlock_78 (fun v738 e739 => ?_)
            refine gi_fst (pc := 79) (lo := 0) (hi := 280) (len := 2) hv708 v735q e739 rfl (by omega) (by omega) (fun _ => rfl) (by omega) (by omega) (by omega) dX8_newBlock_79 (fun h740 hv740 hv740e => ?_)
            have fx740 : FX KRt h h740 := FX.pI fx708 hv740e (by unfold KRt; omega)
            have k741 := bd_e k737 (st_I hv740e e739)
            refine go_aload_n (pc := 80) rfl dX8_newBlock_80 ?_
            refine gi_getF (pc := 81) (q := 90) hv740 fL_X8_68 rfl (Nat.le_of_ble_eq_true rfl) rfl (hv740.rf (by decide)) dX8_newBlock_81 ?_
            refine go_iload_n (pc := 84) rfl dX8_newBlock_84 ?_
            refine go_iconst (pc := 85) (v := (-1)) (by decide) dX8_newBlock_85 ?_
            refine gi_fst (pc := 86) (lo := -1) (hi := 259) (len := 560) hv740 e734 (ti_c (v := (-1)) (a := (-1)) (by decide)) rfl (by omega) (by omega) (fun _ => rfl) (by omega) (by omega) (by omega) dX8_newBlock_86 (fun h742 hv742 hv742e => ?_)
            have fx742 : FX KRt h h742 := FX.pI fx740 hv742e (by unfold KRt; omega)
            have k743 := bd_e k741 (st_I hv742e (ti_c (v := (-1)) (a := (-1)) (by decide)))
            refine go_aload_n (pc := 87) rfl dX8_newBlock_87 ?_
            refine gi_getF (pc := 88) (q := 91) hv742 fL_X8_71 rfl (Nat.le_of_ble_eq_true rfl) rfl (hv742.rf (by decide)) dX8_newBlock_88 ?_
            refine go_iload_n (pc := 91) rfl dX8_newBlock_91 ?_
            refine go_iconst (pc := 92) (v := (-1)) (by decide) dX8_newBlock_92 ?_
            refine gi_fst (pc := 93) (lo := -1) (hi := 259) (len := 560) hv742 e734 (ti_c (v := (-1)) (a := (-1)) (by decide)) rfl (by omega) (by omega) (fun _ => rfl) (by omega) (by omega) (by omega) dX8_newBlock_93 (fun h744 hv744 hv744e => ?_)
            have fx744 : FX KRt h h744 := FX.pI fx742 hv744e (by unfold KRt; omega)
            have k745 := bd_e k743 (st_I hv744e (ti_c (v := (-1)) (a := (-1)) (by decide)))
            refine go_aload_n (pc := 94) rfl dX8_newBlock_94 ?_
            refine gi_getF (pc := 95) (q := 92) hv744 fL_X8_74 rfl (Nat.le_of_ble_eq_true rfl) rfl (hv744.rf (by decide)) dX8_newBlock_95 ?_
            refine go_iload_n (pc := 98) rfl dX8_newBlock_98 ?_
            refine go_iload_n (pc := 99) rfl dX8_newBlock_99 ?_
            refine gi_fst (pc := 100) (lo := -1) (hi := 259) (len := 560) hv744 e734 (ti_rfl a2) rfl (by omega) (by omega) (fun _ => rfl) (by omega) (by omega) (by omega) dX8_newBlock_100 (fun h746 hv746 hv746e => ?_)
            have fx746 : FX KRt h h746 := FX.pI fx744 hv746e (by unfold KRt; omega)
            have k747 := bd_e k745 (st_I hv746e (ti_rfl a2))
            refine go_aload_n (pc := 101) rfl dX8_newBlock_101 ?_
            refine go_dup (pc := 102) rfl dX8_newBlock_102 ?_
            refine gi_get (pc := 103) (lo := 0) (hi := 500) hv746 fL_X8_163 rfl (Nat.le_of_ble_eq_true rfl) rfl rfl dX8_newBlock_103 (fun v748 v748l v748u v748w => ?_)
            have v748r : u714 = h746.2.1 70 4 := (show u714 = h746.2.1 70 4 from by rw [hv746e]; exact (g_iI rfl (show u714 = h744.2.1 70 4 from by rw [hv744e]; exact (g_iI rfl (show u714 = h742.2.1 70 4 from by rw [hv742e]; exact (g_iI rfl (show u714 = h740.2.1 70 4 from by rw [hv740e]; exact (g_iI rfl u714w.symm).symm).symm).symm).symm).symm).symm).symm)
            have v748q : TI v748 u714.toInt := by rw [v748w.trans v748r.symm]; exact (ti_rfl u714)
            refine go_iconst (pc := 106) (v := 1) (by decide) dX8_newBlock_106 ?_
            refine gf_iadd (pc := 107) v748q (ti_c (v := 1) (a := 1) (by decide)) (by omega) (by omega) dX8_newBlock_107 (fun v749 e750 => ?_)
            have E746 : h746.2.1 = (w1 (w1 (w1 (w1 h708.2.1 74 S (v738 : Int32)) 90 (((280 * S) + v731.toInt)) ((-1) : Int32)) 91 (((280 * S) + v731.toInt)) ((-1) : Int32)) 92 (((280 * S) + v731.toInt)) (a2 : Int32)) := by
              rw [hv746e, hv744e, hv742e, hv740e]
              rw [v726S]
              rfl
            have oh746 : OH h.2.1 h746.2.1 S := by rw [E746]; exact ((((oh708.trans (OH.w 1 rfl (by omega) (by omega) (by omega) (by omega))).trans (OH.w 280 rfl (by omega) (by omega) (by omega) (by omega))).trans (OH.w 280 rfl (by omega) (by omega) (by omega) (by omega))).trans (OH.w 280 rfl (by omega) (by omega) (by omega) (by omega)))
            have kp746 : KP h.2.1 h746.2.1 := by rw [E746]; exact ((((kp708.trans (KP.w (by omega))).trans (KP.w (by omega))).trans (KP.w (by omega))).trans (KP.w (by omega)))
            have n73_746 : V h746.2.1 73 S = V h708.2.1 73 S := by rw [E746, V_ne (by omega), V_ne (by omega), V_ne (by omega), V_ne (by omega)]
            have n74_746 : V h746.2.1 74 S = (v736.toInt + 1) := by rw [E746, V_ne (by omega), V_ne (by omega), V_ne (by omega), V_eq]; exact e739
            have n75_746 : V h746.2.1 75 S = V h708.2.1 75 S := by rw [E746, V_ne (by omega), V_ne (by omega), V_ne (by omega), V_ne (by omega)]
            have ck746 : CKF h.2.1 → CKF h746.2.1 := fun z => by rw [E746]; exact (CKF.w (by omega) (CKF.w (by omega) (CKF.w (by omega) (CKF.w (by omega) (ck708 z)))))
            refine gi_put (pc := 108) (lo := 0) (hi := 500) hv746 e750 (fP_X8_163 _) rfl (Nat.le_of_ble_eq_true rfl) rfl rfl (by omega) (by omega) rfl rfl (by decide) (by decide) (by decide) (by decide) dX8_newBlock_108 (fun h751 hv751 hv751e => ?_)
            have fx751 : FX KRt h h751 := FX.pI fx746 hv751e (by unfold KRt; omega)
            have k752 := bd_e k747 (st_I hv751e e750)
            have ve751 : VE h746.2.1 h751.2.1 := VE.of hv746 hv751
            have oh751 : OH h.2.1 h751.2.1 S := oh746.trans (OH.of hv746 hv751 S)
            have kp751 : KP h.2.1 h751.2.1 := kp746.trans (KP.ve ve751)
            have ck751 : CKF h.2.1 → CKF h751.2.1 := fun z => CKF.ve ve751 (ck746 z)
            have n73_751 : V h751.2.1 73 S = V h746.2.1 73 S := ve751.v (by omega) (by omega)
            have n74_751 : V h751.2.1 74 S = V h746.2.1 74 S := ve751.v (by omega) (by omega)
            have n75_751 : V h751.2.1 75 S = V h746.2.1 75 S := ve751.v (by omega) (by omega)
            refine go_iload_n (pc := 111) rfl dX8_newBlock_111 ?_
            have g753 : (0 : Int) ≤ (h751.2.1 70 4).toInt := (hv751.2.1 70 4).1
            have g754 : (h751.2.1 70 4).toInt ≤ 500 := (hv751.2.1 70 4).2
            have g755 : (-2147483648 : Int) ≤ (h751.2.1 70 5).toInt := (hv751.2.1 70 5).1
            have g756 : (h751.2.1 70 5).toInt ≤ 2147483647 := (hv751.2.1 70 5).2
            have g757 : (h751.2.1 70 5).toInt = u716.toInt := by rw [← (show u716 = h751.2.1 70 5 from (show u716 = h751.2.1 70 5 from by rw [hv751e]; exact (g_iI rfl (show u716 = h746.2.1 70 5 from by rw [hv746e]; exact (g_iI rfl (show u716 = h744.2.1 70 5 from by rw [hv744e]; exact (g_iI rfl (show u716 = h742.2.1 70 5 from by rw [hv742e]; exact (g_iI rfl (show u716 = h740.2.1 70 5 from by rw [hv740e]; exact (g_iI rfl u716w.symm).symm).symm).symm).symm).symm).symm).symm).symm).symm))] <;> exact (ti_rfl u716)
            have g758 : (h751.2.1 70 4).toInt = (u714.toInt + 1) := by rw [← (show v749 = h751.2.1 70 4 from (show v749 = h751.2.1 70 4 from by rw [hv751e]; exact g_iS.symm))] <;> exact e750
            have z760 : (v733 : Int32).toInt = ((280 * v726.toInt) + v731.toInt) := e734
            have pp759 : (h751.2.1 70 5).toInt = 0 → (h.2.1 70 5).toInt = 0 := (by omega)
            have z762 : (v733 : Int32).toInt = ((280 * v726.toInt) + v731.toInt) := e734
            have pp761 : (h.2.1 70 4).toInt ≤ (h751.2.1 70 4).toInt := (by omega)
            have z764 : (v733 : Int32).toInt = ((280 * v726.toInt) + v731.toInt) := e734
            have pp763 : (h751.2.1 70 5).toInt = 0 → (h.2.1 70 4).toInt + 1 ≤ (h751.2.1 70 4).toInt ∧ a3.toInt ≤ 6 ∧ V h751.2.1 74 S = V h.2.1 74 S + 1 := (by omega)
            have z766 : (v733 : Int32).toInt = ((280 * v726.toInt) + v731.toInt) := e734
            have pp765 : V h751.2.1 73 S = V h.2.1 73 S := (by omega)
            have z768 : (v733 : Int32).toInt = ((280 * v726.toInt) + v731.toInt) := e734
            have pp767 : V h751.2.1 75 S = V h.2.1 75 S := (by omega)
            have zz : (v733 : Int32).toInt = ((280 * v726.toInt) + v731.toInt) := e734
            have zy : (v738 : Int32).toInt = (v736.toInt + 1) := e739
            have pp769 : (h751.2.1 70 5).toInt = 0 → ∀ d : Int, LI h.2.1 h751.2.1 S a2.toInt d (v733 : Int32).toInt := (fun hg d => by rw [show (v733 : Int32).toInt = ((280 * S) + v731.toInt) from (by omega)]; exact LI.ve0 ((ve260.trans ve532).trans ve708) (LI.init (x := (v738 : Int32)) (y := ((-1) : Int32)) (z := ((-1) : Int32)) (w := (a2 : Int32)) S0 (by rw [← E746]; exact ve751) (by omega) (by omega) (by decide) (by decide) rfl))
            have pp770 : (st h751, (v733 : Int32).toInt) = f_X8_newBlock (st h) a2.toInt a3.toInt := (by rw [show (v733 : Int32).toInt = ((280 * v726.toInt) + v731.toInt) from e734]; exact k752.symm.trans kf)
            have pp771 : FX KRt h h751 := fx751
            subst hS
            exact gi_iret (pc := 112) e734 ⟨_, rfl, (by rw [show (v733 : Int32).toInt = ((280 * v726.toInt) + v731.toInt) from e734]; omega), (by rw [show (v733 : Int32).toInt = ((280 * v726.toInt) + v731.toInt) from e734]; omega), ⟨_, hv751, (MW.trans (MW.trans (MW.trans (MW.mz _ _) (MW.mz _ _)) (MW.mz _ _)) (MW.mz _ _))⟩, pp759, pp761, pp763, pp765, pp767, pp769, pp770, pp771, kp751, oh751, ck751⟩ hv751 dX8_newBlock_112
          ·
            have k772 := if_f k723 (fun z => z q724)
            refine go_iconst (pc := 46) (v := 0) (by decide) dX8_newBlock_46 ?_
            have g773 : (0 : Int) ≤ (h708.2.1 70 4).toInt := (hv708.2.1 70 4).1
            have g774 : (h708.2.1 70 4).toInt ≤ 500 := (hv708.2.1 70 4).2
            have g775 : (-2147483648 : Int) ≤ (h708.2.1 70 5).toInt := (hv708.2.1 70 5).1
            have g776 : (h708.2.1 70 5).toInt ≤ 2147483647 := (hv708.2.1 70 5).2
            have g777 : (h708.2.1 70 4).toInt = u714.toInt := by rw [← (show u714 = h708.2.1 70 4 from u714w)] <;> exact (ti_rfl u714)
            have g778 : (h708.2.1 70 5).toInt = u716.toInt := by rw [← (show u716 = h708.2.1 70 5 from u716w)] <;> exact (ti_rfl u716)
            have z780 : (0 : Int32).toInt = 0 := (ti_c (v := 0) (a := 0) (by decide))
            have pp779 : (h708.2.1 70 5).toInt = 0 → (h.2.1 70 5).toInt = 0 := (by omega)
            have z782 : (0 : Int32).toInt = 0 := (ti_c (v := 0) (a := 0) (by decide))
            have pp781 : (h.2.1 70 4).toInt ≤ (h708.2.1 70 4).toInt := (by omega)
            have z784 : (0 : Int32).toInt = 0 := (ti_c (v := 0) (a := 0) (by decide))
            have pp783 : (h708.2.1 70 5).toInt = 0 → (h.2.1 70 4).toInt + 1 ≤ (h708.2.1 70 4).toInt ∧ a3.toInt ≤ 6 ∧ V h708.2.1 74 S = V h.2.1 74 S + 1 := (by omega)
            have z786 : (0 : Int32).toInt = 0 := (ti_c (v := 0) (a := 0) (by decide))
            have pp785 : V h708.2.1 73 S = V h.2.1 73 S := (by omega)
            have z788 : (0 : Int32).toInt = 0 := (ti_c (v := 0) (a := 0) (by decide))
            have pp787 : V h708.2.1 75 S = V h.2.1 75 S := (by omega)
            have pp789 : (h708.2.1 70 5).toInt = 0 → ∀ d : Int, LI h.2.1 h708.2.1 S a2.toInt d (0 : Int32).toInt := (fun hg => absurd hg (by omega))
            have pp790 : (st h708, (0 : Int32).toInt) = f_X8_newBlock (st h) a2.toInt a3.toInt := (by rw [show (0 : Int32).toInt = 0 from (ti_c (v := 0) (a := 0) (by decide))]; exact k772.symm.trans kf)
            have pp791 : FX KRt h h708 := fx708
            subst hS
            exact gi_iret (pc := 47) (ti_c (v := 0) (a := 0) (by decide)) ⟨_, rfl, (by rw [show (0 : Int32).toInt = 0 from (ti_c (v := 0) (a := 0) (by decide))]; omega), (by rw [show (0 : Int32).toInt = 0 from (ti_c (v := 0) (a := 0) (by decide))]; omega), ⟨_, hv708, (MW.rfl _)⟩, pp779, pp781, pp783, pp785, pp787, pp789, pp790, pp791, kp708, oh708, ck708⟩ hv708 dX8_newBlock_47
def f_X8_kindOf (s : ST) (a1 : Int) : Int :=
  if ¬ a1 = 63 then (if ¬ a1 = 64 then (if ¬ a1 = 33 then (if ¬ a1 = 94 then (if ¬ a1 = 37 then ((-1)) else (6)) else (5)) else (4)) else (3)) else (2)
set_option maxHeartbeats 4000000 in
set_option maxRecDepth 100000 in
theorem s_X8_kindOf_f (l : Launch) (d : Nat) {P : PP} {h : HP} (hv : Iv P h) (a1 : Int32) : Mt l yX8_kindOf cX8_kindOf 1 (some .int) (d + 1) [.int a1] h 0 0 (fun r h' => ∃ v : Int32, r = some (.int v) ∧ -1 ≤ v.toInt ∧ v.toInt ≤ 6 ∧ h = h' ∧ (0 ≤ v.toInt → 0 ≤ a1.toInt) ∧ (¬ v.toInt = 1) ∧ (¬ v.toInt = 0) ∧ (v.toInt = f_X8_kindOf (st h) a1.toInt)) := by
  refine Mt_iv hv (by decide) (Nat.le_of_ble_eq_true rfl) ?_
  show Go l RX8 cX8_kindOf 1 (g_rm (d + 1) 0 0) "kindOf" (some .int) 117 0 0 (fun _ _ => True) (fun r h' => ∃ v : Int32, r = some (.int v) ∧ -1 ≤ v.toInt ∧ v.toInt ≤ 6 ∧ h = h' ∧ (0 ≤ v.toInt → 0 ≤ a1.toInt) ∧ (¬ v.toInt = 1) ∧ (¬ v.toInt = 0) ∧ (v.toInt = f_X8_kindOf (st h) a1.toInt)) 0 0 [(0, .int a1)] [] h
  obtain ⟨fin, kf⟩ : ∃ z, z = f_X8_kindOf (st h) a1.toInt := ⟨_, _root_.rfl⟩
  have k0 := kf
  unfold f_X8_kindOf at k0
  refine go_iload_n (pc := 0) rfl dX8_kindOf_0 ?_
  refine go_bipush (pc := 1) (v := 63) (by decide) dX8_kindOf_1 ?_
  refine gf_icmp_ne (pc := 3) (tgt := 10) (ti_rfl a1) (ti_c (v := 63) (a := 63) (by decide)) (by decide) dX8_kindOf_3 (fun q1 => ?_) (fun q1 => ?_)
  ·
    have k2 := if_t k0 q1
    refine go_iload_n (pc := 10) rfl dX8_kindOf_10 ?_
    refine go_bipush (pc := 11) (v := 64) (by decide) dX8_kindOf_11 ?_
    refine gf_icmp_ne (pc := 13) (tgt := 20) (ti_rfl a1) (ti_c (v := 64) (a := 64) (by decide)) (by decide) dX8_kindOf_13 (fun q3 => ?_) (fun q3 => ?_)
    ·
      have k4 := if_t k2 q3
      refine go_iload_n (pc := 20) rfl dX8_kindOf_20 ?_
      refine go_bipush (pc := 21) (v := 33) (by decide) dX8_kindOf_21 ?_
      refine gf_icmp_ne (pc := 23) (tgt := 30) (ti_rfl a1) (ti_c (v := 33) (a := 33) (by decide)) (by decide) dX8_kindOf_23 (fun q5 => ?_) (fun q5 => ?_)
      ·
        have k6 := if_t k4 q5
        refine go_iload_n (pc := 30) rfl dX8_kindOf_30 ?_
        refine go_bipush (pc := 31) (v := 94) (by decide) dX8_kindOf_31 ?_
        refine gf_icmp_ne (pc := 33) (tgt := 40) (ti_rfl a1) (ti_c (v := 94) (a := 94) (by decide)) (by decide) dX8_kindOf_33 (fun q7 => ?_) (fun q7 => ?_)
        ·
          have k8 := if_t k6 q7
          refine go_iload_n (pc := 40) rfl dX8_kindOf_40 ?_
          refine go_bipush (pc := 41) (v := 37) (by decide) dX8_kindOf_41 ?_
          refine gf_icmp_ne (pc := 43) (tgt := 51) (ti_rfl a1) (ti_c (v := 37) (a := 37) (by decide)) (by decide) dX8_kindOf_43 (fun q9 => ?_) (fun q9 => ?_)
          ·
            have k10 := if_t k8 q9
            refine go_iconst (pc := 51) (v := (-1)) (by decide) dX8_kindOf_51 ?_
            exact gi_iret (pc := 52) (ti_c (v := (-1)) (a := (-1)) (by decide)) ⟨_, rfl, (by rw [show ((-1) : Int32).toInt = (-1) from (ti_c (v := (-1)) (a := (-1)) (by decide))]; omega), (by rw [show ((-1) : Int32).toInt = (-1) from (ti_c (v := (-1)) (a := (-1)) (by decide))]; omega), rfl, (by rw [show ((-1) : Int32).toInt = (-1) from (ti_c (v := (-1)) (a := (-1)) (by decide))]; omega), (by rw [show ((-1) : Int32).toInt = (-1) from (ti_c (v := (-1)) (a := (-1)) (by decide))]; omega), (by rw [show ((-1) : Int32).toInt = (-1) from (ti_c (v := (-1)) (a := (-1)) (by decide))]; omega), (by rw [show ((-1) : Int32).toInt = (-1) from (ti_c (v := (-1)) (a := (-1)) (by decide))]; exact k10.symm.trans kf)⟩ hv dX8_kindOf_52
          ·
            have k11 := if_f k8 (fun z => z q9)
            refine go_bipush (pc := 46) (v := 6) (by decide) dX8_kindOf_46 ?_
            refine go_goto (pc := 48) (tgt := 52) (by decide) dX8_kindOf_48 ?_
            exact gi_iret (pc := 52) (ti_c (v := 6) (a := 6) (by decide)) ⟨_, rfl, (by rw [show (6 : Int32).toInt = 6 from (ti_c (v := 6) (a := 6) (by decide))]; omega), (by rw [show (6 : Int32).toInt = 6 from (ti_c (v := 6) (a := 6) (by decide))]; omega), rfl, (by rw [show (6 : Int32).toInt = 6 from (ti_c (v := 6) (a := 6) (by decide))]; omega), (by rw [show (6 : Int32).toInt = 6 from (ti_c (v := 6) (a := 6) (by decide))]; omega), (by rw [show (6 : Int32).toInt = 6 from (ti_c (v := 6) (a := 6) (by decide))]; omega), (by rw [show (6 : Int32).toInt = 6 from (ti_c (v := 6) (a := 6) (by decide))]; exact k11.symm.trans kf)⟩ hv dX8_kindOf_52
        ·
          have k12 := if_f k6 (fun z => z q7)
          refine go_iconst (pc := 36) (v := 5) (by decide) dX8_kindOf_36 ?_
          refine go_goto (pc := 37) (tgt := 52) (by decide) dX8_kindOf_37 ?_
          exact gi_iret (pc := 52) (ti_c (v := 5) (a := 5) (by decide)) ⟨_, rfl, (by rw [show (5 : Int32).toInt = 5 from (ti_c (v := 5) (a := 5) (by decide))]; omega), (by rw [show (5 : Int32).toInt = 5 from (ti_c (v := 5) (a := 5) (by decide))]; omega), rfl, (by rw [show (5 : Int32).toInt = 5 from (ti_c (v := 5) (a := 5) (by decide))]; omega), (by rw [show (5 : Int32).toInt = 5 from (ti_c (v := 5) (a := 5) (by decide))]; omega), (by rw [show (5 : Int32).toInt = 5 from (ti_c (v := 5) (a := 5) (by decide))]; omega), (by rw [show (5 : Int32).toInt = 5 from (ti_c (v := 5) (a := 5) (by decide))]; exact k12.symm.trans kf)⟩ hv dX8_kindOf_52
      ·
        have k13 := if_f k4 (fun z => z q5)
        refine go_iconst (pc := 26) (v := 4) (by decide) dX8_kindOf_26 ?_
        refine go_goto (pc := 27) (tgt := 52) (by decide) dX8_kindOf_27 ?_
        exact gi_iret (pc := 52) (ti_c (v := 4) (a := 4) (by decide)) ⟨_, rfl, (by rw [show (4 : Int32).toInt = 4 from (ti_c (v := 4) (a := 4) (by decide))]; omega), (by rw [show (4 : Int32).toInt = 4 from (ti_c (v := 4) (a := 4) (by decide))]; omega), rfl, (by rw [show (4 : Int32).toInt = 4 from (ti_c (v := 4) (a := 4) (by decide))]; omega), (by rw [show (4 : Int32).toInt = 4 from (ti_c (v := 4) (a := 4) (by decide))]; omega), (by rw [show (4 : Int32).toInt = 4 from (ti_c (v := 4) (a := 4) (by decide))]; omega), (by rw [show (4 : Int32).toInt = 4 from (ti_c (v := 4) (a := 4) (by decide))]; exact k13.symm.trans kf)⟩ hv dX8_kindOf_52
    ·
      have k14 := if_f k2 (fun z => z q3)
      refine go_iconst (pc := 16) (v := 3) (by decide) dX8_kindOf_16 ?_
      refine go_goto (pc := 17) (tgt := 52) (by decide) dX8_kindOf_17 ?_
      exact gi_iret (pc := 52) (ti_c (v := 3) (a := 3) (by decide)) ⟨_, rfl, (by rw [show (3 : Int32).toInt = 3 from (ti_c (v := 3) (a := 3) (by decide))]; omega), (by rw [show (3 : Int32).toInt = 3 from (ti_c (v := 3) (a := 3) (by decide))]; omega), rfl, (by rw [show (3 : Int32).toInt = 3 from (ti_c (v := 3) (a := 3) (by decide))]; omega), (by rw [show (3 : Int32).toInt = 3 from (ti_c (v := 3) (a := 3) (by decide))]; omega), (by rw [show (3 : Int32).toInt = 3 from (ti_c (v := 3) (a := 3) (by decide))]; omega), (by rw [show (3 : Int32).toInt = 3 from (ti_c (v := 3) (a := 3) (by decide))]; exact k14.symm.trans kf)⟩ hv dX8_kindOf_52
  ·
    have k15 := if_f k0 (fun z => z q1)
    refine go_iconst (pc := 6) (v := 2) (by decide) dX8_kindOf_6 ?_
    refine go_goto (pc := 7) (tgt := 52) (by decide) dX8_kindOf_7 ?_
    exact gi_iret (pc := 52) (ti_c (v := 2) (a := 2) (by decide)) ⟨_, rfl, (by rw [show (2 : Int32).toInt = 2 from (ti_c (v := 2) (a := 2) (by decide))]; omega), (by rw [show (2 : Int32).toInt = 2 from (ti_c (v := 2) (a := 2) (by decide))]; omega), rfl, (by rw [show (2 : Int32).toInt = 2 from (ti_c (v := 2) (a := 2) (by decide))]; omega), (by rw [show (2 : Int32).toInt = 2 from (ti_c (v := 2) (a := 2) (by decide))]; omega), (by rw [show (2 : Int32).toInt = 2 from (ti_c (v := 2) (a := 2) (by decide))]; omega), (by rw [show (2 : Int32).toInt = 2 from (ti_c (v := 2) (a := 2) (by decide))]; exact k15.symm.trans kf)⟩ hv dX8_kindOf_52
def f_X8_isSign (s : ST) (a1 : Int) : Int :=
  if a1 = 43 then (1) else (if a1 = 45 then (1) else (if a1 = 42 then (1) else (if ¬ a1 = 60 then (0) else (1))))
set_option maxHeartbeats 4000000 in
set_option maxRecDepth 100000 in
theorem s_X8_isSign_f (l : Launch) (d : Nat) {P : PP} {h : HP} (hv : Iv P h) (a1 : Int32) : Mt l yX8_isSign cX8_isSign 1 (some .boolean) (d + 1) [.int a1] h 0 0 (fun r h' => ∃ v : Int32, r = some (.int v) ∧ 0 ≤ v.toInt ∧ v.toInt ≤ 1 ∧ h = h' ∧ (v.toInt = 1 → 0 ≤ a1.toInt) ∧ (v.toInt = f_X8_isSign (st h) a1.toInt)) := by
  refine Mt_iv hv (by decide) (Nat.le_of_ble_eq_true rfl) ?_
  show Go l RX8 cX8_isSign 1 (g_rm (d + 1) 0 0) "isSign" (some .boolean) 117 0 0 (fun _ _ => True) (fun r h' => ∃ v : Int32, r = some (.int v) ∧ 0 ≤ v.toInt ∧ v.toInt ≤ 1 ∧ h = h' ∧ (v.toInt = 1 → 0 ≤ a1.toInt) ∧ (v.toInt = f_X8_isSign (st h) a1.toInt)) 0 0 [(0, .int a1)] [] h
  obtain ⟨fin, kf⟩ : ∃ z, z = f_X8_isSign (st h) a1.toInt := ⟨_, _root_.rfl⟩
  have k0 := kf
  unfold f_X8_isSign at k0
  refine go_iload_n (pc := 0) rfl dX8_isSign_0 ?_
  refine go_bipush (pc := 1) (v := 43) (by decide) dX8_isSign_1 ?_
  refine gf_icmp_eq (pc := 3) (tgt := 24) (ti_rfl a1) (ti_c (v := 43) (a := 43) (by decide)) (by decide) dX8_isSign_3 (fun q1 => ?_) (fun q1 => ?_)
  ·
    have k2 := if_t k0 q1
    refine go_iconst (pc := 24) (v := 1) (by decide) dX8_isSign_24 ?_
    refine go_goto (pc := 25) (tgt := 29) (by decide) dX8_isSign_25 ?_
    exact gi_zret (pc := 29) (ti_c (v := 1) (a := 1) (by decide)) (by omega) (by omega) ⟨_, rfl, (by rw [show (1 : Int32).toInt = 1 from (ti_c (v := 1) (a := 1) (by decide))]; omega), (by rw [show (1 : Int32).toInt = 1 from (ti_c (v := 1) (a := 1) (by decide))]; omega), rfl, (by rw [show (1 : Int32).toInt = 1 from (ti_c (v := 1) (a := 1) (by decide))]; omega), (by rw [show (1 : Int32).toInt = 1 from (ti_c (v := 1) (a := 1) (by decide))]; exact k2.symm.trans kf)⟩ hv dX8_isSign_29
  ·
    have k3 := if_f k0 q1
    refine go_iload_n (pc := 6) rfl dX8_isSign_6 ?_
    refine go_bipush (pc := 7) (v := 45) (by decide) dX8_isSign_7 ?_
    refine gf_icmp_eq (pc := 9) (tgt := 24) (ti_rfl a1) (ti_c (v := 45) (a := 45) (by decide)) (by decide) dX8_isSign_9 (fun q4 => ?_) (fun q4 => ?_)
    ·
      have k5 := if_t k3 q4
      refine go_iconst (pc := 24) (v := 1) (by decide) dX8_isSign_24 ?_
      refine go_goto (pc := 25) (tgt := 29) (by decide) dX8_isSign_25 ?_
      exact gi_zret (pc := 29) (ti_c (v := 1) (a := 1) (by decide)) (by omega) (by omega) ⟨_, rfl, (by rw [show (1 : Int32).toInt = 1 from (ti_c (v := 1) (a := 1) (by decide))]; omega), (by rw [show (1 : Int32).toInt = 1 from (ti_c (v := 1) (a := 1) (by decide))]; omega), rfl, (by rw [show (1 : Int32).toInt = 1 from (ti_c (v := 1) (a := 1) (by decide))]; omega), (by rw [show (1 : Int32).toInt = 1 from (ti_c (v := 1) (a := 1) (by decide))]; exact k5.symm.trans kf)⟩ hv dX8_isSign_29
    ·
      have k6 := if_f k3 q4
      refine go_iload_n (pc := 12) rfl dX8_isSign_12 ?_
      refine go_bipush (pc := 13) (v := 42) (by decide) dX8_isSign_13 ?_
      refine gf_icmp_eq (pc := 15) (tgt := 24) (ti_rfl a1) (ti_c (v := 42) (a := 42) (by decide)) (by decide) dX8_isSign_15 (fun q7 => ?_) (fun q7 => ?_)
      ·
        have k8 := if_t k6 q7
        refine go_iconst (pc := 24) (v := 1) (by decide) dX8_isSign_24 ?_
        refine go_goto (pc := 25) (tgt := 29) (by decide) dX8_isSign_25 ?_
        exact gi_zret (pc := 29) (ti_c (v := 1) (a := 1) (by decide)) (by omega) (by omega) ⟨_, rfl, (by rw [show (1 : Int32).toInt = 1 from (ti_c (v := 1) (a := 1) (by decide))]; omega), (by rw [show (1 : Int32).toInt = 1 from (ti_c (v := 1) (a := 1) (by decide))]; omega), rfl, (by rw [show (1 : Int32).toInt = 1 from (ti_c (v := 1) (a := 1) (by decide))]; omega), (by rw [show (1 : Int32).toInt = 1 from (ti_c (v := 1) (a := 1) (by decide))]; exact k8.symm.trans kf)⟩ hv dX8_isSign_29
      ·
        have k9 := if_f k6 q7
        refine go_iload_n (pc := 18) rfl dX8_isSign_18 ?_
        refine go_bipush (pc := 19) (v := 60) (by decide) dX8_isSign_19 ?_
        refine gf_icmp_ne (pc := 21) (tgt := 28) (ti_rfl a1) (ti_c (v := 60) (a := 60) (by decide)) (by decide) dX8_isSign_21 (fun q10 => ?_) (fun q10 => ?_)
        ·
          have k11 := if_t k9 q10
          refine go_iconst (pc := 28) (v := 0) (by decide) dX8_isSign_28 ?_
          exact gi_zret (pc := 29) (ti_c (v := 0) (a := 0) (by decide)) (by omega) (by omega) ⟨_, rfl, (by rw [show (0 : Int32).toInt = 0 from (ti_c (v := 0) (a := 0) (by decide))]; omega), (by rw [show (0 : Int32).toInt = 0 from (ti_c (v := 0) (a := 0) (by decide))]; omega), rfl, (by rw [show (0 : Int32).toInt = 0 from (ti_c (v := 0) (a := 0) (by decide))]; omega), (by rw [show (0 : Int32).toInt = 0 from (ti_c (v := 0) (a := 0) (by decide))]; exact k11.symm.trans kf)⟩ hv dX8_isSign_29
        ·
          have k12 := if_f k9 (fun z => z q10)
          refine go_iconst (pc := 24) (v := 1) (by decide) dX8_isSign_24 ?_
          refine go_goto (pc := 25) (tgt := 29) (by decide) dX8_isSign_25 ?_
          exact gi_zret (pc := 29) (ti_c (v := 1) (a := 1) (by decide)) (by omega) (by omega) ⟨_, rfl, (by rw [show (1 : Int32).toInt = 1 from (ti_c (v := 1) (a := 1) (by decide))]; omega), (by rw [show (1 : Int32).toInt = 1 from (ti_c (v := 1) (a := 1) (by decide))]; omega), rfl, (by rw [show (1 : Int32).toInt = 1 from (ti_c (v := 1) (a := 1) (by decide))]; omega), (by rw [show (1 : Int32).toInt = 1 from (ti_c (v := 1) (a := 1) (by decide))]; exact k12.symm.trans kf)⟩ hv dX8_isSign_29
def f_X8_readEnd (s : ST) (a2 : Int) : ST :=
  bd (f_X8_operand s a2 0) fun s6 => bd (f_X8_must s6 59) fun s31 => s31
set_option maxHeartbeats 4000000 in
set_option maxRecDepth 100000 in
theorem s_X8_readEnd_f (l : Launch) (d : Nat) {P : PP} {h : HP} (hv : Iv P h) (a2 : Int32) (a2l : 0 ≤ a2.toInt) (a2u : a2.toInt ≤ 259) (hi : 130 * (h.2.1 70 6).toInt ≤ a2.toInt ∧ a2.toInt < 130 * (h.2.1 70 6).toInt + 130) : Mt l yX8_readEnd cX8_readEnd 2 none (d + 4) [.ref 70, .int a2] h 0 0 (fun r h' => r = none ∧ (∃ Q : PP, Iv Q h' ∧ MW P Q) ∧ ((h'.2.1 70 5).toInt = 0 → (h.2.1 70 5).toInt = 0) ∧ ((h.2.1 70 4).toInt ≤ (h'.2.1 70 4).toInt) ∧ (V h'.2.1 73 (h.2.1 70 6).toInt = V h.2.1 73 (h.2.1 70 6).toInt) ∧ (V h'.2.1 74 (h.2.1 70 6).toInt = V h.2.1 74 (h.2.1 70 6).toInt) ∧ (V h'.2.1 75 (h.2.1 70 6).toInt = V h.2.1 75 (h.2.1 70 6).toInt) ∧ ((h'.2.1 70 5).toInt = 0 → ∀ d : Int, ¬ V h.2.1 77 a2.toInt = 6 → ¬ V h.2.1 77 a2.toInt = 2 → ¬ V h.2.1 77 a2.toInt = 3 → RT h.2.1 h'.2.1 (h.2.1 70 6).toInt a2.toInt d) ∧ (st h' = f_X8_readEnd (st h) a2.toInt) ∧ (FX KRt h h') ∧ (KP h.2.1 h'.2.1) ∧ (OH h.2.1 h'.2.1 (h.2.1 70 6).toInt) ∧ (CKF h.2.1 → CKF h'.2.1)) := by
  refine Mt_iv hv (by decide) (Nat.le_of_ble_eq_true rfl) ?_
  show Go l RX8 cX8_readEnd 2 (g_rm (d + 4) 0 0) "readEnd" none 117 0 0 (fun _ _ => True) (fun r h' => r = none ∧ (∃ Q : PP, Iv Q h' ∧ MW P Q) ∧ ((h'.2.1 70 5).toInt = 0 → (h.2.1 70 5).toInt = 0) ∧ ((h.2.1 70 4).toInt ≤ (h'.2.1 70 4).toInt) ∧ (V h'.2.1 73 (h.2.1 70 6).toInt = V h.2.1 73 (h.2.1 70 6).toInt) ∧ (V h'.2.1 74 (h.2.1 70 6).toInt = V h.2.1 74 (h.2.1 70 6).toInt) ∧ (V h'.2.1 75 (h.2.1 70 6).toInt = V h.2.1 75 (h.2.1 70 6).toInt) ∧ ((h'.2.1 70 5).toInt = 0 → ∀ d : Int, ¬ V h.2.1 77 a2.toInt = 6 → ¬ V h.2.1 77 a2.toInt = 2 → ¬ V h.2.1 77 a2.toInt = 3 → RT h.2.1 h'.2.1 (h.2.1 70 6).toInt a2.toInt d) ∧ (st h' = f_X8_readEnd (st h) a2.toInt) ∧ (FX KRt h h') ∧ (KP h.2.1 h'.2.1) ∧ (OH h.2.1 h'.2.1 (h.2.1 70 6).toInt) ∧ (CKF h.2.1 → CKF h'.2.1)) 0 0 [(0, .ref 70), (1, .int a2)] [] h
  obtain ⟨S, hS⟩ : ∃ S : Int, S = (h.2.1 70 6).toInt := ⟨_, rfl⟩
  have S0 : 0 ≤ S := by rw [hS]; exact (hv.2.1 70 6).1
  have S1 : S ≤ 1 := by rw [hS]; exact (hv.2.1 70 6).2
  have oh : OH h.2.1 h.2.1 S := OH.rfl _ _
  have ck : CKF h.2.1 → CKF h.2.1 := id
  have kp : KP h.2.1 h.2.1 := KP.rfl _
  rw [← hS] at hi
  have fx : FX KRt h h := FX.rfl
  obtain ⟨fin, kf⟩ : ∃ z, z = f_X8_readEnd (st h) a2.toInt := ⟨_, _root_.rfl⟩
  have k0 := kf
  unfold f_X8_readEnd at k0
  refine go_aload_n (pc := 0) rfl dX8_readEnd_0 ?_
  refine go_iload_n (pc := 1) rfl dX8_readEnd_1 ?_
  refine go_iconst (pc := 2) (v := 0) (by decide) dX8_readEnd_2 ?_
  have sM1 : (h.2.1 70 6).toInt = S := (congrArg Int32.toInt oh.side).trans hS.symm
  have g2 : (0 : Int) ≤ (h.2.1 70 4).toInt := (hv.2.1 70 4).1
  have g3 : (h.2.1 70 4).toInt ≤ 500 := (hv.2.1 70 4).2
  have g4 : (-2147483648 : Int) ≤ (h.2.1 70 5).toInt := (hv.2.1 70 5).1
  have g5 : (h.2.1 70 5).toInt ≤ 2147483647 := (hv.2.1 70 5).2
  refine go_invV (pc := 3) (sl := 0) (s_X8_operand_f l (d + 0) hv a2 (by rw [show (a2 : Int32).toInt = a2.toInt from (ti_rfl a2)]; omega) (by rw [show (a2 : Int32).toInt = a2.toInt from (ti_rfl a2)]; omega) 0 (by rw [show (0 : Int32).toInt = 0 from (ti_c (v := 0) (a := 0) (by decide))]; omega) (by rw [show (0 : Int32).toInt = 0 from (ti_c (v := 0) (a := 0) (by decide))]; omega) (by rw [sM1]; exact hi)) mL_X8_218 iM_X8_operand sM_X8_operand (hv.sh rfl) rfl rfl rfl (Nat.le_of_ble_eq_true rfl) (show d + 0 + 3 + 1 ≤ d + 4 by omega) (show 8 + (7 + 11) + 40 * (d + 0 + 3) ≤ 40 * (d + 4) by omega) (g_c0 hv.ln) (Nat.le_of_ble_eq_true rfl) dX8_readEnd_3 ?_
  intro r h6 hq _
  obtain ⟨rfl, ⟨Q7, hv6, sq8⟩, f9, f10, f11, f12, f13, f14, f15, f16, f17, f18, f19⟩ := hq
  rw [sM1] at f12
  rw [sM1] at f13
  rw [sM1] at f14
  rw [sM1] at f18
  have oh6 : OH h.2.1 h6.2.1 S := oh.trans f18
  have kp6 : KP h.2.1 h6.2.1 := kp.trans f17
  have ck6 : CKF h.2.1 → CKF h6.2.1 := fun z => f19 (ck z)
  try rw [show (0 : Int32).toInt = 0 from (ti_c (v := 0) (a := 0) (by decide))] at f9
  try rw [show (0 : Int32).toInt = 0 from (ti_c (v := 0) (a := 0) (by decide))] at f10
  try rw [show (0 : Int32).toInt = 0 from (ti_c (v := 0) (a := 0) (by decide))] at f11
  try rw [show (0 : Int32).toInt = 0 from (ti_c (v := 0) (a := 0) (by decide))] at f12
  try rw [show (0 : Int32).toInt = 0 from (ti_c (v := 0) (a := 0) (by decide))] at f13
  try rw [show (0 : Int32).toInt = 0 from (ti_c (v := 0) (a := 0) (by decide))] at f14
  try rw [show (0 : Int32).toInt = 0 from (ti_c (v := 0) (a := 0) (by decide))] at f15
  try rw [show (0 : Int32).toInt = 0 from (ti_c (v := 0) (a := 0) (by decide))] at f16
  try rw [show (0 : Int32).toInt = 0 from (ti_c (v := 0) (a := 0) (by decide))] at f17
  try rw [show (0 : Int32).toInt = 0 from (ti_c (v := 0) (a := 0) (by decide))] at f18
  try rw [show (0 : Int32).toInt = 0 from (ti_c (v := 0) (a := 0) (by decide))] at f19
  have fx6 : FX KRt h h6 := FX.tr fx f16
  have k20 := bd_e k0 f15.symm
  obtain ⟨u21, u21w⟩ : ∃ v : Int32, v = h6.2.1 70 4 := ⟨_, rfl⟩
  have u21e : (h6.2.1 70 4).toInt = u21.toInt := by rw [u21w]
  have u21l : 0 ≤ u21.toInt := by rw [u21w]; exact (hv6.2.1 70 4).1
  have u21u : u21.toInt ≤ 500 := by rw [u21w]; exact (hv6.2.1 70 4).2
  have k22 := k20
  obtain ⟨u23, u23w⟩ : ∃ v : Int32, v = h6.2.1 70 5 := ⟨_, rfl⟩
  have u23e : (h6.2.1 70 5).toInt = u23.toInt := by rw [u23w]
  have u23l : -2147483648 ≤ u23.toInt := by rw [u23w]; exact (hv6.2.1 70 5).1
  have u23u : u23.toInt ≤ 2147483647 := by rw [u23w]; exact (hv6.2.1 70 5).2
  have k24 := k22
  refine go_aload_n (pc := 6) rfl dX8_readEnd_6 ?_
  refine go_bipush (pc := 7) (v := 59) (by decide) dX8_readEnd_7 ?_
  have g25 : (0 : Int) ≤ (h6.2.1 70 4).toInt := (hv6.2.1 70 4).1
  have g26 : (h6.2.1 70 4).toInt ≤ 500 := (hv6.2.1 70 4).2
  have g27 : (-2147483648 : Int) ≤ (h6.2.1 70 5).toInt := (hv6.2.1 70 5).1
  have g28 : (h6.2.1 70 5).toInt ≤ 2147483647 := (hv6.2.1 70 5).2
  have g29 : (h6.2.1 70 4).toInt = u21.toInt := by rw [← (show u21 = h6.2.1 70 4 from u21w)] <;> exact (ti_rfl u21)
  have g30 : (h6.2.1 70 5).toInt = u23.toInt := by rw [← (show u23 = h6.2.1 70 5 from u23w)] <;> exact (ti_rfl u23)
  refine go_invV (pc := 9) (sl := 0) (s_X8_must_f l (d + 1) hv6 59 (by rw [show (59 : Int32).toInt = 59 from (ti_c (v := 59) (a := 59) (by decide))]; omega) (by rw [show (59 : Int32).toInt = 59 from (ti_c (v := 59) (a := 59) (by decide))]; omega)) mL_X8_198 iM_X8_must sM_X8_must (hv6.sh rfl) rfl rfl rfl (Nat.le_of_ble_eq_true rfl) (show d + 1 + 2 + 1 ≤ d + 4 by omega) (show 8 + (2 + 11) + 40 * (d + 1 + 2) ≤ 40 * (d + 4) by omega) (g_c0 hv6.ln) (Nat.le_of_ble_eq_true rfl) dX8_readEnd_9 ?_
  intro r h31 hq _
  obtain ⟨rfl, hv31, f32, f33, f34, f35, f36⟩ := hq
  try rw [show (59 : Int32).toInt = 59 from (ti_c (v := 59) (a := 59) (by decide))] at f32
  try rw [show (59 : Int32).toInt = 59 from (ti_c (v := 59) (a := 59) (by decide))] at f33
  try rw [show (59 : Int32).toInt = 59 from (ti_c (v := 59) (a := 59) (by decide))] at f34
  try rw [show (59 : Int32).toInt = 59 from (ti_c (v := 59) (a := 59) (by decide))] at f35
  try rw [show (59 : Int32).toInt = 59 from (ti_c (v := 59) (a := 59) (by decide))] at f36
  have fx31 : FX KRt h h31 := FX.tr fx6 f36
  have k37 := bd_e k24 f35.symm
  have ve31 : VE h6.2.1 h31.2.1 := VE.of hv6 hv31
  have oh31 : OH h.2.1 h31.2.1 S := oh6.trans (OH.of hv6 hv31 S)
  have kp31 : KP h.2.1 h31.2.1 := kp6.trans (KP.ve ve31)
  have ck31 : CKF h.2.1 → CKF h31.2.1 := fun z => CKF.ve ve31 (ck6 z)
  have n73_31 : V h31.2.1 73 S = V h6.2.1 73 S := ve31.v (by omega) (by omega)
  have n74_31 : V h31.2.1 74 S = V h6.2.1 74 S := ve31.v (by omega) (by omega)
  have n75_31 : V h31.2.1 75 S = V h6.2.1 75 S := ve31.v (by omega) (by omega)
  obtain ⟨u38, u38w⟩ : ∃ v : Int32, v = h31.2.1 70 4 := ⟨_, rfl⟩
  have u38e : (h31.2.1 70 4).toInt = u38.toInt := by rw [u38w]
  have u38l : 0 ≤ u38.toInt := by rw [u38w]; exact (hv31.2.1 70 4).1
  have u38u : u38.toInt ≤ 500 := by rw [u38w]; exact (hv31.2.1 70 4).2
  have k39 := k37
  obtain ⟨u40, u40w⟩ : ∃ v : Int32, v = h31.2.1 70 5 := ⟨_, rfl⟩
  have u40e : (h31.2.1 70 5).toInt = u40.toInt := by rw [u40w]
  have u40l : -2147483648 ≤ u40.toInt := by rw [u40w]; exact (hv31.2.1 70 5).1
  have u40u : u40.toInt ≤ 2147483647 := by rw [u40w]; exact (hv31.2.1 70 5).2
  have k41 := k39
  have g42 : (0 : Int) ≤ (h31.2.1 70 4).toInt := (hv31.2.1 70 4).1
  have g43 : (h31.2.1 70 4).toInt ≤ 500 := (hv31.2.1 70 4).2
  have g44 : (-2147483648 : Int) ≤ (h31.2.1 70 5).toInt := (hv31.2.1 70 5).1
  have g45 : (h31.2.1 70 5).toInt ≤ 2147483647 := (hv31.2.1 70 5).2
  have g46 : (h31.2.1 70 4).toInt = u38.toInt := by rw [← (show u38 = h31.2.1 70 4 from u38w)] <;> exact (ti_rfl u38)
  have g47 : (h31.2.1 70 5).toInt = u40.toInt := by rw [← (show u40 = h31.2.1 70 5 from u40w)] <;> exact (ti_rfl u40)
  have pp48 : (h31.2.1 70 5).toInt = 0 → (h.2.1 70 5).toInt = 0 := (by omega)
  have pp49 : (h.2.1 70 4).toInt ≤ (h31.2.1 70 4).toInt := (by omega)
  have pp50 : V h31.2.1 73 S = V h.2.1 73 S := (by omega)
  have pp51 : V h31.2.1 74 S = V h.2.1 74 S := (by omega)
  have pp52 : V h31.2.1 75 S = V h.2.1 75 S := (by omega)
  have pp53 : (h31.2.1 70 5).toInt = 0 → ∀ d : Int, ¬ V h.2.1 77 a2.toInt = 6 → ¬ V h.2.1 77 a2.toInt = 2 → ¬ V h.2.1 77 a2.toInt = 3 → RT h.2.1 h31.2.1 S a2.toInt d := (fun hg d k1 k2 k3 => RT.op (((OP.rfl _).trans (f11 (by omega))).trans (OP.ve ve31)) k1 k2 k3)
  have pp54 : st h31 = f_X8_readEnd (st h) a2.toInt := (k41.symm.trans kf)
  have pp55 : FX KRt h h31 := fx31
  subst hS
  exact gi_vret (pc := 12) ⟨rfl, ⟨_, hv31, sq8⟩, pp48, pp49, pp50, pp51, pp52, pp53, pp54, pp55, kp31, oh31, ck31⟩ hv31 dX8_readEnd_12
def f_X8_readSet (s : ST) (a2 : Int) (a3 : Int) : ST :=
  bd (f_X8_must s 61) fun s5 => bd (f_X8_isGood s5) fun v20 => if v20 = 0 then (bd (f_X8_operand s5 a2 0) fun s31 => bd (f_X8_isGood s31) fun v54 => if v54 = 0 then (bd (f_X8_must s31 59) fun s64 => s64) else (bd2 (f_X8_here s31) fun s96 v103 => bd (s96.1 70 4) fun u105 => bd (f_X8_isSign s96 v103) fun v112 => if v112 = 0 then (bd (f_X8_must s96 59) fun s122 => s122) else (bd (f_X8_here_ns s96) fun v153 => bd (sI s96 83 (a2).toNat v153) fun s155 => bd (sI s155 70 4 ((u105 + 1))) fun s160 => bd (f_X8_operand s160 a2 1) fun s169 => bd (f_X8_must s169 59) fun s194 => s194))) else (if 6 ≤ a3 then (bd (f_X8_operand s5 a2 0) fun s229 => bd (f_X8_isGood s229) fun v252 => if v252 = 0 then (bd (f_X8_must s229 59) fun s262 => s262) else (bd2 (f_X8_here s229) fun s294 v301 => bd (s294.1 70 4) fun u303 => bd (f_X8_isSign s294 v301) fun v310 => if v310 = 0 then (bd (f_X8_must s294 59) fun s320 => s320) else (bd (f_X8_here_ns s294) fun v351 => bd (sI s294 83 (a2).toNat v351) fun s353 => bd (sI s353 70 4 ((u303 + 1))) fun s358 => bd (f_X8_operand s358 a2 1) fun s367 => bd (f_X8_must s367 59) fun s392 => s392))) else (bd2 (f_X8_here s5) fun s424 v431 => bd (s424.1 70 4) fun u433 => bd (f_X8_isIn s424 v431 65 69) fun v441 => if v441 = 0 then (bd (f_X8_operand s424 a2 0) fun s452 => bd (f_X8_isGood s452) fun v475 => if v475 = 0 then (bd (f_X8_must s452 59) fun s485 => s485) else (bd2 (f_X8_here s452) fun s517 v524 => bd (s517.1 70 4) fun u526 => bd (f_X8_isSign s517 v524) fun v533 => if v533 = 0 then (bd (f_X8_must s517 59) fun s543 => s543) else (bd (f_X8_here_ns s517) fun v574 => bd (sI s517 83 (a2).toNat v574) fun s576 => bd (sI s576 70 4 ((u526 + 1))) fun s581 => bd (f_X8_operand s581 a2 1) fun s590 => bd (f_X8_must s590 59) fun s615 => s615))) else (bd (sI s424 77 (a2).toNat 1) fun s641 => bd (f_X8_here_ns s641) fun v646 => bd (sI s641 84 (a2).toNat ((v646 - 65))) fun s652 => bd (sI s652 70 4 ((u433 + 1))) fun s657 => bd (f_X8_must s657 40) fun s665 => bd (f_X8_operand s665 a2 0) fun s683 => bd (f_X8_must s683 44) fun s708 => bd (f_X8_operand s708 a2 1) fun s726 => bd (f_X8_must s726 41) fun s751 => bd (f_X8_must s751 59) fun s768 => s768)))
set_option maxHeartbeats 4000000 in
set_option maxRecDepth 100000 in
theorem s_X8_readSet_f (l : Launch) (d : Nat) {P : PP} {h : HP} (hv : Iv P h) (a2 : Int32) (a2l : 0 ≤ a2.toInt) (a2u : a2.toInt ≤ 259) (a3 : Int32) (a3l : -1 ≤ a3.toInt) (a3u : a3.toInt ≤ 9) (hi : 130 * (h.2.1 70 6).toInt ≤ a2.toInt ∧ a2.toInt < 130 * (h.2.1 70 6).toInt + 130) : Mt l yX8_readSet cX8_readSet 3 none (d + 4) [.ref 70, .int a2, .int a3] h 0 0 (fun r h' => r = none ∧ (∃ Q : PP, Iv Q h' ∧ MW P Q) ∧ ((h'.2.1 70 5).toInt = 0 → (h.2.1 70 5).toInt = 0) ∧ ((h.2.1 70 4).toInt ≤ (h'.2.1 70 4).toInt) ∧ (V h'.2.1 73 (h.2.1 70 6).toInt = V h.2.1 73 (h.2.1 70 6).toInt) ∧ (V h'.2.1 74 (h.2.1 70 6).toInt = V h.2.1 74 (h.2.1 70 6).toInt) ∧ (V h'.2.1 75 (h.2.1 70 6).toInt = V h.2.1 75 (h.2.1 70 6).toInt) ∧ ((h'.2.1 70 5).toInt = 0 → ∀ d : Int, V h.2.1 77 a2.toInt = 0 → V h.2.1 82 a2.toInt = a3.toInt → RT h.2.1 h'.2.1 (h.2.1 70 6).toInt a2.toInt d) ∧ (st h' = f_X8_readSet (st h) a2.toInt a3.toInt) ∧ (FX KRt h h') ∧ (KP h.2.1 h'.2.1) ∧ (OH h.2.1 h'.2.1 (h.2.1 70 6).toInt) ∧ (CKF h.2.1 → CKF h'.2.1)) := by
  refine Mt_iv hv (by decide) (Nat.le_of_ble_eq_true rfl) ?_
  show Go l RX8 cX8_readSet 3 (g_rm (d + 4) 0 0) "readSet" none 117 0 0 (fun _ _ => True) (fun r h' => r = none ∧ (∃ Q : PP, Iv Q h' ∧ MW P Q) ∧ ((h'.2.1 70 5).toInt = 0 → (h.2.1 70 5).toInt = 0) ∧ ((h.2.1 70 4).toInt ≤ (h'.2.1 70 4).toInt) ∧ (V h'.2.1 73 (h.2.1 70 6).toInt = V h.2.1 73 (h.2.1 70 6).toInt) ∧ (V h'.2.1 74 (h.2.1 70 6).toInt = V h.2.1 74 (h.2.1 70 6).toInt) ∧ (V h'.2.1 75 (h.2.1 70 6).toInt = V h.2.1 75 (h.2.1 70 6).toInt) ∧ ((h'.2.1 70 5).toInt = 0 → ∀ d : Int, V h.2.1 77 a2.toInt = 0 → V h.2.1 82 a2.toInt = a3.toInt → RT h.2.1 h'.2.1 (h.2.1 70 6).toInt a2.toInt d) ∧ (st h' = f_X8_readSet (st h) a2.toInt a3.toInt) ∧ (FX KRt h h') ∧ (KP h.2.1 h'.2.1) ∧ (OH h.2.1 h'.2.1 (h.2.1 70 6).toInt) ∧ (CKF h.2.1 → CKF h'.2.1)) 0 0 [(0, .ref 70), (1, .int a2), (2, .int a3)] [] h
  obtain ⟨S, hS⟩ : ∃ S : Int, S = (h.2.1 70 6).toInt := ⟨_, rfl⟩
  have S0 : 0 ≤ S := by rw [hS]; exact (hv.2.1 70 6).1
  have S1 : S ≤ 1 := by rw [hS]; exact (hv.2.1 70 6).2
  have oh : OH h.2.1 h.2.1 S := OH.rfl _ _
  have ck : CKF h.2.1 → CKF h.2.1 := id
  have kp : KP h.2.1 h.2.1 := KP.rfl _
  rw [← hS] at hi
  have fx : FX KRt h h := FX.rfl
  obtain ⟨fin, kf⟩ : ∃ z, z = f_X8_readSet (st h) a2.toInt a3.toInt := ⟨_, _root_.rfl⟩
  have k0 := kf
  unfold f_X8_readSet at k0
  refine go_aload_n (pc := 0) rfl dX8_readSet_0 ?_
  refine go_bipush (pc := 1) (v := 61) (by decide) dX8_readSet_1 ?_
  have g1 : (0 : Int) ≤ (h.2.1 70 4).toInt := (hv.2.1 70 4).1
  have g2 : (h.2.1 70 4).toInt ≤ 500 := (hv.2.1 70 4).2
  have g3 : (-2147483648 : Int) ≤ (h.2.1 70 5).toInt := (hv.2.1 70 5).1
  have g4 : (h.2.1 70 5).toInt ≤ 2147483647 := (hv.2.1 70 5).2
  refine go_invV (pc := 3) (sl := 0) (s_X8_must_f l (d + 1) hv 61 (by rw [show (61 : Int32).toInt = 61 from (ti_c (v := 61) (a := 61) (by decide))]; omega) (by rw [show (61 : Int32).toInt = 61 from (ti_c (v := 61) (a := 61) (by decide))]; omega)) mL_X8_198 iM_X8_must sM_X8_must (hv.sh rfl) rfl rfl rfl (Nat.le_of_ble_eq_true rfl) (show d + 1 + 2 + 1 ≤ d + 4 by omega) (show 8 + (2 + 11) + 40 * (d + 1 + 2) ≤ 40 * (d + 4) by omega) (g_c0 hv.ln) (Nat.le_of_ble_eq_true rfl) dX8_readSet_3 ?_
  intro r h5 hq _
  obtain ⟨rfl, hv5, f6, f7, f8, f9, f10⟩ := hq
  try rw [show (61 : Int32).toInt = 61 from (ti_c (v := 61) (a := 61) (by decide))] at f6
  try rw [show (61 : Int32).toInt = 61 from (ti_c (v := 61) (a := 61) (by decide))] at f7
  try rw [show (61 : Int32).toInt = 61 from (ti_c (v := 61) (a := 61) (by decide))] at f8
  try rw [show (61 : Int32).toInt = 61 from (ti_c (v := 61) (a := 61) (by decide))] at f9
  try rw [show (61 : Int32).toInt = 61 from (ti_c (v := 61) (a := 61) (by decide))] at f10
  have fx5 : FX KRt h h5 := FX.tr fx f10
  have k11 := bd_e k0 f9.symm
  have ve5 : VE h.2.1 h5.2.1 := VE.of hv hv5
  have oh5 : OH h.2.1 h5.2.1 S := oh.trans (OH.of hv hv5 S)
  have kp5 : KP h.2.1 h5.2.1 := kp.trans (KP.ve ve5)
  have ck5 : CKF h.2.1 → CKF h5.2.1 := fun z => CKF.ve ve5 (ck z)
  have n73_5 : V h5.2.1 73 S = V h.2.1 73 S := ve5.v (by omega) (by omega)
  have n74_5 : V h5.2.1 74 S = V h.2.1 74 S := ve5.v (by omega) (by omega)
  have n75_5 : V h5.2.1 75 S = V h.2.1 75 S := ve5.v (by omega) (by omega)
  obtain ⟨u12, u12w⟩ : ∃ v : Int32, v = h5.2.1 70 4 := ⟨_, rfl⟩
  have u12e : (h5.2.1 70 4).toInt = u12.toInt := by rw [u12w]
  have u12l : 0 ≤ u12.toInt := by rw [u12w]; exact (hv5.2.1 70 4).1
  have u12u : u12.toInt ≤ 500 := by rw [u12w]; exact (hv5.2.1 70 4).2
  have k13 := k11
  obtain ⟨u14, u14w⟩ : ∃ v : Int32, v = h5.2.1 70 5 := ⟨_, rfl⟩
  have u14e : (h5.2.1 70 5).toInt = u14.toInt := by rw [u14w]
  have u14l : -2147483648 ≤ u14.toInt := by rw [u14w]; exact (hv5.2.1 70 5).1
  have u14u : u14.toInt ≤ 2147483647 := by rw [u14w]; exact (hv5.2.1 70 5).2
  have k15 := k13
  refine go_aload_n (pc := 6) rfl dX8_readSet_6 ?_
  refine go_invV (pc := 7) (sl := 0) (s_X8_isGood_f l (d + 2) hv5 ) mL_X8_172 iM_X8_isGood sM_X8_isGood (hv5.sh rfl) rfl rfl rfl (Nat.le_of_ble_eq_true rfl) (show d + 2 + 1 + 1 ≤ d + 4 by omega) (show 8 + (1 + 11) + 40 * (d + 2 + 1) ≤ 40 * (d + 4) by omega) (g_c0 hv5.ln) (Nat.le_of_ble_eq_true rfl) dX8_readSet_7 ?_
  intro r h16 hq _
  obtain ⟨v20, rfl, v20l, v20u, rfl, f17, f18, f19⟩ := hq
  replace f19 : PE _ _ := f19
  have k21 := bd_e k15 f19.symm
  refine gf_if_eq (pc := 10) (tgt := 100) (ti_rfl v20) (by decide) dX8_readSet_10 (fun q22 => ?_) (fun q22 => ?_)
  ·
    have k23 := if_t k21 q22
    refine go_aload_n (pc := 100) rfl dX8_readSet_100 ?_
    refine go_iload_n (pc := 101) rfl dX8_readSet_101 ?_
    refine go_iconst (pc := 102) (v := 0) (by decide) dX8_readSet_102 ?_
    have sM24 : (h5.2.1 70 6).toInt = S := (congrArg Int32.toInt oh5.side).trans hS.symm
    have g25 : (0 : Int) ≤ (h5.2.1 70 4).toInt := (hv5.2.1 70 4).1
    have g26 : (h5.2.1 70 4).toInt ≤ 500 := (hv5.2.1 70 4).2
    have g27 : (-2147483648 : Int) ≤ (h5.2.1 70 5).toInt := (hv5.2.1 70 5).1
    have g28 : (h5.2.1 70 5).toInt ≤ 2147483647 := (hv5.2.1 70 5).2
    have g29 : (h5.2.1 70 4).toInt = u12.toInt := by rw [← (show u12 = h5.2.1 70 4 from u12w)] <;> exact (ti_rfl u12)
    have g30 : (h5.2.1 70 5).toInt = u14.toInt := by rw [← (show u14 = h5.2.1 70 5 from u14w)] <;> exact (ti_rfl u14)
    refine go_invV (pc := 103) (sl := 0) (s_X8_operand_f l (d + 0) hv5 a2 (by rw [show (a2 : Int32).toInt = a2.toInt from (ti_rfl a2)]; omega) (by rw [show (a2 : Int32).toInt = a2.toInt from (ti_rfl a2)]; omega) 0 (by rw [show (0 : Int32).toInt = 0 from (ti_c (v := 0) (a := 0) (by decide))]; omega) (by rw [show (0 : Int32).toInt = 0 from (ti_c (v := 0) (a := 0) (by decide))]; omega) (by rw [sM24]; exact hi)) mL_X8_218 iM_X8_operand sM_X8_operand (hv5.sh rfl) rfl rfl rfl (Nat.le_of_ble_eq_true rfl) (show d + 0 + 3 + 1 ≤ d + 4 by omega) (show 8 + (7 + 11) + 40 * (d + 0 + 3) ≤ 40 * (d + 4) by omega) (g_c0 hv5.ln) (Nat.le_of_ble_eq_true rfl) dX8_readSet_103 ?_
    intro r h31 hq _
    obtain ⟨rfl, ⟨Q32, hv31, sq33⟩, f34, f35, f36, f37, f38, f39, f40, f41, f42, f43, f44⟩ := hq
    rw [sM24] at f37
    rw [sM24] at f38
    rw [sM24] at f39
    rw [sM24] at f43
    have oh31 : OH h.2.1 h31.2.1 S := oh5.trans f43
    have kp31 : KP h.2.1 h31.2.1 := kp5.trans f42
    have ck31 : CKF h.2.1 → CKF h31.2.1 := fun z => f44 (ck5 z)
    try rw [show (0 : Int32).toInt = 0 from (ti_c (v := 0) (a := 0) (by decide))] at f34
    try rw [show (0 : Int32).toInt = 0 from (ti_c (v := 0) (a := 0) (by decide))] at f35
    try rw [show (0 : Int32).toInt = 0 from (ti_c (v := 0) (a := 0) (by decide))] at f36
    try rw [show (0 : Int32).toInt = 0 from (ti_c (v := 0) (a := 0) (by decide))] at f37
    try rw [show (0 : Int32).toInt = 0 from (ti_c (v := 0) (a := 0) (by decide))] at f38
    try rw [show (0 : Int32).toInt = 0 from (ti_c (v := 0) (a := 0) (by decide))] at f39
    try rw [show (0 : Int32).toInt = 0 from (ti_c (v := 0) (a := 0) (by decide))] at f40
    try rw [show (0 : Int32).toInt = 0 from (ti_c (v := 0) (a := 0) (by decide))] at f41
    try rw [show (0 : Int32).toInt = 0 from (ti_c (v := 0) (a := 0) (by decide))] at f42
    try rw [show (0 : Int32).toInt = 0 from (ti_c (v := 0) (a := 0) (by decide))] at f43
    try rw [show (0 : Int32).toInt = 0 from (ti_c (v := 0) (a := 0) (by decide))] at f44
    have fx31 : FX KRt h h31 := FX.tr fx5 f41
    have k45 := bd_e k23 f40.symm
    obtain ⟨u46, u46w⟩ : ∃ v : Int32, v = h31.2.1 70 4 := ⟨_, rfl⟩
    have u46e : (h31.2.1 70 4).toInt = u46.toInt := by rw [u46w]
    have u46l : 0 ≤ u46.toInt := by rw [u46w]; exact (hv31.2.1 70 4).1
    have u46u : u46.toInt ≤ 500 := by rw [u46w]; exact (hv31.2.1 70 4).2
    have k47 := k45
    obtain ⟨u48, u48w⟩ : ∃ v : Int32, v = h31.2.1 70 5 := ⟨_, rfl⟩
    have u48e : (h31.2.1 70 5).toInt = u48.toInt := by rw [u48w]
    have u48l : -2147483648 ≤ u48.toInt := by rw [u48w]; exact (hv31.2.1 70 5).1
    have u48u : u48.toInt ≤ 2147483647 := by rw [u48w]; exact (hv31.2.1 70 5).2
    have k49 := k47
    refine go_aload_n (pc := 106) rfl dX8_readSet_106 ?_
    refine go_invV (pc := 107) (sl := 0) (s_X8_isGood_f l (d + 2) hv31 ) mL_X8_172 iM_X8_isGood sM_X8_isGood (hv31.sh rfl) rfl rfl rfl (Nat.le_of_ble_eq_true rfl) (show d + 2 + 1 + 1 ≤ d + 4 by omega) (show 8 + (1 + 11) + 40 * (d + 2 + 1) ≤ 40 * (d + 4) by omega) (g_c0 hv31.ln) (Nat.le_of_ble_eq_true rfl) dX8_readSet_107 ?_
    intro r h50 hq _
    obtain ⟨v54, rfl, v54l, v54u, rfl, f51, f52, f53⟩ := hq
    replace f53 : PE _ _ := f53
    have k55 := bd_e k49 f53.symm
    refine gf_if_eq (pc := 110) (tgt := 149) (ti_rfl v54) (by decide) dX8_readSet_110 (fun q56 => ?_) (fun q56 => ?_)
    ·
      have k57 := if_t k55 q56
      refine go_aload_n (pc := 149) rfl dX8_readSet_149 ?_
      refine go_bipush (pc := 150) (v := 59) (by decide) dX8_readSet_150 ?_
      have g58 : (0 : Int) ≤ (h31.2.1 70 4).toInt := (hv31.2.1 70 4).1
      have g59 : (h31.2.1 70 4).toInt ≤ 500 := (hv31.2.1 70 4).2
      have g60 : (-2147483648 : Int) ≤ (h31.2.1 70 5).toInt := (hv31.2.1 70 5).1
      have g61 : (h31.2.1 70 5).toInt ≤ 2147483647 := (hv31.2.1 70 5).2
      have g62 : (h31.2.1 70 4).toInt = u46.toInt := by rw [← (show u46 = h31.2.1 70 4 from u46w)] <;> exact (ti_rfl u46)
      have g63 : (h31.2.1 70 5).toInt = u48.toInt := by rw [← (show u48 = h31.2.1 70 5 from u48w)] <;> exact (ti_rfl u48)
      refine go_invV (pc := 152) (sl := 0) (s_X8_must_f l (d + 1) hv31 59 (by rw [show (59 : Int32).toInt = 59 from (ti_c (v := 59) (a := 59) (by decide))]; omega) (by rw [show (59 : Int32).toInt = 59 from (ti_c (v := 59) (a := 59) (by decide))]; omega)) mL_X8_198 iM_X8_must sM_X8_must (hv31.sh rfl) rfl rfl rfl (Nat.le_of_ble_eq_true rfl) (show d + 1 + 2 + 1 ≤ d + 4 by omega) (show 8 + (2 + 11) + 40 * (d + 1 + 2) ≤ 40 * (d + 4) by omega) (g_c0 hv31.ln) (Nat.le_of_ble_eq_true rfl) dX8_readSet_152 ?_
      intro r h64 hq _
      obtain ⟨rfl, hv64, f65, f66, f67, f68, f69⟩ := hq
      try rw [show (59 : Int32).toInt = 59 from (ti_c (v := 59) (a := 59) (by decide))] at f65
      try rw [show (59 : Int32).toInt = 59 from (ti_c (v := 59) (a := 59) (by decide))] at f66
      try rw [show (59 : Int32).toInt = 59 from (ti_c (v := 59) (a := 59) (by decide))] at f67
      try rw [show (59 : Int32).toInt = 59 from (ti_c (v := 59) (a := 59) (by decide))] at f68
      try rw [show (59 : Int32).toInt = 59 from (ti_c (v := 59) (a := 59) (by decide))] at f69
      have fx64 : FX KRt h h64 := FX.tr fx31 f69
      have k70 := bd_e k57 f68.symm
      have ve64 : VE h31.2.1 h64.2.1 := VE.of hv31 hv64
      have oh64 : OH h.2.1 h64.2.1 S := oh31.trans (OH.of hv31 hv64 S)
      have kp64 : KP h.2.1 h64.2.1 := kp31.trans (KP.ve ve64)
      have ck64 : CKF h.2.1 → CKF h64.2.1 := fun z => CKF.ve ve64 (ck31 z)
      have n73_64 : V h64.2.1 73 S = V h31.2.1 73 S := ve64.v (by omega) (by omega)
      have n74_64 : V h64.2.1 74 S = V h31.2.1 74 S := ve64.v (by omega) (by omega)
      have n75_64 : V h64.2.1 75 S = V h31.2.1 75 S := ve64.v (by omega) (by omega)
      obtain ⟨u71, u71w⟩ : ∃ v : Int32, v = h64.2.1 70 4 := ⟨_, rfl⟩
      have u71e : (h64.2.1 70 4).toInt = u71.toInt := by rw [u71w]
      have u71l : 0 ≤ u71.toInt := by rw [u71w]; exact (hv64.2.1 70 4).1
      have u71u : u71.toInt ≤ 500 := by rw [u71w]; exact (hv64.2.1 70 4).2
      have k72 := k70
      obtain ⟨u73, u73w⟩ : ∃ v : Int32, v = h64.2.1 70 5 := ⟨_, rfl⟩
      have u73e : (h64.2.1 70 5).toInt = u73.toInt := by rw [u73w]
      have u73l : -2147483648 ≤ u73.toInt := by rw [u73w]; exact (hv64.2.1 70 5).1
      have u73u : u73.toInt ≤ 2147483647 := by rw [u73w]; exact (hv64.2.1 70 5).2
      have k74 := k72
      have g75 : (0 : Int) ≤ (h64.2.1 70 4).toInt := (hv64.2.1 70 4).1
      have g76 : (h64.2.1 70 4).toInt ≤ 500 := (hv64.2.1 70 4).2
      have g77 : (-2147483648 : Int) ≤ (h64.2.1 70 5).toInt := (hv64.2.1 70 5).1
      have g78 : (h64.2.1 70 5).toInt ≤ 2147483647 := (hv64.2.1 70 5).2
      have g79 : (h64.2.1 70 4).toInt = u71.toInt := by rw [← (show u71 = h64.2.1 70 4 from u71w)] <;> exact (ti_rfl u71)
      have g80 : (h64.2.1 70 5).toInt = u73.toInt := by rw [← (show u73 = h64.2.1 70 5 from u73w)] <;> exact (ti_rfl u73)
      have pp81 : (h64.2.1 70 5).toInt = 0 → (h.2.1 70 5).toInt = 0 := (by omega)
      have pp82 : (h.2.1 70 4).toInt ≤ (h64.2.1 70 4).toInt := (by omega)
      have pp83 : V h64.2.1 73 S = V h.2.1 73 S := (by omega)
      have pp84 : V h64.2.1 74 S = V h.2.1 74 S := (by omega)
      have pp85 : V h64.2.1 75 S = V h.2.1 75 S := (by omega)
      have pp86 : (h64.2.1 70 5).toInt = 0 → ∀ d : Int, V h.2.1 77 a2.toInt = 0 → V h.2.1 82 a2.toInt = a3.toInt → RT h.2.1 h64.2.1 S a2.toInt d := (fun hg d k1 k2 => RT.op ((((OP.rfl _).trans (OP.ve ve5)).trans (f36 (by omega))).trans (OP.ve ve64)) (by omega) (by omega) (by omega))
      have pp87 : st h64 = f_X8_readSet (st h) a2.toInt a3.toInt := (k74.symm.trans kf)
      have pp88 : FX KRt h h64 := fx64
      subst hS
      exact gi_vret (pc := 155) ⟨rfl, ⟨_, hv64, sq33⟩, pp81, pp82, pp83, pp84, pp85, pp86, pp87, pp88, kp64, oh64, ck64⟩ hv64 dX8_readSet_155
    ·
      have k89 := if_f k55 q56
      refine go_aload_n (pc := 113) rfl dX8_readSet_113 ?_
      have g90 : (0 : Int) ≤ (h31.2.1 70 4).toInt := (hv31.2.1 70 4).1
      have g91 : (h31.2.1 70 4).toInt ≤ 500 := (hv31.2.1 70 4).2
      have g92 : (-2147483648 : Int) ≤ (h31.2.1 70 5).toInt := (hv31.2.1 70 5).1
      have g93 : (h31.2.1 70 5).toInt ≤ 2147483647 := (hv31.2.1 70 5).2
      have g94 : (h31.2.1 70 4).toInt = u46.toInt := by rw [← (show u46 = h31.2.1 70 4 from u46w)] <;> exact (ti_rfl u46)
      have g95 : (h31.2.1 70 5).toInt = u48.toInt := by rw [← (show u48 = h31.2.1 70 5 from u48w)] <;> exact (ti_rfl u48)
      refine go_invV (pc := 114) (sl := 0) (s_X8_here_f l (d + 2) hv31 ) mL_X8_176 iM_X8_here sM_X8_here (hv31.sh rfl) rfl rfl rfl (Nat.le_of_ble_eq_true rfl) (show d + 2 + 1 + 1 ≤ d + 4 by omega) (show 8 + (1 + 11) + 40 * (d + 2 + 1) ≤ 40 * (d + 4) by omega) (g_c0 hv31.ln) (Nat.le_of_ble_eq_true rfl) dX8_readSet_114 ?_
      intro r h96 hq _
      obtain ⟨v103, rfl, v103l, v103u, hv96, f97, f98, f99, f100, f101, f102⟩ := hq
      have fx96 : FX KRt h h96 := FX.tr fx31 f102
      have k104 := bd2_e k89 f101
      have ve96 : VE h31.2.1 h96.2.1 := VE.of hv31 hv96
      have oh96 : OH h.2.1 h96.2.1 S := oh31.trans (OH.of hv31 hv96 S)
      have kp96 : KP h.2.1 h96.2.1 := kp31.trans (KP.ve ve96)
      have ck96 : CKF h.2.1 → CKF h96.2.1 := fun z => CKF.ve ve96 (ck31 z)
      have n73_96 : V h96.2.1 73 S = V h31.2.1 73 S := ve96.v (by omega) (by omega)
      have n74_96 : V h96.2.1 74 S = V h31.2.1 74 S := ve96.v (by omega) (by omega)
      have n75_96 : V h96.2.1 75 S = V h31.2.1 75 S := ve96.v (by omega) (by omega)
      obtain ⟨u105, u105w⟩ : ∃ v : Int32, v = h96.2.1 70 4 := ⟨_, rfl⟩
      have u105e : (h96.2.1 70 4).toInt = u105.toInt := by rw [u105w]
      have u105l : 0 ≤ u105.toInt := by rw [u105w]; exact (hv96.2.1 70 4).1
      have u105u : u105.toInt ≤ 500 := by rw [u105w]; exact (hv96.2.1 70 4).2
      have k106 := bd_e k104 (congrArg Int32.toInt u105w.symm)
      obtain ⟨u107, u107w⟩ : ∃ v : Int32, v = h96.2.1 70 5 := ⟨_, rfl⟩
      have u107e : (h96.2.1 70 5).toInt = u107.toInt := by rw [u107w]
      have u107l : -2147483648 ≤ u107.toInt := by rw [u107w]; exact (hv96.2.1 70 5).1
      have u107u : u107.toInt ≤ 2147483647 := by rw [u107w]; exact (hv96.2.1 70 5).2
      have k108 := k106
      refine go_invS (pc := 117) (sl := 0) (s_X8_isSign_f l (d + 2) hv96 v103) mL_X8_220 iM_X8_isSign rfl rfl (Nat.le_of_ble_eq_true rfl) (show d + 2 + 1 + 1 ≤ d + 4 by omega) (show 8 + (1 + 11) + 40 * (d + 2 + 1) ≤ 40 * (d + 4) by omega) (g_c0 hv96.ln) (Nat.le_of_ble_eq_true rfl) dX8_readSet_117 ?_
      intro r h109 hq _
      obtain ⟨v112, rfl, v112l, v112u, rfl, f110, f111⟩ := hq
      replace f111 : PE _ _ := f111
      have k113 := bd_e k108 f111.symm
      refine gf_if_eq (pc := 120) (tgt := 149) (ti_rfl v112) (by decide) dX8_readSet_120 (fun q114 => ?_) (fun q114 => ?_)
      ·
        have k115 := if_t k113 q114
        refine go_aload_n (pc := 149) rfl dX8_readSet_149 ?_
        refine go_bipush (pc := 150) (v := 59) (by decide) dX8_readSet_150 ?_
        have g116 : (0 : Int) ≤ (h96.2.1 70 4).toInt := (hv96.2.1 70 4).1
        have g117 : (h96.2.1 70 4).toInt ≤ 500 := (hv96.2.1 70 4).2
        have g118 : (-2147483648 : Int) ≤ (h96.2.1 70 5).toInt := (hv96.2.1 70 5).1
        have g119 : (h96.2.1 70 5).toInt ≤ 2147483647 := (hv96.2.1 70 5).2
        have g120 : (h96.2.1 70 4).toInt = u105.toInt := by rw [← (show u105 = h96.2.1 70 4 from u105w)] <;> exact (ti_rfl u105)
        have g121 : (h96.2.1 70 5).toInt = u107.toInt := by rw [← (show u107 = h96.2.1 70 5 from u107w)] <;> exact (ti_rfl u107)
        refine go_invV (pc := 152) (sl := 0) (s_X8_must_f l (d + 1) hv96 59 (by rw [show (59 : Int32).toInt = 59 from (ti_c (v := 59) (a := 59) (by decide))]; omega) (by rw [show (59 : Int32).toInt = 59 from (ti_c (v := 59) (a := 59) (by decide))]; omega)) mL_X8_198 iM_X8_must sM_X8_must (hv96.sh rfl) rfl rfl rfl (Nat.le_of_ble_eq_true rfl) (show d + 1 + 2 + 1 ≤ d + 4 by omega) (show 8 + (2 + 11) + 40 * (d + 1 + 2) ≤ 40 * (d + 4) by omega) (g_c0 hv96.ln) (Nat.le_of_ble_eq_true rfl) dX8_readSet_152 ?_
        intro r h122 hq _
        obtain ⟨rfl, hv122, f123, f124, f125, f126, f127⟩ := hq
        try rw [show (59 : Int32).toInt = 59 from (ti_c (v := 59) (a := 59) (by decide))] at f123
        try rw [show (59 : Int32).toInt = 59 from (ti_c (v := 59) (a := 59) (by decide))] at f124
        try rw [show (59 : Int32).toInt = 59 from (ti_c (v := 59) (a := 59) (by decide))] at f125
        try rw [show (59 : Int32).toInt = 59 from (ti_c (v := 59) (a := 59) (by decide))] at f126
        try rw [show (59 : Int32).toInt = 59 from (ti_c (v := 59) (a := 59) (by decide))] at f127
        have fx122 : FX KRt h h122 := FX.tr fx96 f127
        have k128 := bd_e k115 f126.symm
        have ve122 : VE h96.2.1 h122.2.1 := VE.of hv96 hv122
        have oh122 : OH h.2.1 h122.2.1 S := oh96.trans (OH.of hv96 hv122 S)
        have kp122 : KP h.2.1 h122.2.1 := kp96.trans (KP.ve ve122)
        have ck122 : CKF h.2.1 → CKF h122.2.1 := fun z => CKF.ve ve122 (ck96 z)
        have n73_122 : V h122.2.1 73 S = V h96.2.1 73 S := ve122.v (by omega) (by omega)
        have n74_122 : V h122.2.1 74 S = V h96.2.1 74 S := ve122.v (by omega) (by omega)
        have n75_122 : V h122.2.1 75 S = V h96.2.1 75 S := ve122.v (by omega) (by omega)
        obtain ⟨u129, u129w⟩ : ∃ v : Int32, v = h122.2.1 70 4 := ⟨_, rfl⟩
        have u129e : (h122.2.1 70 4).toInt = u129.toInt := by rw [u129w]
        have u129l : 0 ≤ u129.toInt := by rw [u129w]; exact (hv122.2.1 70 4).1
        have u129u : u129.toInt ≤ 500 := by rw [u129w]; exact (hv122.2.1 70 4).2
        have k130 := k128
        obtain ⟨u131, u131w⟩ : ∃ v : Int32, v = h122.2.1 70 5 := ⟨_, rfl⟩
        have u131e : (h122.2.1 70 5).toInt = u131.toInt := by rw [u131w]
        have u131l : -2147483648 ≤ u131.toInt := by rw [u131w]; exact (hv122.2.1 70 5).1
        have u131u : u131.toInt ≤ 2147483647 := by rw [u131w]; exact (hv122.2.1 70 5).2
        have k132 := k130
        have g133 : (0 : Int) ≤ (h122.2.1 70 4).toInt := (hv122.2.1 70 4).1
        have g134 : (h122.2.1 70 4).toInt ≤ 500 := (hv122.2.1 70 4).2
        have g135 : (-2147483648 : Int) ≤ (h122.2.1 70 5).toInt := (hv122.2.1 70 5).1
        have g136 : (h122.2.1 70 5).toInt ≤ 2147483647 := (hv122.2.1 70 5).2
        have g137 : (h122.2.1 70 4).toInt = u129.toInt := by rw [← (show u129 = h122.2.1 70 4 from u129w)] <;> exact (ti_rfl u129)
        have g138 : (h122.2.1 70 5).toInt = u131.toInt := by rw [← (show u131 = h122.2.1 70 5 from u131w)] <;> exact (ti_rfl u131)
        have pp139 : (h122.2.1 70 5).toInt = 0 → (h.2.1 70 5).toInt = 0 := (by omega)
        have pp140 : (h.2.1 70 4).toInt ≤ (h122.2.1 70 4).toInt := (by omega)
        have pp141 : V h122.2.1 73 S = V h.2.1 73 S := (by omega)
        have pp142 : V h122.2.1 74 S = V h.2.1 74 S := (by omega)
        have pp143 : V h122.2.1 75 S = V h.2.1 75 S := (by omega)
        have pp144 : (h122.2.1 70 5).toInt = 0 → ∀ d : Int, V h.2.1 77 a2.toInt = 0 → V h.2.1 82 a2.toInt = a3.toInt → RT h.2.1 h122.2.1 S a2.toInt d := (fun hg d k1 k2 => RT.op (((((OP.rfl _).trans (OP.ve ve5)).trans (f36 (by omega))).trans (OP.ve ve96)).trans (OP.ve ve122)) (by omega) (by omega) (by omega))
        have pp145 : st h122 = f_X8_readSet (st h) a2.toInt a3.toInt := (k132.symm.trans kf)
        have pp146 : FX KRt h h122 := fx122
        subst hS
        exact gi_vret (pc := 155) ⟨rfl, ⟨_, hv122, sq33⟩, pp139, pp140, pp141, pp142, pp143, pp144, pp145, pp146, kp122, oh122, ck122⟩ hv122 dX8_readSet_155
      ·
        have k147 := if_f k113 q114
        refine go_aload_n (pc := 123) rfl dX8_readSet_123 ?_
        refine gi_getF (pc := 124) (q := 83) hv96 fL_X8_47 rfl (Nat.le_of_ble_eq_true rfl) rfl (hv96.rf (by decide)) dX8_readSet_124 ?_
        refine go_iload_n (pc := 127) rfl dX8_readSet_127 ?_
        refine go_aload_n (pc := 128) rfl dX8_readSet_128 ?_
        have k148 := (f100 (by omega)).1
        have k149 : (h96.2.1 70 3).toInt ≤ 500 := (hv96.2.1 70 3).2
        refine go_invV (pc := 129) (sl := 0) (s_X8_here_ns_f l (d + 2) hv96 (f100 (by omega))) mL_X8_176 iM_X8_here sM_X8_here (hv96.sh rfl) rfl rfl rfl (Nat.le_of_ble_eq_true rfl) (show d + 2 + 1 + 1 ≤ d + 4 by omega) (show 8 + (1 + 11) + 40 * (d + 2 + 1) ≤ 40 * (d + 4) by omega) (g_c0 hv96.ln) (Nat.le_of_ble_eq_true rfl) dX8_readSet_129 ?_
        intro r h150 hq _
        obtain ⟨v153, rfl, v153l, v153u, rfl, f151, f152⟩ := hq
        replace f152 : PE _ _ := f152
        have k154 := bd_e k147 f152.symm
        refine gi_fst (pc := 132) (lo := -2147483648) (hi := 2147483647) (len := 260) hv96 (ti_rfl a2) (ti_rfl v153) rfl (by omega) (by omega) (fun _ => rfl) (ti_ge (ti_rfl v153)) (ti_le2 (ti_rfl v153)) (by omega) dX8_readSet_132 (fun h155 hv155 hv155e => ?_)
        have fx155 : FX KRt h h155 := FX.pI fx96 hv155e (by unfold KRt; omega)
        have k156 := bd_e k154 (st_I hv155e (ti_rfl v153))
        refine go_aload_n (pc := 133) rfl dX8_readSet_133 ?_
        refine go_dup (pc := 134) rfl dX8_readSet_134 ?_
        refine gi_get (pc := 135) (lo := 0) (hi := 500) hv155 fL_X8_163 rfl (Nat.le_of_ble_eq_true rfl) rfl rfl dX8_readSet_135 (fun v157 v157l v157u v157w => ?_)
        have v157r : u105 = h155.2.1 70 4 := (show u105 = h155.2.1 70 4 from by rw [hv155e]; exact (g_iI rfl u105w.symm).symm)
        have v157q : TI v157 u105.toInt := by rw [v157w.trans v157r.symm]; exact (ti_rfl u105)
        refine go_iconst (pc := 138) (v := 1) (by decide) dX8_readSet_138 ?_
        refine gf_iadd (pc := 139) v157q (ti_c (v := 1) (a := 1) (by decide)) (by omega) (by omega) dX8_readSet_139 (fun v158 e159 => ?_)
        have E155 : h155.2.1 = (w1 h96.2.1 83 a2.toInt (v153 : Int32)) := by
          rw [hv155e]
          rfl
        have oh155 : OH h.2.1 h155.2.1 S := by rw [E155]; exact (oh96.trans (OH.w 130 rfl (by omega) (by omega) (by omega) (by omega)))
        have kp155 : KP h.2.1 h155.2.1 := by rw [E155]; exact (kp96.trans (KP.w (by omega)))
        have n73_155 : V h155.2.1 73 S = V h96.2.1 73 S := by rw [E155, V_ne (by omega)]
        have n74_155 : V h155.2.1 74 S = V h96.2.1 74 S := by rw [E155, V_ne (by omega)]
        have n75_155 : V h155.2.1 75 S = V h96.2.1 75 S := by rw [E155, V_ne (by omega)]
        have ck155 : CKF h.2.1 → CKF h155.2.1 := fun z => by rw [E155]; exact (CKF.w (by omega) (ck96 z))
        refine gi_put (pc := 140) (lo := 0) (hi := 500) hv155 e159 (fP_X8_163 _) rfl (Nat.le_of_ble_eq_true rfl) rfl rfl (by omega) (by omega) rfl rfl (by decide) (by decide) (by decide) (by decide) dX8_readSet_140 (fun h160 hv160 hv160e => ?_)
        have fx160 : FX KRt h h160 := FX.pI fx155 hv160e (by unfold KRt; omega)
        have k161 := bd_e k156 (st_I hv160e e159)
        have ve160 : VE h155.2.1 h160.2.1 := VE.of hv155 hv160
        have oh160 : OH h.2.1 h160.2.1 S := oh155.trans (OH.of hv155 hv160 S)
        have kp160 : KP h.2.1 h160.2.1 := kp155.trans (KP.ve ve160)
        have ck160 : CKF h.2.1 → CKF h160.2.1 := fun z => CKF.ve ve160 (ck155 z)
        have n73_160 : V h160.2.1 73 S = V h155.2.1 73 S := ve160.v (by omega) (by omega)
        have n74_160 : V h160.2.1 74 S = V h155.2.1 74 S := ve160.v (by omega) (by omega)
        have n75_160 : V h160.2.1 75 S = V h155.2.1 75 S := ve160.v (by omega) (by omega)
        refine go_aload_n (pc := 143) rfl dX8_readSet_143 ?_
        refine go_iload_n (pc := 144) rfl dX8_readSet_144 ?_
        refine go_iconst (pc := 145) (v := 1) (by decide) dX8_readSet_145 ?_
        have sM162 : (h160.2.1 70 6).toInt = S := (congrArg Int32.toInt oh160.side).trans hS.symm
        have g163 : (0 : Int) ≤ (h160.2.1 70 4).toInt := (hv160.2.1 70 4).1
        have g164 : (h160.2.1 70 4).toInt ≤ 500 := (hv160.2.1 70 4).2
        have g165 : (-2147483648 : Int) ≤ (h160.2.1 70 5).toInt := (hv160.2.1 70 5).1
        have g166 : (h160.2.1 70 5).toInt ≤ 2147483647 := (hv160.2.1 70 5).2
        have g167 : (h160.2.1 70 5).toInt = u107.toInt := by rw [← (show u107 = h160.2.1 70 5 from (show u107 = h160.2.1 70 5 from by rw [hv160e]; exact (g_iI rfl (show u107 = h155.2.1 70 5 from by rw [hv155e]; exact (g_iI rfl u107w.symm).symm).symm).symm))] <;> exact (ti_rfl u107)
        have g168 : (h160.2.1 70 4).toInt = (u105.toInt + 1) := by rw [← (show v158 = h160.2.1 70 4 from (show v158 = h160.2.1 70 4 from by rw [hv160e]; exact g_iS.symm))] <;> exact e159
        refine go_invV (pc := 146) (sl := 0) (s_X8_operand_f l (d + 0) hv160 a2 (by rw [show (a2 : Int32).toInt = a2.toInt from (ti_rfl a2)]; omega) (by rw [show (a2 : Int32).toInt = a2.toInt from (ti_rfl a2)]; omega) 1 (by rw [show (1 : Int32).toInt = 1 from (ti_c (v := 1) (a := 1) (by decide))]; omega) (by rw [show (1 : Int32).toInt = 1 from (ti_c (v := 1) (a := 1) (by decide))]; omega) (by rw [sM162]; exact hi)) mL_X8_218 iM_X8_operand sM_X8_operand (hv160.sh rfl) rfl rfl rfl (Nat.le_of_ble_eq_true rfl) (show d + 0 + 3 + 1 ≤ d + 4 by omega) (show 8 + (7 + 11) + 40 * (d + 0 + 3) ≤ 40 * (d + 4) by omega) (g_c0 hv160.ln) (Nat.le_of_ble_eq_true rfl) dX8_readSet_146 ?_
        intro r h169 hq _
        obtain ⟨rfl, ⟨Q170, hv169, sq171⟩, f172, f173, f174, f175, f176, f177, f178, f179, f180, f181, f182⟩ := hq
        rw [sM162] at f175
        rw [sM162] at f176
        rw [sM162] at f177
        rw [sM162] at f181
        have oh169 : OH h.2.1 h169.2.1 S := oh160.trans f181
        have kp169 : KP h.2.1 h169.2.1 := kp160.trans f180
        have ck169 : CKF h.2.1 → CKF h169.2.1 := fun z => f182 (ck160 z)
        try rw [show (1 : Int32).toInt = 1 from (ti_c (v := 1) (a := 1) (by decide))] at f172
        try rw [show (1 : Int32).toInt = 1 from (ti_c (v := 1) (a := 1) (by decide))] at f173
        try rw [show (1 : Int32).toInt = 1 from (ti_c (v := 1) (a := 1) (by decide))] at f174
        try rw [show (1 : Int32).toInt = 1 from (ti_c (v := 1) (a := 1) (by decide))] at f175
        try rw [show (1 : Int32).toInt = 1 from (ti_c (v := 1) (a := 1) (by decide))] at f176
        try rw [show (1 : Int32).toInt = 1 from (ti_c (v := 1) (a := 1) (by decide))] at f177
        try rw [show (1 : Int32).toInt = 1 from (ti_c (v := 1) (a := 1) (by decide))] at f178
        try rw [show (1 : Int32).toInt = 1 from (ti_c (v := 1) (a := 1) (by decide))] at f179
        try rw [show (1 : Int32).toInt = 1 from (ti_c (v := 1) (a := 1) (by decide))] at f180
        try rw [show (1 : Int32).toInt = 1 from (ti_c (v := 1) (a := 1) (by decide))] at f181
        try rw [show (1 : Int32).toInt = 1 from (ti_c (v := 1) (a := 1) (by decide))] at f182
        have fx169 : FX KRt h h169 := FX.tr fx160 f179
        have k183 := bd_e k161 f178.symm
        obtain ⟨u184, u184w⟩ : ∃ v : Int32, v = h169.2.1 70 4 := ⟨_, rfl⟩
        have u184e : (h169.2.1 70 4).toInt = u184.toInt := by rw [u184w]
        have u184l : 0 ≤ u184.toInt := by rw [u184w]; exact (hv169.2.1 70 4).1
        have u184u : u184.toInt ≤ 500 := by rw [u184w]; exact (hv169.2.1 70 4).2
        have k185 := k183
        obtain ⟨u186, u186w⟩ : ∃ v : Int32, v = h169.2.1 70 5 := ⟨_, rfl⟩
        have u186e : (h169.2.1 70 5).toInt = u186.toInt := by rw [u186w]
        have u186l : -2147483648 ≤ u186.toInt := by rw [u186w]; exact (hv169.2.1 70 5).1
        have u186u : u186.toInt ≤ 2147483647 := by rw [u186w]; exact (hv169.2.1 70 5).2
        have k187 := k185
        refine go_aload_n (pc := 149) rfl dX8_readSet_149 ?_
        refine go_bipush (pc := 150) (v := 59) (by decide) dX8_readSet_150 ?_
        have g188 : (0 : Int) ≤ (h169.2.1 70 4).toInt := (hv169.2.1 70 4).1
        have g189 : (h169.2.1 70 4).toInt ≤ 500 := (hv169.2.1 70 4).2
        have g190 : (-2147483648 : Int) ≤ (h169.2.1 70 5).toInt := (hv169.2.1 70 5).1
        have g191 : (h169.2.1 70 5).toInt ≤ 2147483647 := (hv169.2.1 70 5).2
        have g192 : (h169.2.1 70 4).toInt = u184.toInt := by rw [← (show u184 = h169.2.1 70 4 from u184w)] <;> exact (ti_rfl u184)
        have g193 : (h169.2.1 70 5).toInt = u186.toInt := by rw [← (show u186 = h169.2.1 70 5 from u186w)] <;> exact (ti_rfl u186)
        refine go_invV (pc := 152) (sl := 0) (s_X8_must_f l (d + 1) hv169 59 (by rw [show (59 : Int32).toInt = 59 from (ti_c (v := 59) (a := 59) (by decide))]; omega) (by rw [show (59 : Int32).toInt = 59 from (ti_c (v := 59) (a := 59) (by decide))]; omega)) mL_X8_198 iM_X8_must sM_X8_must (hv169.sh rfl) rfl rfl rfl (Nat.le_of_ble_eq_true rfl) (show d + 1 + 2 + 1 ≤ d + 4 by omega) (show 8 + (2 + 11) + 40 * (d + 1 + 2) ≤ 40 * (d + 4) by omega) (g_c0 hv169.ln) (Nat.le_of_ble_eq_true rfl) dX8_readSet_152 ?_
        intro r h194 hq _
        obtain ⟨rfl, hv194, f195, f196, f197, f198, f199⟩ := hq
        try rw [show (59 : Int32).toInt = 59 from (ti_c (v := 59) (a := 59) (by decide))] at f195
        try rw [show (59 : Int32).toInt = 59 from (ti_c (v := 59) (a := 59) (by decide))] at f196
        try rw [show (59 : Int32).toInt = 59 from (ti_c (v := 59) (a := 59) (by decide))] at f197
        try rw [show (59 : Int32).toInt = 59 from (ti_c (v := 59) (a := 59) (by decide))] at f198
        try rw [show (59 : Int32).toInt = 59 from (ti_c (v := 59) (a := 59) (by decide))] at f199
        have fx194 : FX KRt h h194 := FX.tr fx169 f199
        have k200 := bd_e k187 f198.symm
        have ve194 : VE h169.2.1 h194.2.1 := VE.of hv169 hv194
        have oh194 : OH h.2.1 h194.2.1 S := oh169.trans (OH.of hv169 hv194 S)
        have kp194 : KP h.2.1 h194.2.1 := kp169.trans (KP.ve ve194)
        have ck194 : CKF h.2.1 → CKF h194.2.1 := fun z => CKF.ve ve194 (ck169 z)
        have n73_194 : V h194.2.1 73 S = V h169.2.1 73 S := ve194.v (by omega) (by omega)
        have n74_194 : V h194.2.1 74 S = V h169.2.1 74 S := ve194.v (by omega) (by omega)
        have n75_194 : V h194.2.1 75 S = V h169.2.1 75 S := ve194.v (by omega) (by omega)
        obtain ⟨u201, u201w⟩ : ∃ v : Int32, v = h194.2.1 70 4 := ⟨_, rfl⟩
        have u201e : (h194.2.1 70 4).toInt = u201.toInt := by rw [u201w]
        have u201l : 0 ≤ u201.toInt := by rw [u201w]; exact (hv194.2.1 70 4).1
        have u201u : u201.toInt ≤ 500 := by rw [u201w]; exact (hv194.2.1 70 4).2
        have k202 := k200
        obtain ⟨u203, u203w⟩ : ∃ v : Int32, v = h194.2.1 70 5 := ⟨_, rfl⟩
        have u203e : (h194.2.1 70 5).toInt = u203.toInt := by rw [u203w]
        have u203l : -2147483648 ≤ u203.toInt := by rw [u203w]; exact (hv194.2.1 70 5).1
        have u203u : u203.toInt ≤ 2147483647 := by rw [u203w]; exact (hv194.2.1 70 5).2
        have k204 := k202
        have g205 : (0 : Int) ≤ (h194.2.1 70 4).toInt := (hv194.2.1 70 4).1
        have g206 : (h194.2.1 70 4).toInt ≤ 500 := (hv194.2.1 70 4).2
        have g207 : (-2147483648 : Int) ≤ (h194.2.1 70 5).toInt := (hv194.2.1 70 5).1
        have g208 : (h194.2.1 70 5).toInt ≤ 2147483647 := (hv194.2.1 70 5).2
        have g209 : (h194.2.1 70 4).toInt = u201.toInt := by rw [← (show u201 = h194.2.1 70 4 from u201w)] <;> exact (ti_rfl u201)
        have g210 : (h194.2.1 70 5).toInt = u203.toInt := by rw [← (show u203 = h194.2.1 70 5 from u203w)] <;> exact (ti_rfl u203)
        have pp211 : (h194.2.1 70 5).toInt = 0 → (h.2.1 70 5).toInt = 0 := (by omega)
        have pp212 : (h.2.1 70 4).toInt ≤ (h194.2.1 70 4).toInt := (by omega)
        have pp213 : V h194.2.1 73 S = V h.2.1 73 S := (by omega)
        have pp214 : V h194.2.1 74 S = V h.2.1 74 S := (by omega)
        have pp215 : V h194.2.1 75 S = V h.2.1 75 S := (by omega)
        have pp216 : (h194.2.1 70 5).toInt = 0 → ∀ d : Int, V h.2.1 77 a2.toInt = 0 → V h.2.1 82 a2.toInt = a3.toInt → RT h.2.1 h194.2.1 S a2.toInt d := (fun hg d k1 k2 => RT.op ((((((((OP.rfl _).trans (OP.ve ve5)).trans (f36 (by omega))).trans (OP.ve ve96)).trans (by rw [E155]; exact ((OP.rfl _).trans OP.w3))).trans (OP.ve ve160)).trans (f174 (by omega))).trans (OP.ve ve194)) (by omega) (by omega) (by omega))
        have pp217 : st h194 = f_X8_readSet (st h) a2.toInt a3.toInt := (k204.symm.trans kf)
        have pp218 : FX KRt h h194 := fx194
        subst hS
        exact gi_vret (pc := 155) ⟨rfl, ⟨_, hv194, (MW.trans (MW.trans sq33 (MW.mz _ _)) sq171)⟩, pp211, pp212, pp213, pp214, pp215, pp216, pp217, pp218, kp194, oh194, ck194⟩ hv194 dX8_readSet_155
  ·
    have k219 := if_f k21 q22
    refine go_iload_n (pc := 13) rfl dX8_readSet_13 ?_
    refine go_bipush (pc := 14) (v := 6) (by decide) dX8_readSet_14 ?_
    refine gf_icmp_ge (pc := 16) (tgt := 100) (ti_rfl a3) (ti_c (v := 6) (a := 6) (by decide)) (by decide) dX8_readSet_16 (fun q220 => ?_) (fun q220 => ?_)
    ·
      have k221 := if_t k219 q220
      refine go_aload_n (pc := 100) rfl dX8_readSet_100 ?_
      refine go_iload_n (pc := 101) rfl dX8_readSet_101 ?_
      refine go_iconst (pc := 102) (v := 0) (by decide) dX8_readSet_102 ?_
      have sM222 : (h5.2.1 70 6).toInt = S := (congrArg Int32.toInt oh5.side).trans hS.symm
      have g223 : (0 : Int) ≤ (h5.2.1 70 4).toInt := (hv5.2.1 70 4).1
      have g224 : (h5.2.1 70 4).toInt ≤ 500 := (hv5.2.1 70 4).2
      have g225 : (-2147483648 : Int) ≤ (h5.2.1 70 5).toInt := (hv5.2.1 70 5).1
      have g226 : (h5.2.1 70 5).toInt ≤ 2147483647 := (hv5.2.1 70 5).2
      have g227 : (h5.2.1 70 4).toInt = u12.toInt := by rw [← (show u12 = h5.2.1 70 4 from u12w)] <;> exact (ti_rfl u12)
      have g228 : (h5.2.1 70 5).toInt = u14.toInt := by rw [← (show u14 = h5.2.1 70 5 from u14w)] <;> exact (ti_rfl u14)
      refine go_invV (pc := 103) (sl := 0) (s_X8_operand_f l (d + 0) hv5 a2 (by rw [show (a2 : Int32).toInt = a2.toInt from (ti_rfl a2)]; omega) (by rw [show (a2 : Int32).toInt = a2.toInt from (ti_rfl a2)]; omega) 0 (by rw [show (0 : Int32).toInt = 0 from (ti_c (v := 0) (a := 0) (by decide))]; omega) (by rw [show (0 : Int32).toInt = 0 from (ti_c (v := 0) (a := 0) (by decide))]; omega) (by rw [sM222]; exact hi)) mL_X8_218 iM_X8_operand sM_X8_operand (hv5.sh rfl) rfl rfl rfl (Nat.le_of_ble_eq_true rfl) (show d + 0 + 3 + 1 ≤ d + 4 by omega) (show 8 + (7 + 11) + 40 * (d + 0 + 3) ≤ 40 * (d + 4) by omega) (g_c0 hv5.ln) (Nat.le_of_ble_eq_true rfl) dX8_readSet_103 ?_
      intro r h229 hq _
      obtain ⟨rfl, ⟨Q230, hv229, sq231⟩, f232, f233, f234, f235, f236, f237, f238, f239, f240, f241, f242⟩ := hq
      rw [sM222] at f235
      rw [sM222] at f236
      rw [sM222] at f237
      rw [sM222] at f241
      have oh229 : OH h.2.1 h229.2.1 S := oh5.trans f241
      have kp229 : KP h.2.1 h229.2.1 := kp5.trans f240
      have ck229 : CKF h.2.1 → CKF h229.2.1 := fun z => f242 (ck5 z)
      try rw [show (0 : Int32).toInt = 0 from (ti_c (v := 0) (a := 0) (by decide))] at f232
      try rw [show (0 : Int32).toInt = 0 from (ti_c (v := 0) (a := 0) (by decide))] at f233
      try rw [show (0 : Int32).toInt = 0 from (ti_c (v := 0) (a := 0) (by decide))] at f234
      try rw [show (0 : Int32).toInt = 0 from (ti_c (v := 0) (a := 0) (by decide))] at f235
      try rw [show (0 : Int32).toInt = 0 from (ti_c (v := 0) (a := 0) (by decide))] at f236
      try rw [show (0 : Int32).toInt = 0 from (ti_c (v := 0) (a := 0) (by decide))] at f237
      try rw [show (0 : Int32).toInt = 0 from (ti_c (v := 0) (a := 0) (by decide))] at f238
      try rw [show (0 : Int32).toInt = 0 from (ti_c (v := 0) (a := 0) (by decide))] at f239
      try rw [show (0 : Int32).toInt = 0 from (ti_c (v := 0) (a := 0) (by decide))] at f240
      try rw [show (0 : Int32).toInt = 0 from (ti_c (v := 0) (a := 0) (by decide))] at f241
      try rw [show (0 : Int32).toInt = 0 from (ti_c (v := 0) (a := 0) (by decide))] at f242
      have fx229 : FX KRt h h229 := FX.tr fx5 f239
      have k243 := bd_e k221 f238.symm
      obtain ⟨u244, u244w⟩ : ∃ v : Int32, v = h229.2.1 70 4 := ⟨_, rfl⟩
      have u244e : (h229.2.1 70 4).toInt = u244.toInt := by rw [u244w]
      have u244l : 0 ≤ u244.toInt := by rw [u244w]; exact (hv229.2.1 70 4).1
      have u244u : u244.toInt ≤ 500 := by rw [u244w]; exact (hv229.2.1 70 4).2
      have k245 := k243
      obtain ⟨u246, u246w⟩ : ∃ v : Int32, v = h229.2.1 70 5 := ⟨_, rfl⟩
      have u246e : (h229.2.1 70 5).toInt = u246.toInt := by rw [u246w]
      have u246l : -2147483648 ≤ u246.toInt := by rw [u246w]; exact (hv229.2.1 70 5).1
      have u246u : u246.toInt ≤ 2147483647 := by rw [u246w]; exact (hv229.2.1 70 5).2
      have k247 := k245
      refine go_aload_n (pc := 106) rfl dX8_readSet_106 ?_
      refine go_invV (pc := 107) (sl := 0) (s_X8_isGood_f l (d + 2) hv229 ) mL_X8_172 iM_X8_isGood sM_X8_isGood (hv229.sh rfl) rfl rfl rfl (Nat.le_of_ble_eq_true rfl) (show d + 2 + 1 + 1 ≤ d + 4 by omega) (show 8 + (1 + 11) + 40 * (d + 2 + 1) ≤ 40 * (d + 4) by omega) (g_c0 hv229.ln) (Nat.le_of_ble_eq_true rfl) dX8_readSet_107 ?_
      intro r h248 hq _
      obtain ⟨v252, rfl, v252l, v252u, rfl, f249, f250, f251⟩ := hq
      replace f251 : PE _ _ := f251
      have k253 := bd_e k247 f251.symm
      refine gf_if_eq (pc := 110) (tgt := 149) (ti_rfl v252) (by decide) dX8_readSet_110 (fun q254 => ?_) (fun q254 => ?_)
      ·
        have k255 := if_t k253 q254
        refine go_aload_n (pc := 149) rfl dX8_readSet_149 ?_
        refine go_bipush (pc := 150) (v := 59) (by decide) dX8_readSet_150 ?_
        have g256 : (0 : Int) ≤ (h229.2.1 70 4).toInt := (hv229.2.1 70 4).1
        have g257 : (h229.2.1 70 4).toInt ≤ 500 := (hv229.2.1 70 4).2
        have g258 : (-2147483648 : Int) ≤ (h229.2.1 70 5).toInt := (hv229.2.1 70 5).1
        have g259 : (h229.2.1 70 5).toInt ≤ 2147483647 := (hv229.2.1 70 5).2
        have g260 : (h229.2.1 70 4).toInt = u244.toInt := by rw [← (show u244 = h229.2.1 70 4 from u244w)] <;> exact (ti_rfl u244)
        have g261 : (h229.2.1 70 5).toInt = u246.toInt := by rw [← (show u246 = h229.2.1 70 5 from u246w)] <;> exact (ti_rfl u246)
        refine go_invV (pc := 152) (sl := 0) (s_X8_must_f l (d + 1) hv229 59 (by rw [show (59 : Int32).toInt = 59 from (ti_c (v := 59) (a := 59) (by decide))]; omega) (by rw [show (59 : Int32).toInt = 59 from (ti_c (v := 59) (a := 59) (by decide))]; omega)) mL_X8_198 iM_X8_must sM_X8_must (hv229.sh rfl) rfl rfl rfl (Nat.le_of_ble_eq_true rfl) (show d + 1 + 2 + 1 ≤ d + 4 by omega) (show 8 + (2 + 11) + 40 * (d + 1 + 2) ≤ 40 * (d + 4) by omega) (g_c0 hv229.ln) (Nat.le_of_ble_eq_true rfl) dX8_readSet_152 ?_
        intro r h262 hq _
        obtain ⟨rfl, hv262, f263, f264, f265, f266, f267⟩ := hq
        try rw [show (59 : Int32).toInt = 59 from (ti_c (v := 59) (a := 59) (by decide))] at f263
        try rw [show (59 : Int32).toInt = 59 from (ti_c (v := 59) (a := 59) (by decide))] at f264
        try rw [show (59 : Int32).toInt = 59 from (ti_c (v := 59) (a := 59) (by decide))] at f265
        try rw [show (59 : Int32).toInt = 59 from (ti_c (v := 59) (a := 59) (by decide))] at f266
        try rw [show (59 : Int32).toInt = 59 from (ti_c (v := 59) (a := 59) (by decide))] at f267
        have fx262 : FX KRt h h262 := FX.tr fx229 f267
        have k268 := bd_e k255 f266.symm
        have ve262 : VE h229.2.1 h262.2.1 := VE.of hv229 hv262
        have oh262 : OH h.2.1 h262.2.1 S := oh229.trans (OH.of hv229 hv262 S)
        have kp262 : KP h.2.1 h262.2.1 := kp229.trans (KP.ve ve262)
        have ck262 : CKF h.2.1 → CKF h262.2.1 := fun z => CKF.ve ve262 (ck229 z)
        have n73_262 : V h262.2.1 73 S = V h229.2.1 73 S := ve262.v (by omega) (by omega)
        have n74_262 : V h262.2.1 74 S = V h229.2.1 74 S := ve262.v (by omega) (by omega)
        have n75_262 : V h262.2.1 75 S = V h229.2.1 75 S := ve262.v (by omega) (by omega)
        obtain ⟨u269, u269w⟩ : ∃ v : Int32, v = h262.2.1 70 4 := ⟨_, rfl⟩
        have u269e : (h262.2.1 70 4).toInt = u269.toInt := by rw [u269w]
        have u269l : 0 ≤ u269.toInt := by rw [u269w]; exact (hv262.2.1 70 4).1
        have u269u : u269.toInt ≤ 500 := by rw [u269w]; exact (hv262.2.1 70 4).2
        have k270 := k268
        obtain ⟨u271, u271w⟩ : ∃ v : Int32, v = h262.2.1 70 5 := ⟨_, rfl⟩
        have u271e : (h262.2.1 70 5).toInt = u271.toInt := by rw [u271w]
        have u271l : -2147483648 ≤ u271.toInt := by rw [u271w]; exact (hv262.2.1 70 5).1
        have u271u : u271.toInt ≤ 2147483647 := by rw [u271w]; exact (hv262.2.1 70 5).2
        have k272 := k270
        have g273 : (0 : Int) ≤ (h262.2.1 70 4).toInt := (hv262.2.1 70 4).1
        have g274 : (h262.2.1 70 4).toInt ≤ 500 := (hv262.2.1 70 4).2
        have g275 : (-2147483648 : Int) ≤ (h262.2.1 70 5).toInt := (hv262.2.1 70 5).1
        have g276 : (h262.2.1 70 5).toInt ≤ 2147483647 := (hv262.2.1 70 5).2
        have g277 : (h262.2.1 70 4).toInt = u269.toInt := by rw [← (show u269 = h262.2.1 70 4 from u269w)] <;> exact (ti_rfl u269)
        have g278 : (h262.2.1 70 5).toInt = u271.toInt := by rw [← (show u271 = h262.2.1 70 5 from u271w)] <;> exact (ti_rfl u271)
        have pp279 : (h262.2.1 70 5).toInt = 0 → (h.2.1 70 5).toInt = 0 := (by omega)
        have pp280 : (h.2.1 70 4).toInt ≤ (h262.2.1 70 4).toInt := (by omega)
        have pp281 : V h262.2.1 73 S = V h.2.1 73 S := (by omega)
        have pp282 : V h262.2.1 74 S = V h.2.1 74 S := (by omega)
        have pp283 : V h262.2.1 75 S = V h.2.1 75 S := (by omega)
        have pp284 : (h262.2.1 70 5).toInt = 0 → ∀ d : Int, V h.2.1 77 a2.toInt = 0 → V h.2.1 82 a2.toInt = a3.toInt → RT h.2.1 h262.2.1 S a2.toInt d := (fun hg d k1 k2 => RT.op ((((OP.rfl _).trans (OP.ve ve5)).trans (f234 (by omega))).trans (OP.ve ve262)) (by omega) (by omega) (by omega))
        have pp285 : st h262 = f_X8_readSet (st h) a2.toInt a3.toInt := (k272.symm.trans kf)
        have pp286 : FX KRt h h262 := fx262
        subst hS
        exact gi_vret (pc := 155) ⟨rfl, ⟨_, hv262, sq231⟩, pp279, pp280, pp281, pp282, pp283, pp284, pp285, pp286, kp262, oh262, ck262⟩ hv262 dX8_readSet_155
      ·
        have k287 := if_f k253 q254
        refine go_aload_n (pc := 113) rfl dX8_readSet_113 ?_
        have g288 : (0 : Int) ≤ (h229.2.1 70 4).toInt := (hv229.2.1 70 4).1
        have g289 : (h229.2.1 70 4).toInt ≤ 500 := (hv229.2.1 70 4).2
        have g290 : (-2147483648 : Int) ≤ (h229.2.1 70 5).toInt := (hv229.2.1 70 5).1
        have g291 : (h229.2.1 70 5).toInt ≤ 2147483647 := (hv229.2.1 70 5).2
        have g292 : (h229.2.1 70 4).toInt = u244.toInt := by rw [← (show u244 = h229.2.1 70 4 from u244w)] <;> exact (ti_rfl u244)
        have g293 : (h229.2.1 70 5).toInt = u246.toInt := by rw [← (show u246 = h229.2.1 70 5 from u246w)] <;> exact (ti_rfl u246)
        refine go_invV (pc := 114) (sl := 0) (s_X8_here_f l (d + 2) hv229 ) mL_X8_176 iM_X8_here sM_X8_here (hv229.sh rfl) rfl rfl rfl (Nat.le_of_ble_eq_true rfl) (show d + 2 + 1 + 1 ≤ d + 4 by omega) (show 8 + (1 + 11) + 40 * (d + 2 + 1) ≤ 40 * (d + 4) by omega) (g_c0 hv229.ln) (Nat.le_of_ble_eq_true rfl) dX8_readSet_114 ?_
        intro r h294 hq _
        obtain ⟨v301, rfl, v301l, v301u, hv294, f295, f296, f297, f298, f299, f300⟩ := hq
        have fx294 : FX KRt h h294 := FX.tr fx229 f300
        have k302 := bd2_e k287 f299
        have ve294 : VE h229.2.1 h294.2.1 := VE.of hv229 hv294
        have oh294 : OH h.2.1 h294.2.1 S := oh229.trans (OH.of hv229 hv294 S)
        have kp294 : KP h.2.1 h294.2.1 := kp229.trans (KP.ve ve294)
        have ck294 : CKF h.2.1 → CKF h294.2.1 := fun z => CKF.ve ve294 (ck229 z)
        have n73_294 : V h294.2.1 73 S = V h229.2.1 73 S := ve294.v (by omega) (by omega)
        have n74_294 : V h294.2.1 74 S = V h229.2.1 74 S := ve294.v (by omega) (by omega)
        have n75_294 : V h294.2.1 75 S = V h229.2.1 75 S := ve294.v (by omega) (by omega)
        obtain ⟨u303, u303w⟩ : ∃ v : Int32, v = h294.2.1 70 4 := ⟨_, rfl⟩
        have u303e : (h294.2.1 70 4).toInt = u303.toInt := by rw [u303w]
        have u303l : 0 ≤ u303.toInt := by rw [u303w]; exact (hv294.2.1 70 4).1
        have u303u : u303.toInt ≤ 500 := by rw [u303w]; exact (hv294.2.1 70 4).2
        have k304 := bd_e k302 (congrArg Int32.toInt u303w.symm)
        obtain ⟨u305, u305w⟩ : ∃ v : Int32, v = h294.2.1 70 5 := ⟨_, rfl⟩
        have u305e : (h294.2.1 70 5).toInt = u305.toInt := by rw [u305w]
        have u305l : -2147483648 ≤ u305.toInt := by rw [u305w]; exact (hv294.2.1 70 5).1
        have u305u : u305.toInt ≤ 2147483647 := by rw [u305w]; exact (hv294.2.1 70 5).2
        have k306 := k304
        refine go_invS (pc := 117) (sl := 0) (s_X8_isSign_f l (d + 2) hv294 v301) mL_X8_220 iM_X8_isSign rfl rfl (Nat.le_of_ble_eq_true rfl) (show d + 2 + 1 + 1 ≤ d + 4 by omega) (show 8 + (1 + 11) + 40 * (d + 2 + 1) ≤ 40 * (d + 4) by omega) (g_c0 hv294.ln) (Nat.le_of_ble_eq_true rfl) dX8_readSet_117 ?_
        intro r h307 hq _
        obtain ⟨v310, rfl, v310l, v310u, rfl, f308, f309⟩ := hq
        replace f309 : PE _ _ := f309
        have k311 := bd_e k306 f309.symm
        refine gf_if_eq (pc := 120) (tgt := 149) (ti_rfl v310) (by decide) dX8_readSet_120 (fun q312 => ?_) (fun q312 => ?_)
        ·
          have k313 := if_t k311 q312
          refine go_aload_n (pc := 149) rfl dX8_readSet_149 ?_
          refine go_bipush (pc := 150) (v := 59) (by decide) dX8_readSet_150 ?_
          have g314 : (0 : Int) ≤ (h294.2.1 70 4).toInt := (hv294.2.1 70 4).1
          have g315 : (h294.2.1 70 4).toInt ≤ 500 := (hv294.2.1 70 4).2
          have g316 : (-2147483648 : Int) ≤ (h294.2.1 70 5).toInt := (hv294.2.1 70 5).1
          have g317 : (h294.2.1 70 5).toInt ≤ 2147483647 := (hv294.2.1 70 5).2
          have g318 : (h294.2.1 70 4).toInt = u303.toInt := by rw [← (show u303 = h294.2.1 70 4 from u303w)] <;> exact (ti_rfl u303)
          have g319 : (h294.2.1 70 5).toInt = u305.toInt := by rw [← (show u305 = h294.2.1 70 5 from u305w)] <;> exact (ti_rfl u305)
          refine go_invV (pc := 152) (sl := 0) (s_X8_must_f l (d + 1) hv294 59 (by rw [show (59 : Int32).toInt = 59 from (ti_c (v := 59) (a := 59) (by decide))]; omega) (by rw [show (59 : Int32).toInt = 59 from (ti_c (v := 59) (a := 59) (by decide))]; omega)) mL_X8_198 iM_X8_must sM_X8_must (hv294.sh rfl) rfl rfl rfl (Nat.le_of_ble_eq_true rfl) (show d + 1 + 2 + 1 ≤ d + 4 by omega) (show 8 + (2 + 11) + 40 * (d + 1 + 2) ≤ 40 * (d + 4) by omega) (g_c0 hv294.ln) (Nat.le_of_ble_eq_true rfl) dX8_readSet_152 ?_
          intro r h320 hq _
          obtain ⟨rfl, hv320, f321, f322, f323, f324, f325⟩ := hq
          try rw [show (59 : Int32).toInt = 59 from (ti_c (v := 59) (a := 59) (by decide))] at f321
          try rw [show (59 : Int32).toInt = 59 from (ti_c (v := 59) (a := 59) (by decide))] at f322
          try rw [show (59 : Int32).toInt = 59 from (ti_c (v := 59) (a := 59) (by decide))] at f323
          try rw [show (59 : Int32).toInt = 59 from (ti_c (v := 59) (a := 59) (by decide))] at f324
          try rw [show (59 : Int32).toInt = 59 from (ti_c (v := 59) (a := 59) (by decide))] at f325
          have fx320 : FX KRt h h320 := FX.tr fx294 f325
          have k326 := bd_e k313 f324.symm
          have ve320 : VE h294.2.1 h320.2.1 := VE.of hv294 hv320
          have oh320 : OH h.2.1 h320.2.1 S := oh294.trans (OH.of hv294 hv320 S)
          have kp320 : KP h.2.1 h320.2.1 := kp294.trans (KP.ve ve320)
          have ck320 : CKF h.2.1 → CKF h320.2.1 := fun z => CKF.ve ve320 (ck294 z)
          have n73_320 : V h320.2.1 73 S = V h294.2.1 73 S := ve320.v (by omega) (by omega)
          have n74_320 : V h320.2.1 74 S = V h294.2.1 74 S := ve320.v (by omega) (by omega)
          have n75_320 : V h320.2.1 75 S = V h294.2.1 75 S := ve320.v (by omega) (by omega)
          obtain ⟨u327, u327w⟩ : ∃ v : Int32, v = h320.2.1 70 4 := ⟨_, rfl⟩
          have u327e : (h320.2.1 70 4).toInt = u327.toInt := by rw [u327w]
          have u327l : 0 ≤ u327.toInt := by rw [u327w]; exact (hv320.2.1 70 4).1
          have u327u : u327.toInt ≤ 500 := by rw [u327w]; exact (hv320.2.1 70 4).2
          have k328 := k326
          obtain ⟨u329, u329w⟩ : ∃ v : Int32, v = h320.2.1 70 5 := ⟨_, rfl⟩
          have u329e : (h320.2.1 70 5).toInt = u329.toInt := by rw [u329w]
          have u329l : -2147483648 ≤ u329.toInt := by rw [u329w]; exact (hv320.2.1 70 5).1
          have u329u : u329.toInt ≤ 2147483647 := by rw [u329w]; exact (hv320.2.1 70 5).2
          have k330 := k328
          have g331 : (0 : Int) ≤ (h320.2.1 70 4).toInt := (hv320.2.1 70 4).1
          have g332 : (h320.2.1 70 4).toInt ≤ 500 := (hv320.2.1 70 4).2
          have g333 : (-2147483648 : Int) ≤ (h320.2.1 70 5).toInt := (hv320.2.1 70 5).1
          have g334 : (h320.2.1 70 5).toInt ≤ 2147483647 := (hv320.2.1 70 5).2
          have g335 : (h320.2.1 70 4).toInt = u327.toInt := by rw [← (show u327 = h320.2.1 70 4 from u327w)] <;> exact (ti_rfl u327)
          have g336 : (h320.2.1 70 5).toInt = u329.toInt := by rw [← (show u329 = h320.2.1 70 5 from u329w)] <;> exact (ti_rfl u329)
          have pp337 : (h320.2.1 70 5).toInt = 0 → (h.2.1 70 5).toInt = 0 := (by omega)
          have pp338 : (h.2.1 70 4).toInt ≤ (h320.2.1 70 4).toInt := (by omega)
          have pp339 : V h320.2.1 73 S = V h.2.1 73 S := (by omega)
          have pp340 : V h320.2.1 74 S = V h.2.1 74 S := (by omega)
          have pp341 : V h320.2.1 75 S = V h.2.1 75 S := (by omega)
          have pp342 : (h320.2.1 70 5).toInt = 0 → ∀ d : Int, V h.2.1 77 a2.toInt = 0 → V h.2.1 82 a2.toInt = a3.toInt → RT h.2.1 h320.2.1 S a2.toInt d := (fun hg d k1 k2 => RT.op (((((OP.rfl _).trans (OP.ve ve5)).trans (f234 (by omega))).trans (OP.ve ve294)).trans (OP.ve ve320)) (by omega) (by omega) (by omega))
          have pp343 : st h320 = f_X8_readSet (st h) a2.toInt a3.toInt := (k330.symm.trans kf)
          have pp344 : FX KRt h h320 := fx320
          subst hS
          exact gi_vret (pc := 155) ⟨rfl, ⟨_, hv320, sq231⟩, pp337, pp338, pp339, pp340, pp341, pp342, pp343, pp344, kp320, oh320, ck320⟩ hv320 dX8_readSet_155
        ·
          have k345 := if_f k311 q312
          refine go_aload_n (pc := 123) rfl dX8_readSet_123 ?_
          refine gi_getF (pc := 124) (q := 83) hv294 fL_X8_47 rfl (Nat.le_of_ble_eq_true rfl) rfl (hv294.rf (by decide)) dX8_readSet_124 ?_
          refine go_iload_n (pc := 127) rfl dX8_readSet_127 ?_
          refine go_aload_n (pc := 128) rfl dX8_readSet_128 ?_
          have k346 := (f298 (by omega)).1
          have k347 : (h294.2.1 70 3).toInt ≤ 500 := (hv294.2.1 70 3).2
          refine go_invV (pc := 129) (sl := 0) (s_X8_here_ns_f l (d + 2) hv294 (f298 (by omega))) mL_X8_176 iM_X8_here sM_X8_here (hv294.sh rfl) rfl rfl rfl (Nat.le_of_ble_eq_true rfl) (show d + 2 + 1 + 1 ≤ d + 4 by omega) (show 8 + (1 + 11) + 40 * (d + 2 + 1) ≤ 40 * (d + 4) by omega) (g_c0 hv294.ln) (Nat.le_of_ble_eq_true rfl) dX8_readSet_129 ?_
          intro r h348 hq _
          obtain ⟨v351, rfl, v351l, v351u, rfl, f349, f350⟩ := hq
          replace f350 : PE _ _ := f350
          have k352 := bd_e k345 f350.symm
          refine gi_fst (pc := 132) (lo := -2147483648) (hi := 2147483647) (len := 260) hv294 (ti_rfl a2) (ti_rfl v351) rfl (by omega) (by omega) (fun _ => rfl) (ti_ge (ti_rfl v351)) (ti_le2 (ti_rfl v351)) (by omega) dX8_readSet_132 (fun h353 hv353 hv353e => ?_)
          have fx353 : FX KRt h h353 := FX.pI fx294 hv353e (by unfold KRt; omega)
          have k354 := bd_e k352 (st_I hv353e (ti_rfl v351))
          refine go_aload_n (pc := 133) rfl dX8_readSet_133 ?_
          refine go_dup (pc := 134) rfl dX8_readSet_134 ?_
          refine gi_get (pc := 135) (lo := 0) (hi := 500) hv353 fL_X8_163 rfl (Nat.le_of_ble_eq_true rfl) rfl rfl dX8_readSet_135 (fun v355 v355l v355u v355w => ?_)
          have v355r : u303 = h353.2.1 70 4 := (show u303 = h353.2.1 70 4 from by rw [hv353e]; exact (g_iI rfl u303w.symm).symm)
          have v355q : TI v355 u303.toInt := by rw [v355w.trans v355r.symm]; exact (ti_rfl u303)
          refine go_iconst (pc := 138) (v := 1) (by decide) dX8_readSet_138 ?_
          refine gf_iadd (pc := 139) v355q (ti_c (v := 1) (a := 1) (by decide)) (by omega) (by omega) dX8_readSet_139 (fun v356 e357 => ?_)
          have E353 : h353.2.1 = (w1 h294.2.1 83 a2.toInt (v351 : Int32)) := by
            rw [hv353e]
            rfl
          have oh353 : OH h.2.1 h353.2.1 S := by rw [E353]; exact (oh294.trans (OH.w 130 rfl (by omega) (by omega) (by omega) (by omega)))
          have kp353 : KP h.2.1 h353.2.1 := by rw [E353]; exact (kp294.trans (KP.w (by omega)))
          have n73_353 : V h353.2.1 73 S = V h294.2.1 73 S := by rw [E353, V_ne (by omega)]
          have n74_353 : V h353.2.1 74 S = V h294.2.1 74 S := by rw [E353, V_ne (by omega)]
          have n75_353 : V h353.2.1 75 S = V h294.2.1 75 S := by rw [E353, V_ne (by omega)]
          have ck353 : CKF h.2.1 → CKF h353.2.1 := fun z => by rw [E353]; exact (CKF.w (by omega) (ck294 z))
          refine gi_put (pc := 140) (lo := 0) (hi := 500) hv353 e357 (fP_X8_163 _) rfl (Nat.le_of_ble_eq_true rfl) rfl rfl (by omega) (by omega) rfl rfl (by decide) (by decide) (by decide) (by decide) dX8_readSet_140 (fun h358 hv358 hv358e => ?_)
          have fx358 : FX KRt h h358 := FX.pI fx353 hv358e (by unfold KRt; omega)
          have k359 := bd_e k354 (st_I hv358e e357)
          have ve358 : VE h353.2.1 h358.2.1 := VE.of hv353 hv358
          have oh358 : OH h.2.1 h358.2.1 S := oh353.trans (OH.of hv353 hv358 S)
          have kp358 : KP h.2.1 h358.2.1 := kp353.trans (KP.ve ve358)
          have ck358 : CKF h.2.1 → CKF h358.2.1 := fun z => CKF.ve ve358 (ck353 z)
          have n73_358 : V h358.2.1 73 S = V h353.2.1 73 S := ve358.v (by omega) (by omega)
          have n74_358 : V h358.2.1 74 S = V h353.2.1 74 S := ve358.v (by omega) (by omega)
          have n75_358 : V h358.2.1 75 S = V h353.2.1 75 S := ve358.v (by omega) (by omega)
          refine go_aload_n (pc := 143) rfl dX8_readSet_143 ?_
          refine go_iload_n (pc := 144) rfl dX8_readSet_144 ?_
          refine go_iconst (pc := 145) (v := 1) (by decide) dX8_readSet_145 ?_
          have sM360 : (h358.2.1 70 6).toInt = S := (congrArg Int32.toInt oh358.side).trans hS.symm
          have g361 : (0 : Int) ≤ (h358.2.1 70 4).toInt := (hv358.2.1 70 4).1
          have g362 : (h358.2.1 70 4).toInt ≤ 500 := (hv358.2.1 70 4).2
          have g363 : (-2147483648 : Int) ≤ (h358.2.1 70 5).toInt := (hv358.2.1 70 5).1
          have g364 : (h358.2.1 70 5).toInt ≤ 2147483647 := (hv358.2.1 70 5).2
          have g365 : (h358.2.1 70 5).toInt = u305.toInt := by rw [← (show u305 = h358.2.1 70 5 from (show u305 = h358.2.1 70 5 from by rw [hv358e]; exact (g_iI rfl (show u305 = h353.2.1 70 5 from by rw [hv353e]; exact (g_iI rfl u305w.symm).symm).symm).symm))] <;> exact (ti_rfl u305)
          have g366 : (h358.2.1 70 4).toInt = (u303.toInt + 1) := by rw [← (show v356 = h358.2.1 70 4 from (show v356 = h358.2.1 70 4 from by rw [hv358e]; exact g_iS.symm))] <;> exact e357
          refine go_invV (pc := 146) (sl := 0) (s_X8_operand_f l (d + 0) hv358 a2 (by rw [show (a2 : Int32).toInt = a2.toInt from (ti_rfl a2)]; omega) (by rw [show (a2 : Int32).toInt = a2.toInt from (ti_rfl a2)]; omega) 1 (by rw [show (1 : Int32).toInt = 1 from (ti_c (v := 1) (a := 1) (by decide))]; omega) (by rw [show (1 : Int32).toInt = 1 from (ti_c (v := 1) (a := 1) (by decide))]; omega) (by rw [sM360]; exact hi)) mL_X8_218 iM_X8_operand sM_X8_operand (hv358.sh rfl) rfl rfl rfl (Nat.le_of_ble_eq_true rfl) (show d + 0 + 3 + 1 ≤ d + 4 by omega) (show 8 + (7 + 11) + 40 * (d + 0 + 3) ≤ 40 * (d + 4) by omega) (g_c0 hv358.ln) (Nat.le_of_ble_eq_true rfl) dX8_readSet_146 ?_
          intro r h367 hq _
          obtain ⟨rfl, ⟨Q368, hv367, sq369⟩, f370, f371, f372, f373, f374, f375, f376, f377, f378, f379, f380⟩ := hq
          rw [sM360] at f373
          rw [sM360] at f374
          rw [sM360] at f375
          rw [sM360] at f379
          have oh367 : OH h.2.1 h367.2.1 S := oh358.trans f379
          have kp367 : KP h.2.1 h367.2.1 := kp358.trans f378
          have ck367 : CKF h.2.1 → CKF h367.2.1 := fun z => f380 (ck358 z)
          try rw [show (1 : Int32).toInt = 1 from (ti_c (v := 1) (a := 1) (by decide))] at f370
          try rw [show (1 : Int32).toInt = 1 from (ti_c (v := 1) (a := 1) (by decide))] at f371
          try rw [show (1 : Int32).toInt = 1 from (ti_c (v := 1) (a := 1) (by decide))] at f372
          try rw [show (1 : Int32).toInt = 1 from (ti_c (v := 1) (a := 1) (by decide))] at f373
          try rw [show (1 : Int32).toInt = 1 from (ti_c (v := 1) (a := 1) (by decide))] at f374
          try rw [show (1 : Int32).toInt = 1 from (ti_c (v := 1) (a := 1) (by decide))] at f375
          try rw [show (1 : Int32).toInt = 1 from (ti_c (v := 1) (a := 1) (by decide))] at f376
          try rw [show (1 : Int32).toInt = 1 from (ti_c (v := 1) (a := 1) (by decide))] at f377
          try rw [show (1 : Int32).toInt = 1 from (ti_c (v := 1) (a := 1) (by decide))] at f378
          try rw [show (1 : Int32).toInt = 1 from (ti_c (v := 1) (a := 1) (by decide))] at f379
          try rw [show (1 : Int32).toInt = 1 from (ti_c (v := 1) (a := 1) (by decide))] at f380
          have fx367 : FX KRt h h367 := FX.tr fx358 f377
          have k381 := bd_e k359 f376.symm
          obtain ⟨u382, u382w⟩ : ∃ v : Int32, v = h367.2.1 70 4 := ⟨_, rfl⟩
          have u382e : (h367.2.1 70 4).toInt = u382.toInt := by rw [u382w]
          have u382l : 0 ≤ u382.toInt := by rw [u382w]; exact (hv367.2.1 70 4).1
          have u382u : u382.toInt ≤ 500 := by rw [u382w]; exact (hv367.2.1 70 4).2
          have k383 := k381
          obtain ⟨u384, u384w⟩ : ∃ v : Int32, v = h367.2.1 70 5 := ⟨_, rfl⟩
          have u384e : (h367.2.1 70 5).toInt = u384.toInt := by rw [u384w]
          have u384l : -2147483648 ≤ u384.toInt := by rw [u384w]; exact (hv367.2.1 70 5).1
          have u384u : u384.toInt ≤ 2147483647 := by rw [u384w]; exact (hv367.2.1 70 5).2
          have k385 := k383
          refine go_aload_n (pc := 149) rfl dX8_readSet_149 ?_
          refine go_bipush (pc := 150) (v := 59) (by decide) dX8_readSet_150 ?_
          have g386 : (0 : Int) ≤ (h367.2.1 70 4).toInt := (hv367.2.1 70 4).1
          have g387 : (h367.2.1 70 4).toInt ≤ 500 := (hv367.2.1 70 4).2
          have g388 : (-2147483648 : Int) ≤ (h367.2.1 70 5).toInt := (hv367.2.1 70 5).1
          have g389 : (h367.2.1 70 5).toInt ≤ 2147483647 := (hv367.2.1 70 5).2
          have g390 : (h367.2.1 70 4).toInt = u382.toInt := by rw [← (show u382 = h367.2.1 70 4 from u382w)] <;> exact (ti_rfl u382)
          have g391 : (h367.2.1 70 5).toInt = u384.toInt := by rw [← (show u384 = h367.2.1 70 5 from u384w)] <;> exact (ti_rfl u384)
          refine go_invV (pc := 152) (sl := 0) (s_X8_must_f l (d + 1) hv367 59 (by rw [show (59 : Int32).toInt = 59 from (ti_c (v := 59) (a := 59) (by decide))]; omega) (by rw [show (59 : Int32).toInt = 59 from (ti_c (v := 59) (a := 59) (by decide))]; omega)) mL_X8_198 iM_X8_must sM_X8_must (hv367.sh rfl) rfl rfl rfl (Nat.le_of_ble_eq_true rfl) (show d + 1 + 2 + 1 ≤ d + 4 by omega) (show 8 + (2 + 11) + 40 * (d + 1 + 2) ≤ 40 * (d + 4) by omega) (g_c0 hv367.ln) (Nat.le_of_ble_eq_true rfl) dX8_readSet_152 ?_
          intro r h392 hq _
          obtain ⟨rfl, hv392, f393, f394, f395, f396, f397⟩ := hq
          try rw [show (59 : Int32).toInt = 59 from (ti_c (v := 59) (a := 59) (by decide))] at f393
          try rw [show (59 : Int32).toInt = 59 from (ti_c (v := 59) (a := 59) (by decide))] at f394
          try rw [show (59 : Int32).toInt = 59 from (ti_c (v := 59) (a := 59) (by decide))] at f395
          try rw [show (59 : Int32).toInt = 59 from (ti_c (v := 59) (a := 59) (by decide))] at f396
          try rw [show (59 : Int32).toInt = 59 from (ti_c (v := 59) (a := 59) (by decide))] at f397
          have fx392 : FX KRt h h392 := FX.tr fx367 f397
          have k398 := bd_e k385 f396.symm
          have ve392 : VE h367.2.1 h392.2.1 := VE.of hv367 hv392
          have oh392 : OH h.2.1 h392.2.1 S := oh367.trans (OH.of hv367 hv392 S)
          have kp392 : KP h.2.1 h392.2.1 := kp367.trans (KP.ve ve392)
          have ck392 : CKF h.2.1 → CKF h392.2.1 := fun z => CKF.ve ve392 (ck367 z)
          have n73_392 : V h392.2.1 73 S = V h367.2.1 73 S := ve392.v (by omega) (by omega)
          have n74_392 : V h392.2.1 74 S = V h367.2.1 74 S := ve392.v (by omega) (by omega)
          have n75_392 : V h392.2.1 75 S = V h367.2.1 75 S := ve392.v (by omega) (by omega)
          obtain ⟨u399, u399w⟩ : ∃ v : Int32, v = h392.2.1 70 4 := ⟨_, rfl⟩
          have u399e : (h392.2.1 70 4).toInt = u399.toInt := by rw [u399w]
          have u399l : 0 ≤ u399.toInt := by rw [u399w]; exact (hv392.2.1 70 4).1
          have u399u : u399.toInt ≤ 500 := by rw [u399w]; exact (hv392.2.1 70 4).2
          have k400 := k398
          obtain ⟨u401, u401w⟩ : ∃ v : Int32, v = h392.2.1 70 5 := ⟨_, rfl⟩
          have u401e : (h392.2.1 70 5).toInt = u401.toInt := by rw [u401w]
          have u401l : -2147483648 ≤ u401.toInt := by rw [u401w]; exact (hv392.2.1 70 5).1
          have u401u : u401.toInt ≤ 2147483647 := by rw [u401w]; exact (hv392.2.1 70 5).2
          have k402 := k400
          have g403 : (0 : Int) ≤ (h392.2.1 70 4).toInt := (hv392.2.1 70 4).1
          have g404 : (h392.2.1 70 4).toInt ≤ 500 := (hv392.2.1 70 4).2
          have g405 : (-2147483648 : Int) ≤ (h392.2.1 70 5).toInt := (hv392.2.1 70 5).1
          have g406 : (h392.2.1 70 5).toInt ≤ 2147483647 := (hv392.2.1 70 5).2
          have g407 : (h392.2.1 70 4).toInt = u399.toInt := by rw [← (show u399 = h392.2.1 70 4 from u399w)] <;> exact (ti_rfl u399)
          have g408 : (h392.2.1 70 5).toInt = u401.toInt := by rw [← (show u401 = h392.2.1 70 5 from u401w)] <;> exact (ti_rfl u401)
          have pp409 : (h392.2.1 70 5).toInt = 0 → (h.2.1 70 5).toInt = 0 := (by omega)
          have pp410 : (h.2.1 70 4).toInt ≤ (h392.2.1 70 4).toInt := (by omega)
          have pp411 : V h392.2.1 73 S = V h.2.1 73 S := (by omega)
          have pp412 : V h392.2.1 74 S = V h.2.1 74 S := (by omega)
          have pp413 : V h392.2.1 75 S = V h.2.1 75 S := (by omega)
          have pp414 : (h392.2.1 70 5).toInt = 0 → ∀ d : Int, V h.2.1 77 a2.toInt = 0 → V h.2.1 82 a2.toInt = a3.toInt → RT h.2.1 h392.2.1 S a2.toInt d := (fun hg d k1 k2 => RT.op ((((((((OP.rfl _).trans (OP.ve ve5)).trans (f234 (by omega))).trans (OP.ve ve294)).trans (by rw [E353]; exact ((OP.rfl _).trans OP.w3))).trans (OP.ve ve358)).trans (f372 (by omega))).trans (OP.ve ve392)) (by omega) (by omega) (by omega))
          have pp415 : st h392 = f_X8_readSet (st h) a2.toInt a3.toInt := (k402.symm.trans kf)
          have pp416 : FX KRt h h392 := fx392
          subst hS
          exact gi_vret (pc := 155) ⟨rfl, ⟨_, hv392, (MW.trans (MW.trans sq231 (MW.mz _ _)) sq369)⟩, pp409, pp410, pp411, pp412, pp413, pp414, pp415, pp416, kp392, oh392, ck392⟩ hv392 dX8_readSet_155
    ·
      have k417 := if_f k219 (Int.not_le.mpr q220)
      refine go_aload_n (pc := 19) rfl dX8_readSet_19 ?_
      have g418 : (0 : Int) ≤ (h5.2.1 70 4).toInt := (hv5.2.1 70 4).1
      have g419 : (h5.2.1 70 4).toInt ≤ 500 := (hv5.2.1 70 4).2
      have g420 : (-2147483648 : Int) ≤ (h5.2.1 70 5).toInt := (hv5.2.1 70 5).1
      have g421 : (h5.2.1 70 5).toInt ≤ 2147483647 := (hv5.2.1 70 5).2
      have g422 : (h5.2.1 70 4).toInt = u12.toInt := by rw [← (show u12 = h5.2.1 70 4 from u12w)] <;> exact (ti_rfl u12)
      have g423 : (h5.2.1 70 5).toInt = u14.toInt := by rw [← (show u14 = h5.2.1 70 5 from u14w)] <;> exact (ti_rfl u14)
      refine go_invV (pc := 20) (sl := 0) (s_X8_here_f l (d + 2) hv5 ) mL_X8_176 iM_X8_here sM_X8_here (hv5.sh rfl) rfl rfl rfl (Nat.le_of_ble_eq_true rfl) (show d + 2 + 1 + 1 ≤ d + 4 by omega) (show 8 + (1 + 11) + 40 * (d + 2 + 1) ≤ 40 * (d + 4) by omega) (g_c0 hv5.ln) (Nat.le_of_ble_eq_true rfl) dX8_readSet_20 ?_
      intro r h424 hq _
      obtain ⟨v431, rfl, v431l, v431u, hv424, f425, f426, f427, f428, f429, f430⟩ := hq
      have fx424 : FX KRt h h424 := FX.tr fx5 f430
      have k432 := bd2_e k417 f429
      have ve424 : VE h5.2.1 h424.2.1 := VE.of hv5 hv424
      have oh424 : OH h.2.1 h424.2.1 S := oh5.trans (OH.of hv5 hv424 S)
      have kp424 : KP h.2.1 h424.2.1 := kp5.trans (KP.ve ve424)
      have ck424 : CKF h.2.1 → CKF h424.2.1 := fun z => CKF.ve ve424 (ck5 z)
      have n73_424 : V h424.2.1 73 S = V h5.2.1 73 S := ve424.v (by omega) (by omega)
      have n74_424 : V h424.2.1 74 S = V h5.2.1 74 S := ve424.v (by omega) (by omega)
      have n75_424 : V h424.2.1 75 S = V h5.2.1 75 S := ve424.v (by omega) (by omega)
      obtain ⟨u433, u433w⟩ : ∃ v : Int32, v = h424.2.1 70 4 := ⟨_, rfl⟩
      have u433e : (h424.2.1 70 4).toInt = u433.toInt := by rw [u433w]
      have u433l : 0 ≤ u433.toInt := by rw [u433w]; exact (hv424.2.1 70 4).1
      have u433u : u433.toInt ≤ 500 := by rw [u433w]; exact (hv424.2.1 70 4).2
      have k434 := bd_e k432 (congrArg Int32.toInt u433w.symm)
      obtain ⟨u435, u435w⟩ : ∃ v : Int32, v = h424.2.1 70 5 := ⟨_, rfl⟩
      have u435e : (h424.2.1 70 5).toInt = u435.toInt := by rw [u435w]
      have u435l : -2147483648 ≤ u435.toInt := by rw [u435w]; exact (hv424.2.1 70 5).1
      have u435u : u435.toInt ≤ 2147483647 := by rw [u435w]; exact (hv424.2.1 70 5).2
      have k436 := k434
      refine go_bipush (pc := 23) (v := 65) (by decide) dX8_readSet_23 ?_
      refine go_bipush (pc := 25) (v := 69) (by decide) dX8_readSet_25 ?_
      refine go_invS (pc := 27) (sl := 0) (s_X8_isIn_f l (d + 2) hv424 v431 65 69) mL_X8_159 iM_X8_isIn rfl rfl (Nat.le_of_ble_eq_true rfl) (show d + 2 + 1 + 1 ≤ d + 4 by omega) (show 8 + (3 + 11) + 40 * (d + 2 + 1) ≤ 40 * (d + 4) by omega) (g_c0 hv424.ln) (Nat.le_of_ble_eq_true rfl) dX8_readSet_27 ?_
      intro r h437 hq _
      obtain ⟨v441, rfl, v441l, v441u, rfl, f438, f439, f440⟩ := hq
      try rw [show (65 : Int32).toInt = 65 from (ti_c (v := 65) (a := 65) (by decide))] at f438
      try rw [show (69 : Int32).toInt = 69 from (ti_c (v := 69) (a := 69) (by decide))] at f438
      try rw [show (65 : Int32).toInt = 65 from (ti_c (v := 65) (a := 65) (by decide))] at f439
      try rw [show (69 : Int32).toInt = 69 from (ti_c (v := 69) (a := 69) (by decide))] at f439
      try rw [show (65 : Int32).toInt = 65 from (ti_c (v := 65) (a := 65) (by decide))] at f440
      try rw [show (69 : Int32).toInt = 69 from (ti_c (v := 69) (a := 69) (by decide))] at f440
      replace f440 : PE _ _ := f440
      have k442 := bd_e k436 f440.symm
      refine gf_if_eq (pc := 30) (tgt := 100) (ti_rfl v441) (by decide) dX8_readSet_30 (fun q443 => ?_) (fun q443 => ?_)
      ·
        have k444 := if_t k442 q443
        refine go_aload_n (pc := 100) rfl dX8_readSet_100 ?_
        refine go_iload_n (pc := 101) rfl dX8_readSet_101 ?_
        refine go_iconst (pc := 102) (v := 0) (by decide) dX8_readSet_102 ?_
        have sM445 : (h424.2.1 70 6).toInt = S := (congrArg Int32.toInt oh424.side).trans hS.symm
        have g446 : (0 : Int) ≤ (h424.2.1 70 4).toInt := (hv424.2.1 70 4).1
        have g447 : (h424.2.1 70 4).toInt ≤ 500 := (hv424.2.1 70 4).2
        have g448 : (-2147483648 : Int) ≤ (h424.2.1 70 5).toInt := (hv424.2.1 70 5).1
        have g449 : (h424.2.1 70 5).toInt ≤ 2147483647 := (hv424.2.1 70 5).2
        have g450 : (h424.2.1 70 4).toInt = u433.toInt := by rw [← (show u433 = h424.2.1 70 4 from u433w)] <;> exact (ti_rfl u433)
        have g451 : (h424.2.1 70 5).toInt = u435.toInt := by rw [← (show u435 = h424.2.1 70 5 from u435w)] <;> exact (ti_rfl u435)
        refine go_invV (pc := 103) (sl := 0) (s_X8_operand_f l (d + 0) hv424 a2 (by rw [show (a2 : Int32).toInt = a2.toInt from (ti_rfl a2)]; omega) (by rw [show (a2 : Int32).toInt = a2.toInt from (ti_rfl a2)]; omega) 0 (by rw [show (0 : Int32).toInt = 0 from (ti_c (v := 0) (a := 0) (by decide))]; omega) (by rw [show (0 : Int32).toInt = 0 from (ti_c (v := 0) (a := 0) (by decide))]; omega) (by rw [sM445]; exact hi)) mL_X8_218 iM_X8_operand sM_X8_operand (hv424.sh rfl) rfl rfl rfl (Nat.le_of_ble_eq_true rfl) (show d + 0 + 3 + 1 ≤ d + 4 by omega) (show 8 + (7 + 11) + 40 * (d + 0 + 3) ≤ 40 * (d + 4) by omega) (g_c0 hv424.ln) (Nat.le_of_ble_eq_true rfl) dX8_readSet_103 ?_
        intro r h452 hq _
        obtain ⟨rfl, ⟨Q453, hv452, sq454⟩, f455, f456, f457, f458, f459, f460, f461, f462, f463, f464, f465⟩ := hq
        rw [sM445] at f458
        rw [sM445] at f459
        rw [sM445] at f460
        rw [sM445] at f464
        have oh452 : OH h.2.1 h452.2.1 S := oh424.trans f464
        have kp452 : KP h.2.1 h452.2.1 := kp424.trans f463
        have ck452 : CKF h.2.1 → CKF h452.2.1 := fun z => f465 (ck424 z)
        try rw [show (0 : Int32).toInt = 0 from (ti_c (v := 0) (a := 0) (by decide))] at f455
        try rw [show (0 : Int32).toInt = 0 from (ti_c (v := 0) (a := 0) (by decide))] at f456
        try rw [show (0 : Int32).toInt = 0 from (ti_c (v := 0) (a := 0) (by decide))] at f457
        try rw [show (0 : Int32).toInt = 0 from (ti_c (v := 0) (a := 0) (by decide))] at f458
        try rw [show (0 : Int32).toInt = 0 from (ti_c (v := 0) (a := 0) (by decide))] at f459
        try rw [show (0 : Int32).toInt = 0 from (ti_c (v := 0) (a := 0) (by decide))] at f460
        try rw [show (0 : Int32).toInt = 0 from (ti_c (v := 0) (a := 0) (by decide))] at f461
        try rw [show (0 : Int32).toInt = 0 from (ti_c (v := 0) (a := 0) (by decide))] at f462
        try rw [show (0 : Int32).toInt = 0 from (ti_c (v := 0) (a := 0) (by decide))] at f463
        try rw [show (0 : Int32).toInt = 0 from (ti_c (v := 0) (a := 0) (by decide))] at f464
        try rw [show (0 : Int32).toInt = 0 from (ti_c (v := 0) (a := 0) (by decide))] at f465
        have fx452 : FX KRt h h452 := FX.tr fx424 f462
        have k466 := bd_e k444 f461.symm
        obtain ⟨u467, u467w⟩ : ∃ v : Int32, v = h452.2.1 70 4 := ⟨_, rfl⟩
        have u467e : (h452.2.1 70 4).toInt = u467.toInt := by rw [u467w]
        have u467l : 0 ≤ u467.toInt := by rw [u467w]; exact (hv452.2.1 70 4).1
        have u467u : u467.toInt ≤ 500 := by rw [u467w]; exact (hv452.2.1 70 4).2
        have k468 := k466
        obtain ⟨u469, u469w⟩ : ∃ v : Int32, v = h452.2.1 70 5 := ⟨_, rfl⟩
        have u469e : (h452.2.1 70 5).toInt = u469.toInt := by rw [u469w]
        have u469l : -2147483648 ≤ u469.toInt := by rw [u469w]; exact (hv452.2.1 70 5).1
        have u469u : u469.toInt ≤ 2147483647 := by rw [u469w]; exact (hv452.2.1 70 5).2
        have k470 := k468
        refine go_aload_n (pc := 106) rfl dX8_readSet_106 ?_
        refine go_invV (pc := 107) (sl := 0) (s_X8_isGood_f l (d + 2) hv452 ) mL_X8_172 iM_X8_isGood sM_X8_isGood (hv452.sh rfl) rfl rfl rfl (Nat.le_of_ble_eq_true rfl) (show d + 2 + 1 + 1 ≤ d + 4 by omega) (show 8 + (1 + 11) + 40 * (d + 2 + 1) ≤ 40 * (d + 4) by omega) (g_c0 hv452.ln) (Nat.le_of_ble_eq_true rfl) dX8_readSet_107 ?_
        intro r h471 hq _
        obtain ⟨v475, rfl, v475l, v475u, rfl, f472, f473, f474⟩ := hq
        replace f474 : PE _ _ := f474
        have k476 := bd_e k470 f474.symm
        refine gf_if_eq (pc := 110) (tgt := 149) (ti_rfl v475) (by decide) dX8_readSet_110 (fun q477 => ?_) (fun q477 => ?_)
        ·
          have k478 := if_t k476 q477
          refine go_aload_n (pc := 149) rfl dX8_readSet_149 ?_
          refine go_bipush (pc := 150) (v := 59) (by decide) dX8_readSet_150 ?_
          have g479 : (0 : Int) ≤ (h452.2.1 70 4).toInt := (hv452.2.1 70 4).1
          have g480 : (h452.2.1 70 4).toInt ≤ 500 := (hv452.2.1 70 4).2
          have g481 : (-2147483648 : Int) ≤ (h452.2.1 70 5).toInt := (hv452.2.1 70 5).1
          have g482 : (h452.2.1 70 5).toInt ≤ 2147483647 := (hv452.2.1 70 5).2
          have g483 : (h452.2.1 70 4).toInt = u467.toInt := by rw [← (show u467 = h452.2.1 70 4 from u467w)] <;> exact (ti_rfl u467)
          have g484 : (h452.2.1 70 5).toInt = u469.toInt := by rw [← (show u469 = h452.2.1 70 5 from u469w)] <;> exact (ti_rfl u469)
          refine go_invV (pc := 152) (sl := 0) (s_X8_must_f l (d + 1) hv452 59 (by rw [show (59 : Int32).toInt = 59 from (ti_c (v := 59) (a := 59) (by decide))]; omega) (by rw [show (59 : Int32).toInt = 59 from (ti_c (v := 59) (a := 59) (by decide))]; omega)) mL_X8_198 iM_X8_must sM_X8_must (hv452.sh rfl) rfl rfl rfl (Nat.le_of_ble_eq_true rfl) (show d + 1 + 2 + 1 ≤ d + 4 by omega) (show 8 + (2 + 11) + 40 * (d + 1 + 2) ≤ 40 * (d + 4) by omega) (g_c0 hv452.ln) (Nat.le_of_ble_eq_true rfl) dX8_readSet_152 ?_
          intro r h485 hq _
          obtain ⟨rfl, hv485, f486, f487, f488, f489, f490⟩ := hq
          try rw [show (59 : Int32).toInt = 59 from (ti_c (v := 59) (a := 59) (by decide))] at f486
          try rw [show (59 : Int32).toInt = 59 from (ti_c (v := 59) (a := 59) (by decide))] at f487
          try rw [show (59 : Int32).toInt = 59 from (ti_c (v := 59) (a := 59) (by decide))] at f488
          try rw [show (59 : Int32).toInt = 59 from (ti_c (v := 59) (a := 59) (by decide))] at f489
          try rw [show (59 : Int32).toInt = 59 from (ti_c (v := 59) (a := 59) (by decide))] at f490
          have fx485 : FX KRt h h485 := FX.tr fx452 f490
          have k491 := bd_e k478 f489.symm
          have ve485 : VE h452.2.1 h485.2.1 := VE.of hv452 hv485
          have oh485 : OH h.2.1 h485.2.1 S := oh452.trans (OH.of hv452 hv485 S)
          have kp485 : KP h.2.1 h485.2.1 := kp452.trans (KP.ve ve485)
          have ck485 : CKF h.2.1 → CKF h485.2.1 := fun z => CKF.ve ve485 (ck452 z)
          have n73_485 : V h485.2.1 73 S = V h452.2.1 73 S := ve485.v (by omega) (by omega)
          have n74_485 : V h485.2.1 74 S = V h452.2.1 74 S := ve485.v (by omega) (by omega)
          have n75_485 : V h485.2.1 75 S = V h452.2.1 75 S := ve485.v (by omega) (by omega)
          obtain ⟨u492, u492w⟩ : ∃ v : Int32, v = h485.2.1 70 4 := ⟨_, rfl⟩
          have u492e : (h485.2.1 70 4).toInt = u492.toInt := by rw [u492w]
          have u492l : 0 ≤ u492.toInt := by rw [u492w]; exact (hv485.2.1 70 4).1
          have u492u : u492.toInt ≤ 500 := by rw [u492w]; exact (hv485.2.1 70 4).2
          have k493 := k491
          obtain ⟨u494, u494w⟩ : ∃ v : Int32, v = h485.2.1 70 5 := ⟨_, rfl⟩
          have u494e : (h485.2.1 70 5).toInt = u494.toInt := by rw [u494w]
          have u494l : -2147483648 ≤ u494.toInt := by rw [u494w]; exact (hv485.2.1 70 5).1
          have u494u : u494.toInt ≤ 2147483647 := by rw [u494w]; exact (hv485.2.1 70 5).2
          have k495 := k493
          have g496 : (0 : Int) ≤ (h485.2.1 70 4).toInt := (hv485.2.1 70 4).1
          have g497 : (h485.2.1 70 4).toInt ≤ 500 := (hv485.2.1 70 4).2
          have g498 : (-2147483648 : Int) ≤ (h485.2.1 70 5).toInt := (hv485.2.1 70 5).1
          have g499 : (h485.2.1 70 5).toInt ≤ 2147483647 := (hv485.2.1 70 5).2
          have g500 : (h485.2.1 70 4).toInt = u492.toInt := by rw [← (show u492 = h485.2.1 70 4 from u492w)] <;> exact (ti_rfl u492)
          have g501 : (h485.2.1 70 5).toInt = u494.toInt := by rw [← (show u494 = h485.2.1 70 5 from u494w)] <;> exact (ti_rfl u494)
          have pp502 : (h485.2.1 70 5).toInt = 0 → (h.2.1 70 5).toInt = 0 := (by omega)
          have pp503 : (h.2.1 70 4).toInt ≤ (h485.2.1 70 4).toInt := (by omega)
          have pp504 : V h485.2.1 73 S = V h.2.1 73 S := (by omega)
          have pp505 : V h485.2.1 74 S = V h.2.1 74 S := (by omega)
          have pp506 : V h485.2.1 75 S = V h.2.1 75 S := (by omega)
          have pp507 : (h485.2.1 70 5).toInt = 0 → ∀ d : Int, V h.2.1 77 a2.toInt = 0 → V h.2.1 82 a2.toInt = a3.toInt → RT h.2.1 h485.2.1 S a2.toInt d := (fun hg d k1 k2 => RT.op (((((OP.rfl _).trans (OP.ve ve5)).trans (OP.ve ve424)).trans (f457 (by omega))).trans (OP.ve ve485)) (by omega) (by omega) (by omega))
          have pp508 : st h485 = f_X8_readSet (st h) a2.toInt a3.toInt := (k495.symm.trans kf)
          have pp509 : FX KRt h h485 := fx485
          subst hS
          exact gi_vret (pc := 155) ⟨rfl, ⟨_, hv485, sq454⟩, pp502, pp503, pp504, pp505, pp506, pp507, pp508, pp509, kp485, oh485, ck485⟩ hv485 dX8_readSet_155
        ·
          have k510 := if_f k476 q477
          refine go_aload_n (pc := 113) rfl dX8_readSet_113 ?_
          have g511 : (0 : Int) ≤ (h452.2.1 70 4).toInt := (hv452.2.1 70 4).1
          have g512 : (h452.2.1 70 4).toInt ≤ 500 := (hv452.2.1 70 4).2
          have g513 : (-2147483648 : Int) ≤ (h452.2.1 70 5).toInt := (hv452.2.1 70 5).1
          have g514 : (h452.2.1 70 5).toInt ≤ 2147483647 := (hv452.2.1 70 5).2
          have g515 : (h452.2.1 70 4).toInt = u467.toInt := by rw [← (show u467 = h452.2.1 70 4 from u467w)] <;> exact (ti_rfl u467)
          have g516 : (h452.2.1 70 5).toInt = u469.toInt := by rw [← (show u469 = h452.2.1 70 5 from u469w)] <;> exact (ti_rfl u469)
          refine go_invV (pc := 114) (sl := 0) (s_X8_here_f l (d + 2) hv452 ) mL_X8_176 iM_X8_here sM_X8_here (hv452.sh rfl) rfl rfl rfl (Nat.le_of_ble_eq_true rfl) (show d + 2 + 1 + 1 ≤ d + 4 by omega) (show 8 + (1 + 11) + 40 * (d + 2 + 1) ≤ 40 * (d + 4) by omega) (g_c0 hv452.ln) (Nat.le_of_ble_eq_true rfl) dX8_readSet_114 ?_
          intro r h517 hq _
          obtain ⟨v524, rfl, v524l, v524u, hv517, f518, f519, f520, f521, f522, f523⟩ := hq
          have fx517 : FX KRt h h517 := FX.tr fx452 f523
          have k525 := bd2_e k510 f522
          have ve517 : VE h452.2.1 h517.2.1 := VE.of hv452 hv517
          have oh517 : OH h.2.1 h517.2.1 S := oh452.trans (OH.of hv452 hv517 S)
          have kp517 : KP h.2.1 h517.2.1 := kp452.trans (KP.ve ve517)
          have ck517 : CKF h.2.1 → CKF h517.2.1 := fun z => CKF.ve ve517 (ck452 z)
          have n73_517 : V h517.2.1 73 S = V h452.2.1 73 S := ve517.v (by omega) (by omega)
          have n74_517 : V h517.2.1 74 S = V h452.2.1 74 S := ve517.v (by omega) (by omega)
          have n75_517 : V h517.2.1 75 S = V h452.2.1 75 S := ve517.v (by omega) (by omega)
          obtain ⟨u526, u526w⟩ : ∃ v : Int32, v = h517.2.1 70 4 := ⟨_, rfl⟩
          have u526e : (h517.2.1 70 4).toInt = u526.toInt := by rw [u526w]
          have u526l : 0 ≤ u526.toInt := by rw [u526w]; exact (hv517.2.1 70 4).1
          have u526u : u526.toInt ≤ 500 := by rw [u526w]; exact (hv517.2.1 70 4).2
          have k527 := bd_e k525 (congrArg Int32.toInt u526w.symm)
          obtain ⟨u528, u528w⟩ : ∃ v : Int32, v = h517.2.1 70 5 := ⟨_, rfl⟩
          have u528e : (h517.2.1 70 5).toInt = u528.toInt := by rw [u528w]
          have u528l : -2147483648 ≤ u528.toInt := by rw [u528w]; exact (hv517.2.1 70 5).1
          have u528u : u528.toInt ≤ 2147483647 := by rw [u528w]; exact (hv517.2.1 70 5).2
          have k529 := k527
          refine go_invS (pc := 117) (sl := 0) (s_X8_isSign_f l (d + 2) hv517 v524) mL_X8_220 iM_X8_isSign rfl rfl (Nat.le_of_ble_eq_true rfl) (show d + 2 + 1 + 1 ≤ d + 4 by omega) (show 8 + (1 + 11) + 40 * (d + 2 + 1) ≤ 40 * (d + 4) by omega) (g_c0 hv517.ln) (Nat.le_of_ble_eq_true rfl) dX8_readSet_117 ?_
          intro r h530 hq _
          obtain ⟨v533, rfl, v533l, v533u, rfl, f531, f532⟩ := hq
          replace f532 : PE _ _ := f532
          have k534 := bd_e k529 f532.symm
          refine gf_if_eq (pc := 120) (tgt := 149) (ti_rfl v533) (by decide) dX8_readSet_120 (fun q535 => ?_) (fun q535 => ?_)
          ·
            have k536 := if_t k534 q535
            refine go_aload_n (pc := 149) rfl dX8_readSet_149 ?_
            refine go_bipush (pc := 150) (v := 59) (by decide) dX8_readSet_150 ?_
            have g537 : (0 : Int) ≤ (h517.2.1 70 4).toInt := (hv517.2.1 70 4).1
            have g538 : (h517.2.1 70 4).toInt ≤ 500 := (hv517.2.1 70 4).2
            have g539 : (-2147483648 : Int) ≤ (h517.2.1 70 5).toInt := (hv517.2.1 70 5).1
            have g540 : (h517.2.1 70 5).toInt ≤ 2147483647 := (hv517.2.1 70 5).2
            have g541 : (h517.2.1 70 4).toInt = u526.toInt := by rw [← (show u526 = h517.2.1 70 4 from u526w)] <;> exact (ti_rfl u526)
            have g542 : (h517.2.1 70 5).toInt = u528.toInt := by rw [← (show u528 = h517.2.1 70 5 from u528w)] <;> exact (ti_rfl u528)
            refine go_invV (pc := 152) (sl := 0) (s_X8_must_f l (d + 1) hv517 59 (by rw [show (59 : Int32).toInt = 59 from (ti_c (v := 59) (a := 59) (by decide))]; omega) (by rw [show (59 : Int32).toInt = 59 from (ti_c (v := 59) (a := 59) (by decide))]; omega)) mL_X8_198 iM_X8_must sM_X8_must (hv517.sh rfl) rfl rfl rfl (Nat.le_of_ble_eq_true rfl) (show d + 1 + 2 + 1 ≤ d + 4 by omega) (show 8 + (2 + 11) + 40 * (d + 1 + 2) ≤ 40 * (d + 4) by omega) (g_c0 hv517.ln) (Nat.le_of_ble_eq_true rfl) dX8_readSet_152 ?_
            intro r h543 hq _
            obtain ⟨rfl, hv543, f544, f545, f546, f547, f548⟩ := hq
            try rw [show (59 : Int32).toInt = 59 from (ti_c (v := 59) (a := 59) (by decide))] at f544
            try rw [show (59 : Int32).toInt = 59 from (ti_c (v := 59) (a := 59) (by decide))] at f545
            try rw [show (59 : Int32).toInt = 59 from (ti_c (v := 59) (a := 59) (by decide))] at f546
            try rw [show (59 : Int32).toInt = 59 from (ti_c (v := 59) (a := 59) (by decide))] at f547
            try rw [show (59 : Int32).toInt = 59 from (ti_c (v := 59) (a := 59) (by decide))] at f548
            have fx543 : FX KRt h h543 := FX.tr fx517 f548
            have k549 := bd_e k536 f547.symm
            have ve543 : VE h517.2.1 h543.2.1 := VE.of hv517 hv543
            have oh543 : OH h.2.1 h543.2.1 S := oh517.trans (OH.of hv517 hv543 S)
            have kp543 : KP h.2.1 h543.2.1 := kp517.trans (KP.ve ve543)
            have ck543 : CKF h.2.1 → CKF h543.2.1 := fun z => CKF.ve ve543 (ck517 z)
            have n73_543 : V h543.2.1 73 S = V h517.2.1 73 S := ve543.v (by omega) (by omega)
            have n74_543 : V h543.2.1 74 S = V h517.2.1 74 S := ve543.v (by omega) (by omega)
            have n75_543 : V h543.2.1 75 S = V h517.2.1 75 S := ve543.v (by omega) (by omega)
            obtain ⟨u550, u550w⟩ : ∃ v : Int32, v = h543.2.1 70 4 := ⟨_, rfl⟩
            have u550e : (h543.2.1 70 4).toInt = u550.toInt := by rw [u550w]
            have u550l : 0 ≤ u550.toInt := by rw [u550w]; exact (hv543.2.1 70 4).1
            have u550u : u550.toInt ≤ 500 := by rw [u550w]; exact (hv543.2.1 70 4).2
            have k551 := k549
            obtain ⟨u552, u552w⟩ : ∃ v : Int32, v = h543.2.1 70 5 := ⟨_, rfl⟩
            have u552e : (h543.2.1 70 5).toInt = u552.toInt := by rw [u552w]
            have u552l : -2147483648 ≤ u552.toInt := by rw [u552w]; exact (hv543.2.1 70 5).1
            have u552u : u552.toInt ≤ 2147483647 := by rw [u552w]; exact (hv543.2.1 70 5).2
            have k553 := k551
            have g554 : (0 : Int) ≤ (h543.2.1 70 4).toInt := (hv543.2.1 70 4).1
            have g555 : (h543.2.1 70 4).toInt ≤ 500 := (hv543.2.1 70 4).2
            have g556 : (-2147483648 : Int) ≤ (h543.2.1 70 5).toInt := (hv543.2.1 70 5).1
            have g557 : (h543.2.1 70 5).toInt ≤ 2147483647 := (hv543.2.1 70 5).2
            have g558 : (h543.2.1 70 4).toInt = u550.toInt := by rw [← (show u550 = h543.2.1 70 4 from u550w)] <;> exact (ti_rfl u550)
            have g559 : (h543.2.1 70 5).toInt = u552.toInt := by rw [← (show u552 = h543.2.1 70 5 from u552w)] <;> exact (ti_rfl u552)
            have pp560 : (h543.2.1 70 5).toInt = 0 → (h.2.1 70 5).toInt = 0 := (by omega)
            have pp561 : (h.2.1 70 4).toInt ≤ (h543.2.1 70 4).toInt := (by omega)
            have pp562 : V h543.2.1 73 S = V h.2.1 73 S := (by omega)
            have pp563 : V h543.2.1 74 S = V h.2.1 74 S := (by omega)
            have pp564 : V h543.2.1 75 S = V h.2.1 75 S := (by omega)
            have pp565 : (h543.2.1 70 5).toInt = 0 → ∀ d : Int, V h.2.1 77 a2.toInt = 0 → V h.2.1 82 a2.toInt = a3.toInt → RT h.2.1 h543.2.1 S a2.toInt d := (fun hg d k1 k2 => RT.op ((((((OP.rfl _).trans (OP.ve ve5)).trans (OP.ve ve424)).trans (f457 (by omega))).trans (OP.ve ve517)).trans (OP.ve ve543)) (by omega) (by omega) (by omega))
            have pp566 : st h543 = f_X8_readSet (st h) a2.toInt a3.toInt := (k553.symm.trans kf)
            have pp567 : FX KRt h h543 := fx543
            subst hS
            exact gi_vret (pc := 155) ⟨rfl, ⟨_, hv543, sq454⟩, pp560, pp561, pp562, pp563, pp564, pp565, pp566, pp567, kp543, oh543, ck543⟩ hv543 dX8_readSet_155
          ·
            have k568 := if_f k534 q535
            refine go_aload_n (pc := 123) rfl dX8_readSet_123 ?_
            refine gi_getF (pc := 124) (q := 83) hv517 fL_X8_47 rfl (Nat.le_of_ble_eq_true rfl) rfl (hv517.rf (by decide)) dX8_readSet_124 ?_
            refine go_iload_n (pc := 127) rfl dX8_readSet_127 ?_
            refine go_aload_n (pc := 128) rfl dX8_readSet_128 ?_
            have k569 := (f521 (by omega)).1
            have k570 : (h517.2.1 70 3).toInt ≤ 500 := (hv517.2.1 70 3).2
            refine go_invV (pc := 129) (sl := 0) (s_X8_here_ns_f l (d + 2) hv517 (f521 (by omega))) mL_X8_176 iM_X8_here sM_X8_here (hv517.sh rfl) rfl rfl rfl (Nat.le_of_ble_eq_true rfl) (show d + 2 + 1 + 1 ≤ d + 4 by omega) (show 8 + (1 + 11) + 40 * (d + 2 + 1) ≤ 40 * (d + 4) by omega) (g_c0 hv517.ln) (Nat.le_of_ble_eq_true rfl) dX8_readSet_129 ?_
            intro r h571 hq _
            obtain ⟨v574, rfl, v574l, v574u, rfl, f572, f573⟩ := hq
            replace f573 : PE _ _ := f573
            have k575 := bd_e k568 f573.symm
            refine gi_fst (pc := 132) (lo := -2147483648) (hi := 2147483647) (len := 260) hv517 (ti_rfl a2) (ti_rfl v574) rfl (by omega) (by omega) (fun _ => rfl) (ti_ge (ti_rfl v574)) (ti_le2 (ti_rfl v574)) (by omega) dX8_readSet_132 (fun h576 hv576 hv576e => ?_)
            have fx576 : FX KRt h h576 := FX.pI fx517 hv576e (by unfold KRt; omega)
            have k577 := bd_e k575 (st_I hv576e (ti_rfl v574))
            refine go_aload_n (pc := 133) rfl dX8_readSet_133 ?_
            refine go_dup (pc := 134) rfl dX8_readSet_134 ?_
            refine gi_get (pc := 135) (lo := 0) (hi := 500) hv576 fL_X8_163 rfl (Nat.le_of_ble_eq_true rfl) rfl rfl dX8_readSet_135 (fun v578 v578l v578u v578w => ?_)
            have v578r : u526 = h576.2.1 70 4 := (show u526 = h576.2.1 70 4 from by rw [hv576e]; exact (g_iI rfl u526w.symm).symm)
            have v578q : TI v578 u526.toInt := by rw [v578w.trans v578r.symm]; exact (ti_rfl u526)
            refine go_iconst (pc := 138) (v := 1) (by decide) dX8_readSet_138 ?_
            refine gf_iadd (pc := 139) v578q (ti_c (v := 1) (a := 1) (by decide)) (by omega) (by omega) dX8_readSet_139 (fun v579 e580 => ?_)
            have E576 : h576.2.1 = (w1 h517.2.1 83 a2.toInt (v574 : Int32)) := by
              rw [hv576e]
              rfl
            have oh576 : OH h.2.1 h576.2.1 S := by rw [E576]; exact (oh517.trans (OH.w 130 rfl (by omega) (by omega) (by omega) (by omega)))
            have kp576 : KP h.2.1 h576.2.1 := by rw [E576]; exact (kp517.trans (KP.w (by omega)))
            have n73_576 : V h576.2.1 73 S = V h517.2.1 73 S := by rw [E576, V_ne (by omega)]
            have n74_576 : V h576.2.1 74 S = V h517.2.1 74 S := by rw [E576, V_ne (by omega)]
            have n75_576 : V h576.2.1 75 S = V h517.2.1 75 S := by rw [E576, V_ne (by omega)]
            have ck576 : CKF h.2.1 → CKF h576.2.1 := fun z => by rw [E576]; exact (CKF.w (by omega) (ck517 z))
            refine gi_put (pc := 140) (lo := 0) (hi := 500) hv576 e580 (fP_X8_163 _) rfl (Nat.le_of_ble_eq_true rfl) rfl rfl (by omega) (by omega) rfl rfl (by decide) (by decide) (by decide) (by decide) dX8_readSet_140 (fun h581 hv581 hv581e => ?_)
            have fx581 : FX KRt h h581 := FX.pI fx576 hv581e (by unfold KRt; omega)
            have k582 := bd_e k577 (st_I hv581e e580)
            have ve581 : VE h576.2.1 h581.2.1 := VE.of hv576 hv581
            have oh581 : OH h.2.1 h581.2.1 S := oh576.trans (OH.of hv576 hv581 S)
            have kp581 : KP h.2.1 h581.2.1 := kp576.trans (KP.ve ve581)
            have ck581 : CKF h.2.1 → CKF h581.2.1 := fun z => CKF.ve ve581 (ck576 z)
            have n73_581 : V h581.2.1 73 S = V h576.2.1 73 S := ve581.v (by omega) (by omega)
            have n74_581 : V h581.2.1 74 S = V h576.2.1 74 S := ve581.v (by omega) (by omega)
            have n75_581 : V h581.2.1 75 S = V h576.2.1 75 S := ve581.v (by omega) (by omega)
            refine go_aload_n (pc := 143) rfl dX8_readSet_143 ?_
            refine go_iload_n (pc := 144) rfl dX8_readSet_144 ?_
            refine go_iconst (pc := 145) (v := 1) (by decide) dX8_readSet_145 ?_
            have sM583 : (h581.2.1 70 6).toInt = S := (congrArg Int32.toInt oh581.side).trans hS.symm
            have g584 : (0 : Int) ≤ (h581.2.1 70 4).toInt := (hv581.2.1 70 4).1
            have g585 : (h581.2.1 70 4).toInt ≤ 500 := (hv581.2.1 70 4).2
            have g586 : (-2147483648 : Int) ≤ (h581.2.1 70 5).toInt := (hv581.2.1 70 5).1
            have g587 : (h581.2.1 70 5).toInt ≤ 2147483647 := (hv581.2.1 70 5).2
            have g588 : (h581.2.1 70 5).toInt = u528.toInt := by rw [← (show u528 = h581.2.1 70 5 from (show u528 = h581.2.1 70 5 from by rw [hv581e]; exact (g_iI rfl (show u528 = h576.2.1 70 5 from by rw [hv576e]; exact (g_iI rfl u528w.symm).symm).symm).symm))] <;> exact (ti_rfl u528)
            have g589 : (h581.2.1 70 4).toInt = (u526.toInt + 1) := by rw [← (show v579 = h581.2.1 70 4 from (show v579 = h581.2.1 70 4 from by rw [hv581e]; exact g_iS.symm))] <;> exact e580
            refine go_invV (pc := 146) (sl := 0) (s_X8_operand_f l (d + 0) hv581 a2 (by rw [show (a2 : Int32).toInt = a2.toInt from (ti_rfl a2)]; omega) (by rw [show (a2 : Int32).toInt = a2.toInt from (ti_rfl a2)]; omega) 1 (by rw [show (1 : Int32).toInt = 1 from (ti_c (v := 1) (a := 1) (by decide))]; omega) (by rw [show (1 : Int32).toInt = 1 from (ti_c (v := 1) (a := 1) (by decide))]; omega) (by rw [sM583]; exact hi)) mL_X8_218 iM_X8_operand sM_X8_operand (hv581.sh rfl) rfl rfl rfl (Nat.le_of_ble_eq_true rfl) (show d + 0 + 3 + 1 ≤ d + 4 by omega) (show 8 + (7 + 11) + 40 * (d + 0 + 3) ≤ 40 * (d + 4) by omega) (g_c0 hv581.ln) (Nat.le_of_ble_eq_true rfl) dX8_readSet_146 ?_
            intro r h590 hq _
            obtain ⟨rfl, ⟨Q591, hv590, sq592⟩, f593, f594, f595, f596, f597, f598, f599, f600, f601, f602, f603⟩ := hq
            rw [sM583] at f596
            rw [sM583] at f597
            rw [sM583] at f598
            rw [sM583] at f602
            have oh590 : OH h.2.1 h590.2.1 S := oh581.trans f602
            have kp590 : KP h.2.1 h590.2.1 := kp581.trans f601
            have ck590 : CKF h.2.1 → CKF h590.2.1 := fun z => f603 (ck581 z)
            try rw [show (1 : Int32).toInt = 1 from (ti_c (v := 1) (a := 1) (by decide))] at f593
            try rw [show (1 : Int32).toInt = 1 from (ti_c (v := 1) (a := 1) (by decide))] at f594
            try rw [show (1 : Int32).toInt = 1 from (ti_c (v := 1) (a := 1) (by decide))] at f595
            try rw [show (1 : Int32).toInt = 1 from (ti_c (v := 1) (a := 1) (by decide))] at f596
            try rw [show (1 : Int32).toInt = 1 from (ti_c (v := 1) (a := 1) (by decide))] at f597
            try rw [show (1 : Int32).toInt = 1 from (ti_c (v := 1) (a := 1) (by decide))] at f598
            try rw [show (1 : Int32).toInt = 1 from (ti_c (v := 1) (a := 1) (by decide))] at f599
            try rw [show (1 : Int32).toInt = 1 from (ti_c (v := 1) (a := 1) (by decide))] at f600
            try rw [show (1 : Int32).toInt = 1 from (ti_c (v := 1) (a := 1) (by decide))] at f601
            try rw [show (1 : Int32).toInt = 1 from (ti_c (v := 1) (a := 1) (by decide))] at f602
            try rw [show (1 : Int32).toInt = 1 from (ti_c (v := 1) (a := 1) (by decide))] at f603
            have fx590 : FX KRt h h590 := FX.tr fx581 f600
            have k604 := bd_e k582 f599.symm
            obtain ⟨u605, u605w⟩ : ∃ v : Int32, v = h590.2.1 70 4 := ⟨_, rfl⟩
            have u605e : (h590.2.1 70 4).toInt = u605.toInt := by rw [u605w]
            have u605l : 0 ≤ u605.toInt := by rw [u605w]; exact (hv590.2.1 70 4).1
            have u605u : u605.toInt ≤ 500 := by rw [u605w]; exact (hv590.2.1 70 4).2
            have k606 := k604
            obtain ⟨u607, u607w⟩ : ∃ v : Int32, v = h590.2.1 70 5 := ⟨_, rfl⟩
            have u607e : (h590.2.1 70 5).toInt = u607.toInt := by rw [u607w]
            have u607l : -2147483648 ≤ u607.toInt := by rw [u607w]; exact (hv590.2.1 70 5).1
            have u607u : u607.toInt ≤ 2147483647 := by rw [u607w]; exact (hv590.2.1 70 5).2
            have k608 := k606
            refine go_aload_n (pc := 149) rfl dX8_readSet_149 ?_
            refine go_bipush (pc := 150) (v := 59) (by decide) dX8_readSet_150 ?_
            have g609 : (0 : Int) ≤ (h590.2.1 70 4).toInt := (hv590.2.1 70 4).1
            have g610 : (h590.2.1 70 4).toInt ≤ 500 := (hv590.2.1 70 4).2
            have g611 : (-2147483648 : Int) ≤ (h590.2.1 70 5).toInt := (hv590.2.1 70 5).1
            have g612 : (h590.2.1 70 5).toInt ≤ 2147483647 := (hv590.2.1 70 5).2
            have g613 : (h590.2.1 70 4).toInt = u605.toInt := by rw [← (show u605 = h590.2.1 70 4 from u605w)] <;> exact (ti_rfl u605)
            have g614 : (h590.2.1 70 5).toInt = u607.toInt := by rw [← (show u607 = h590.2.1 70 5 from u607w)] <;> exact (ti_rfl u607)
            refine go_invV (pc := 152) (sl := 0) (s_X8_must_f l (d + 1) hv590 59 (by rw [show (59 : Int32).toInt = 59 from (ti_c (v := 59) (a := 59) (by decide))]; omega) (by rw [show (59 : Int32).toInt = 59 from (ti_c (v := 59) (a := 59) (by decide))]; omega)) mL_X8_198 iM_X8_must sM_X8_must (hv590.sh rfl) rfl rfl rfl (Nat.le_of_ble_eq_true rfl) (show d + 1 + 2 + 1 ≤ d + 4 by omega) (show 8 + (2 + 11) + 40 * (d + 1 + 2) ≤ 40 * (d + 4) by omega) (g_c0 hv590.ln) (Nat.le_of_ble_eq_true rfl) dX8_readSet_152 ?_
            intro r h615 hq _
            obtain ⟨rfl, hv615, f616, f617, f618, f619, f620⟩ := hq
            try rw [show (59 : Int32).toInt = 59 from (ti_c (v := 59) (a := 59) (by decide))] at f616
            try rw [show (59 : Int32).toInt = 59 from (ti_c (v := 59) (a := 59) (by decide))] at f617
            try rw [show (59 : Int32).toInt = 59 from (ti_c (v := 59) (a := 59) (by decide))] at f618
            try rw [show (59 : Int32).toInt = 59 from (ti_c (v := 59) (a := 59) (by decide))] at f619
            try rw [show (59 : Int32).toInt = 59 from (ti_c (v := 59) (a := 59) (by decide))] at f620
            have fx615 : FX KRt h h615 := FX.tr fx590 f620
            have k621 := bd_e k608 f619.symm
            have ve615 : VE h590.2.1 h615.2.1 := VE.of hv590 hv615
            have oh615 : OH h.2.1 h615.2.1 S := oh590.trans (OH.of hv590 hv615 S)
            have kp615 : KP h.2.1 h615.2.1 := kp590.trans (KP.ve ve615)
            have ck615 : CKF h.2.1 → CKF h615.2.1 := fun z => CKF.ve ve615 (ck590 z)
            have n73_615 : V h615.2.1 73 S = V h590.2.1 73 S := ve615.v (by omega) (by omega)
            have n74_615 : V h615.2.1 74 S = V h590.2.1 74 S := ve615.v (by omega) (by omega)
            have n75_615 : V h615.2.1 75 S = V h590.2.1 75 S := ve615.v (by omega) (by omega)
            obtain ⟨u622, u622w⟩ : ∃ v : Int32, v = h615.2.1 70 4 := ⟨_, rfl⟩
            have u622e : (h615.2.1 70 4).toInt = u622.toInt := by rw [u622w]
            have u622l : 0 ≤ u622.toInt := by rw [u622w]; exact (hv615.2.1 70 4).1
            have u622u : u622.toInt ≤ 500 := by rw [u622w]; exact (hv615.2.1 70 4).2
            have k623 := k621
            obtain ⟨u624, u624w⟩ : ∃ v : Int32, v = h615.2.1 70 5 := ⟨_, rfl⟩
            have u624e : (h615.2.1 70 5).toInt = u624.toInt := by rw [u624w]
            have u624l : -2147483648 ≤ u624.toInt := by rw [u624w]; exact (hv615.2.1 70 5).1
            have u624u : u624.toInt ≤ 2147483647 := by rw [u624w]; exact (hv615.2.1 70 5).2
            have k625 := k623
            have g626 : (0 : Int) ≤ (h615.2.1 70 4).toInt := (hv615.2.1 70 4).1
            have g627 : (h615.2.1 70 4).toInt ≤ 500 := (hv615.2.1 70 4).2
            have g628 : (-2147483648 : Int) ≤ (h615.2.1 70 5).toInt := (hv615.2.1 70 5).1
            have g629 : (h615.2.1 70 5).toInt ≤ 2147483647 := (hv615.2.1 70 5).2
            have g630 : (h615.2.1 70 4).toInt = u622.toInt := by rw [← (show u622 = h615.2.1 70 4 from u622w)] <;> exact (ti_rfl u622)
            have g631 : (h615.2.1 70 5).toInt = u624.toInt := by rw [← (show u624 = h615.2.1 70 5 from u624w)] <;> exact (ti_rfl u624)
            have pp632 : (h615.2.1 70 5).toInt = 0 → (h.2.1 70 5).toInt = 0 := (by omega)
            have pp633 : (h.2.1 70 4).toInt ≤ (h615.2.1 70 4).toInt := (by omega)
            have pp634 : V h615.2.1 73 S = V h.2.1 73 S := (by omega)
            have pp635 : V h615.2.1 74 S = V h.2.1 74 S := (by omega)
            have pp636 : V h615.2.1 75 S = V h.2.1 75 S := (by omega)
            have pp637 : (h615.2.1 70 5).toInt = 0 → ∀ d : Int, V h.2.1 77 a2.toInt = 0 → V h.2.1 82 a2.toInt = a3.toInt → RT h.2.1 h615.2.1 S a2.toInt d := (fun hg d k1 k2 => RT.op (((((((((OP.rfl _).trans (OP.ve ve5)).trans (OP.ve ve424)).trans (f457 (by omega))).trans (OP.ve ve517)).trans (by rw [E576]; exact ((OP.rfl _).trans OP.w3))).trans (OP.ve ve581)).trans (f595 (by omega))).trans (OP.ve ve615)) (by omega) (by omega) (by omega))
            have pp638 : st h615 = f_X8_readSet (st h) a2.toInt a3.toInt := (k625.symm.trans kf)
            have pp639 : FX KRt h h615 := fx615
            subst hS
            exact gi_vret (pc := 155) ⟨rfl, ⟨_, hv615, (MW.trans (MW.trans sq454 (MW.mz _ _)) sq592)⟩, pp632, pp633, pp634, pp635, pp636, pp637, pp638, pp639, kp615, oh615, ck615⟩ hv615 dX8_readSet_155
      ·
        have k640 := if_f k442 q443
        refine go_aload_n (pc := 33) rfl dX8_readSet_33 ?_
        refine gi_getF (pc := 34) (q := 77) hv424 fL_X8_29 rfl (Nat.le_of_ble_eq_true rfl) rfl (hv424.rf (by decide)) dX8_readSet_34 ?_
        refine go_iload_n (pc := 37) rfl dX8_readSet_37 ?_
        refine go_iconst (pc := 38) (v := 1) (by decide) dX8_readSet_38 ?_
        refine gi_fst (pc := 39) (lo := 0) (hi := 6) (len := 260) hv424 (ti_rfl a2) (ti_c (v := 1) (a := 1) (by decide)) rfl (by omega) (by omega) (fun _ => rfl) (by omega) (by omega) (by omega) dX8_readSet_39 (fun h641 hv641 hv641e => ?_)
        have fx641 : FX KRt h h641 := FX.pI fx424 hv641e (by unfold KRt; omega)
        have k642 := bd_e k640 (st_I hv641e (ti_c (v := 1) (a := 1) (by decide)))
        refine go_aload_n (pc := 40) rfl dX8_readSet_40 ?_
        refine gi_getF (pc := 41) (q := 84) hv641 fL_X8_50 rfl (Nat.le_of_ble_eq_true rfl) rfl (hv641.rf (by decide)) dX8_readSet_41 ?_
        refine go_iload_n (pc := 44) rfl dX8_readSet_44 ?_
        refine go_aload_n (pc := 45) rfl dX8_readSet_45 ?_
        refine go_invV (pc := 46) (sl := 0) (s_X8_here_ns_f l (d + 2) hv641 (NS.w hv641e (by omega) (f428 (by omega)))) mL_X8_176 iM_X8_here sM_X8_here (hv641.sh rfl) rfl rfl rfl (Nat.le_of_ble_eq_true rfl) (show d + 2 + 1 + 1 ≤ d + 4 by omega) (show 8 + (1 + 11) + 40 * (d + 2 + 1) ≤ 40 * (d + 4) by omega) (g_c0 hv641.ln) (Nat.le_of_ble_eq_true rfl) dX8_readSet_46 ?_
        intro r h643 hq _
        obtain ⟨v646, rfl, v646l, v646u, rfl, f644, f645⟩ := hq
        replace f645 : PE _ _ := f645
        have k647 := bd_e k642 f645.symm
        have k648 : v646.toInt = v431.toInt := congrArg Int32.toInt f644
        have k649 : 65 ≤ v646.toInt ∧ v646.toInt ≤ 69 := by omega
        refine go_bipush (pc := 49) (v := 65) (by decide) dX8_readSet_49 ?_
        refine gf_isub (pc := 51) (ti_rfl v646) (ti_c (v := 65) (a := 65) (by decide)) (by omega) (by omega) dX8_readSet_51 (fun v650 e651 => ?_)
        refine gi_fst (pc := 52) (lo := -2) (hi := 4) (len := 260) hv641 (ti_rfl a2) e651 rfl (by omega) (by omega) (fun _ => rfl) (by omega) (by omega) (by omega) dX8_readSet_52 (fun h652 hv652 hv652e => ?_)
        have fx652 : FX KRt h h652 := FX.pI fx641 hv652e (by unfold KRt; omega)
        have k653 := bd_e k647 (st_I hv652e e651)
        refine go_aload_n (pc := 53) rfl dX8_readSet_53 ?_
        refine go_dup (pc := 54) rfl dX8_readSet_54 ?_
        refine gi_get (pc := 55) (lo := 0) (hi := 500) hv652 fL_X8_163 rfl (Nat.le_of_ble_eq_true rfl) rfl rfl dX8_readSet_55 (fun v654 v654l v654u v654w => ?_)
        have v654r : u433 = h652.2.1 70 4 := (show u433 = h652.2.1 70 4 from by rw [hv652e]; exact (g_iI rfl (show u433 = h641.2.1 70 4 from by rw [hv641e]; exact (g_iI rfl u433w.symm).symm).symm).symm)
        have v654q : TI v654 u433.toInt := by rw [v654w.trans v654r.symm]; exact (ti_rfl u433)
        refine go_iconst (pc := 58) (v := 1) (by decide) dX8_readSet_58 ?_
        refine gf_iadd (pc := 59) v654q (ti_c (v := 1) (a := 1) (by decide)) (by omega) (by omega) dX8_readSet_59 (fun v655 e656 => ?_)
        have E652 : h652.2.1 = (w1 (w1 h424.2.1 77 a2.toInt (1 : Int32)) 84 a2.toInt (v650 : Int32)) := by
          rw [hv652e, hv641e]
          rfl
        have oh652 : OH h.2.1 h652.2.1 S := by rw [E652]; exact ((oh424.trans (OH.w 130 rfl (by omega) (by omega) (by omega) (by omega))).trans (OH.w 130 rfl (by omega) (by omega) (by omega) (by omega)))
        have kp652 : KP h.2.1 h652.2.1 := by rw [E652]; exact ((kp424.trans (KP.w (by omega))).trans (KP.w (by omega)))
        have n73_652 : V h652.2.1 73 S = V h424.2.1 73 S := by rw [E652, V_ne (by omega), V_ne (by omega)]
        have n74_652 : V h652.2.1 74 S = V h424.2.1 74 S := by rw [E652, V_ne (by omega), V_ne (by omega)]
        have n75_652 : V h652.2.1 75 S = V h424.2.1 75 S := by rw [E652, V_ne (by omega), V_ne (by omega)]
        have ck652 : CKF h.2.1 → CKF h652.2.1 := fun z => by rw [E652]; exact CKF.call (x := (1 : Int32)) (VE.rfl _) (by rw [show (v650 : Int32).toInt = (v646.toInt - 65) from e651]; omega) (ck424 z)
        refine gi_put (pc := 60) (lo := 0) (hi := 500) hv652 e656 (fP_X8_163 _) rfl (Nat.le_of_ble_eq_true rfl) rfl rfl (by omega) (by omega) rfl rfl (by decide) (by decide) (by decide) (by decide) dX8_readSet_60 (fun h657 hv657 hv657e => ?_)
        have fx657 : FX KRt h h657 := FX.pI fx652 hv657e (by unfold KRt; omega)
        have k658 := bd_e k653 (st_I hv657e e656)
        have ve657 : VE h652.2.1 h657.2.1 := VE.of hv652 hv657
        have oh657 : OH h.2.1 h657.2.1 S := oh652.trans (OH.of hv652 hv657 S)
        have kp657 : KP h.2.1 h657.2.1 := kp652.trans (KP.ve ve657)
        have ck657 : CKF h.2.1 → CKF h657.2.1 := fun z => CKF.ve ve657 (ck652 z)
        have n73_657 : V h657.2.1 73 S = V h652.2.1 73 S := ve657.v (by omega) (by omega)
        have n74_657 : V h657.2.1 74 S = V h652.2.1 74 S := ve657.v (by omega) (by omega)
        have n75_657 : V h657.2.1 75 S = V h652.2.1 75 S := ve657.v (by omega) (by omega)
        refine go_aload_n (pc := 63) rfl dX8_readSet_63 ?_
        refine go_bipush (pc := 64) (v := 40) (by decide) dX8_readSet_64 ?_
        have g659 : (0 : Int) ≤ (h657.2.1 70 4).toInt := (hv657.2.1 70 4).1
        have g660 : (h657.2.1 70 4).toInt ≤ 500 := (hv657.2.1 70 4).2
        have g661 : (-2147483648 : Int) ≤ (h657.2.1 70 5).toInt := (hv657.2.1 70 5).1
        have g662 : (h657.2.1 70 5).toInt ≤ 2147483647 := (hv657.2.1 70 5).2
        have g663 : (h657.2.1 70 5).toInt = u435.toInt := by rw [← (show u435 = h657.2.1 70 5 from (show u435 = h657.2.1 70 5 from by rw [hv657e]; exact (g_iI rfl (show u435 = h652.2.1 70 5 from by rw [hv652e]; exact (g_iI rfl (show u435 = h641.2.1 70 5 from by rw [hv641e]; exact (g_iI rfl u435w.symm).symm).symm).symm).symm).symm))] <;> exact (ti_rfl u435)
        have g664 : (h657.2.1 70 4).toInt = (u433.toInt + 1) := by rw [← (show v655 = h657.2.1 70 4 from (show v655 = h657.2.1 70 4 from by rw [hv657e]; exact g_iS.symm))] <;> exact e656
        refine go_invV (pc := 66) (sl := 0) (s_X8_must_f l (d + 1) hv657 40 (by rw [show (40 : Int32).toInt = 40 from (ti_c (v := 40) (a := 40) (by decide))]; omega) (by rw [show (40 : Int32).toInt = 40 from (ti_c (v := 40) (a := 40) (by decide))]; omega)) mL_X8_198 iM_X8_must sM_X8_must (hv657.sh rfl) rfl rfl rfl (Nat.le_of_ble_eq_true rfl) (show d + 1 + 2 + 1 ≤ d + 4 by omega) (show 8 + (2 + 11) + 40 * (d + 1 + 2) ≤ 40 * (d + 4) by omega) (g_c0 hv657.ln) (Nat.le_of_ble_eq_true rfl) dX8_readSet_66 ?_
        intro r h665 hq _
        obtain ⟨rfl, hv665, f666, f667, f668, f669, f670⟩ := hq
        try rw [show (40 : Int32).toInt = 40 from (ti_c (v := 40) (a := 40) (by decide))] at f666
        try rw [show (40 : Int32).toInt = 40 from (ti_c (v := 40) (a := 40) (by decide))] at f667
        try rw [show (40 : Int32).toInt = 40 from (ti_c (v := 40) (a := 40) (by decide))] at f668
        try rw [show (40 : Int32).toInt = 40 from (ti_c (v := 40) (a := 40) (by decide))] at f669
        try rw [show (40 : Int32).toInt = 40 from (ti_c (v := 40) (a := 40) (by decide))] at f670
        have fx665 : FX KRt h h665 := FX.tr fx657 f670
        have k671 := bd_e k658 f669.symm
        have ve665 : VE h657.2.1 h665.2.1 := VE.of hv657 hv665
        have oh665 : OH h.2.1 h665.2.1 S := oh657.trans (OH.of hv657 hv665 S)
        have kp665 : KP h.2.1 h665.2.1 := kp657.trans (KP.ve ve665)
        have ck665 : CKF h.2.1 → CKF h665.2.1 := fun z => CKF.ve ve665 (ck657 z)
        have n73_665 : V h665.2.1 73 S = V h657.2.1 73 S := ve665.v (by omega) (by omega)
        have n74_665 : V h665.2.1 74 S = V h657.2.1 74 S := ve665.v (by omega) (by omega)
        have n75_665 : V h665.2.1 75 S = V h657.2.1 75 S := ve665.v (by omega) (by omega)
        obtain ⟨u672, u672w⟩ : ∃ v : Int32, v = h665.2.1 70 4 := ⟨_, rfl⟩
        have u672e : (h665.2.1 70 4).toInt = u672.toInt := by rw [u672w]
        have u672l : 0 ≤ u672.toInt := by rw [u672w]; exact (hv665.2.1 70 4).1
        have u672u : u672.toInt ≤ 500 := by rw [u672w]; exact (hv665.2.1 70 4).2
        have k673 := k671
        obtain ⟨u674, u674w⟩ : ∃ v : Int32, v = h665.2.1 70 5 := ⟨_, rfl⟩
        have u674e : (h665.2.1 70 5).toInt = u674.toInt := by rw [u674w]
        have u674l : -2147483648 ≤ u674.toInt := by rw [u674w]; exact (hv665.2.1 70 5).1
        have u674u : u674.toInt ≤ 2147483647 := by rw [u674w]; exact (hv665.2.1 70 5).2
        have k675 := k673
        refine go_aload_n (pc := 69) rfl dX8_readSet_69 ?_
        refine go_iload_n (pc := 70) rfl dX8_readSet_70 ?_
        refine go_iconst (pc := 71) (v := 0) (by decide) dX8_readSet_71 ?_
        have sM676 : (h665.2.1 70 6).toInt = S := (congrArg Int32.toInt oh665.side).trans hS.symm
        have g677 : (0 : Int) ≤ (h665.2.1 70 4).toInt := (hv665.2.1 70 4).1
        have g678 : (h665.2.1 70 4).toInt ≤ 500 := (hv665.2.1 70 4).2
        have g679 : (-2147483648 : Int) ≤ (h665.2.1 70 5).toInt := (hv665.2.1 70 5).1
        have g680 : (h665.2.1 70 5).toInt ≤ 2147483647 := (hv665.2.1 70 5).2
        have g681 : (h665.2.1 70 4).toInt = u672.toInt := by rw [← (show u672 = h665.2.1 70 4 from u672w)] <;> exact (ti_rfl u672)
        have g682 : (h665.2.1 70 5).toInt = u674.toInt := by rw [← (show u674 = h665.2.1 70 5 from u674w)] <;> exact (ti_rfl u674)
        refine go_invV (pc := 72) (sl := 0) (s_X8_operand_f l (d + 0) hv665 a2 (by rw [show (a2 : Int32).toInt = a2.toInt from (ti_rfl a2)]; omega) (by rw [show (a2 : Int32).toInt = a2.toInt from (ti_rfl a2)]; omega) 0 (by rw [show (0 : Int32).toInt = 0 from (ti_c (v := 0) (a := 0) (by decide))]; omega) (by rw [show (0 : Int32).toInt = 0 from (ti_c (v := 0) (a := 0) (by decide))]; omega) (by rw [sM676]; exact hi)) mL_X8_218 iM_X8_operand sM_X8_operand (hv665.sh rfl) rfl rfl rfl (Nat.le_of_ble_eq_true rfl) (show d + 0 + 3 + 1 ≤ d + 4 by omega) (show 8 + (7 + 11) + 40 * (d + 0 + 3) ≤ 40 * (d + 4) by omega) (g_c0 hv665.ln) (Nat.le_of_ble_eq_true rfl) dX8_readSet_72 ?_
        intro r h683 hq _
        obtain ⟨rfl, ⟨Q684, hv683, sq685⟩, f686, f687, f688, f689, f690, f691, f692, f693, f694, f695, f696⟩ := hq
        rw [sM676] at f689
        rw [sM676] at f690
        rw [sM676] at f691
        rw [sM676] at f695
        have oh683 : OH h.2.1 h683.2.1 S := oh665.trans f695
        have kp683 : KP h.2.1 h683.2.1 := kp665.trans f694
        have ck683 : CKF h.2.1 → CKF h683.2.1 := fun z => f696 (ck665 z)
        try rw [show (0 : Int32).toInt = 0 from (ti_c (v := 0) (a := 0) (by decide))] at f686
        try rw [show (0 : Int32).toInt = 0 from (ti_c (v := 0) (a := 0) (by decide))] at f687
        try rw [show (0 : Int32).toInt = 0 from (ti_c (v := 0) (a := 0) (by decide))] at f688
        try rw [show (0 : Int32).toInt = 0 from (ti_c (v := 0) (a := 0) (by decide))] at f689
        try rw [show (0 : Int32).toInt = 0 from (ti_c (v := 0) (a := 0) (by decide))] at f690
        try rw [show (0 : Int32).toInt = 0 from (ti_c (v := 0) (a := 0) (by decide))] at f691
        try rw [show (0 : Int32).toInt = 0 from (ti_c (v := 0) (a := 0) (by decide))] at f692
        try rw [show (0 : Int32).toInt = 0 from (ti_c (v := 0) (a := 0) (by decide))] at f693
        try rw [show (0 : Int32).toInt = 0 from (ti_c (v := 0) (a := 0) (by decide))] at f694
        try rw [show (0 : Int32).toInt = 0 from (ti_c (v := 0) (a := 0) (by decide))] at f695
        try rw [show (0 : Int32).toInt = 0 from (ti_c (v := 0) (a := 0) (by decide))] at f696
        have fx683 : FX KRt h h683 := FX.tr fx665 f693
        have k697 := bd_e k675 f692.symm
        obtain ⟨u698, u698w⟩ : ∃ v : Int32, v = h683.2.1 70 4 := ⟨_, rfl⟩
        have u698e : (h683.2.1 70 4).toInt = u698.toInt := by rw [u698w]
        have u698l : 0 ≤ u698.toInt := by rw [u698w]; exact (hv683.2.1 70 4).1
        have u698u : u698.toInt ≤ 500 := by rw [u698w]; exact (hv683.2.1 70 4).2
        have k699 := k697
        obtain ⟨u700, u700w⟩ : ∃ v : Int32, v = h683.2.1 70 5 := ⟨_, rfl⟩
        have u700e : (h683.2.1 70 5).toInt = u700.toInt := by rw [u700w]
        have u700l : -2147483648 ≤ u700.toInt := by rw [u700w]; exact (hv683.2.1 70 5).1
        have u700u : u700.toInt ≤ 2147483647 := by rw [u700w]; exact (hv683.2.1 70 5).2
        have k701 := k699
        refine go_aload_n (pc := 75) rfl dX8_readSet_75 ?_
        refine go_bipush (pc := 76) (v := 44) (by decide) dX8_readSet_76 ?_
        have g702 : (0 : Int) ≤ (h683.2.1 70 4).toInt := (hv683.2.1 70 4).1
        have g703 : (h683.2.1 70 4).toInt ≤ 500 := (hv683.2.1 70 4).2
        have g704 : (-2147483648 : Int) ≤ (h683.2.1 70 5).toInt := (hv683.2.1 70 5).1
        have g705 : (h683.2.1 70 5).toInt ≤ 2147483647 := (hv683.2.1 70 5).2
        have g706 : (h683.2.1 70 4).toInt = u698.toInt := by rw [← (show u698 = h683.2.1 70 4 from u698w)] <;> exact (ti_rfl u698)
        have g707 : (h683.2.1 70 5).toInt = u700.toInt := by rw [← (show u700 = h683.2.1 70 5 from u700w)] <;> exact (ti_rfl u700)
        refine go_invV (pc := 78) (sl := 0) (s_X8_must_f l (d + 1) hv683 44 (by rw [show (44 : Int32).toInt = 44 from (ti_c (v := 44) (a := 44) (by decide))]; omega) (by rw [show (44 : Int32).toInt = 44 from (ti_c (v := 44) (a := 44) (by decide))]; omega)) mL_X8_198 iM_X8_must sM_X8_must (hv683.sh rfl) rfl rfl rfl (Nat.le_of_ble_eq_true rfl) (show d + 1 + 2 + 1 ≤ d + 4 by omega) (show 8 + (2 + 11) + 40 * (d + 1 + 2) ≤ 40 * (d + 4) by omega) (g_c0 hv683.ln) (Nat.le_of_ble_eq_true rfl) dX8_readSet_78 ?_
        intro r h708 hq _
        obtain ⟨rfl, hv708, f709, f710, f711, f712, f713⟩ := hq
        try rw [show (44 : Int32).toInt = 44 from (ti_c (v := 44) (a := 44) (by decide))] at f709
        try rw [show (44 : Int32).toInt = 44 from (ti_c (v := 44) (a := 44) (by decide))] at f710
        try rw [show (44 : Int32).toInt = 44 from (ti_c (v := 44) (a := 44) (by decide))] at f711
        try rw [show (44 : Int32).toInt = 44 from (ti_c (v := 44) (a := 44) (by decide))] at f712
        try rw [show (44 : Int32).toInt = 44 from (ti_c (v := 44) (a := 44) (by decide))] at f713
        have fx708 : FX KRt h h708 := FX.tr fx683 f713
        have k714 := bd_e k701 f712.symm
        have ve708 : VE h683.2.1 h708.2.1 := VE.of hv683 hv708
        have oh708 : OH h.2.1 h708.2.1 S := oh683.trans (OH.of hv683 hv708 S)
        have kp708 : KP h.2.1 h708.2.1 := kp683.trans (KP.ve ve708)
        have ck708 : CKF h.2.1 → CKF h708.2.1 := fun z => CKF.ve ve708 (ck683 z)
        have n73_708 : V h708.2.1 73 S = V h683.2.1 73 S := ve708.v (by omega) (by omega)
        have n74_708 : V h708.2.1 74 S = V h683.2.1 74 S := ve708.v (by omega) (by omega)
        have n75_708 : V h708.2.1 75 S = V h683.2.1 75 S := ve708.v (by omega) (by omega)
        obtain ⟨u715, u715w⟩ : ∃ v : Int32, v = h708.2.1 70 4 := ⟨_, rfl⟩
        have u715e : (h708.2.1 70 4).toInt = u715.toInt := by rw [u715w]
        have u715l : 0 ≤ u715.toInt := by rw [u715w]; exact (hv708.2.1 70 4).1
        have u715u : u715.toInt ≤ 500 := by rw [u715w]; exact (hv708.2.1 70 4).2
        have k716 := k714
        obtain ⟨u717, u717w⟩ : ∃ v : Int32, v = h708.2.1 70 5 := ⟨_, rfl⟩
        have u717e : (h708.2.1 70 5).toInt = u717.toInt := by rw [u717w]
        have u717l : -2147483648 ≤ u717.toInt := by rw [u717w]; exact (hv708.2.1 70 5).1
        have u717u : u717.toInt ≤ 2147483647 := by rw [u717w]; exact (hv708.2.1 70 5).2
        have k718 := k716
        refine go_aload_n (pc := 81) rfl dX8_readSet_81 ?_
        refine go_iload_n (pc := 82) rfl dX8_readSet_82 ?_
        refine go_iconst (pc := 83) (v := 1) (by decide) dX8_readSet_83 ?_
        have sM719 : (h708.2.1 70 6).toInt = S := (congrArg Int32.toInt oh708.side).trans hS.symm
        have g720 : (0 : Int) ≤ (h708.2.1 70 4).toInt := (hv708.2.1 70 4).1
        have g721 : (h708.2.1 70 4).toInt ≤ 500 := (hv708.2.1 70 4).2
        have g722 : (-2147483648 : Int) ≤ (h708.2.1 70 5).toInt := (hv708.2.1 70 5).1
        have g723 : (h708.2.1 70 5).toInt ≤ 2147483647 := (hv708.2.1 70 5).2
        have g724 : (h708.2.1 70 4).toInt = u715.toInt := by rw [← (show u715 = h708.2.1 70 4 from u715w)] <;> exact (ti_rfl u715)
        have g725 : (h708.2.1 70 5).toInt = u717.toInt := by rw [← (show u717 = h708.2.1 70 5 from u717w)] <;> exact (ti_rfl u717)
        refine go_invV (pc := 84) (sl := 0) (s_X8_operand_f l (d + 0) hv708 a2 (by rw [show (a2 : Int32).toInt = a2.toInt from (ti_rfl a2)]; omega) (by rw [show (a2 : Int32).toInt = a2.toInt from (ti_rfl a2)]; omega) 1 (by rw [show (1 : Int32).toInt = 1 from (ti_c (v := 1) (a := 1) (by decide))]; omega) (by rw [show (1 : Int32).toInt = 1 from (ti_c (v := 1) (a := 1) (by decide))]; omega) (by rw [sM719]; exact hi)) mL_X8_218 iM_X8_operand sM_X8_operand (hv708.sh rfl) rfl rfl rfl (Nat.le_of_ble_eq_true rfl) (show d + 0 + 3 + 1 ≤ d + 4 by omega) (show 8 + (7 + 11) + 40 * (d + 0 + 3) ≤ 40 * (d + 4) by omega) (g_c0 hv708.ln) (Nat.le_of_ble_eq_true rfl) dX8_readSet_84 ?_
        intro r h726 hq _
        obtain ⟨rfl, ⟨Q727, hv726, sq728⟩, f729, f730, f731, f732, f733, f734, f735, f736, f737, f738, f739⟩ := hq
        rw [sM719] at f732
        rw [sM719] at f733
        rw [sM719] at f734
        rw [sM719] at f738
        have oh726 : OH h.2.1 h726.2.1 S := oh708.trans f738
        have kp726 : KP h.2.1 h726.2.1 := kp708.trans f737
        have ck726 : CKF h.2.1 → CKF h726.2.1 := fun z => f739 (ck708 z)
        try rw [show (1 : Int32).toInt = 1 from (ti_c (v := 1) (a := 1) (by decide))] at f729
        try rw [show (1 : Int32).toInt = 1 from (ti_c (v := 1) (a := 1) (by decide))] at f730
        try rw [show (1 : Int32).toInt = 1 from (ti_c (v := 1) (a := 1) (by decide))] at f731
        try rw [show (1 : Int32).toInt = 1 from (ti_c (v := 1) (a := 1) (by decide))] at f732
        try rw [show (1 : Int32).toInt = 1 from (ti_c (v := 1) (a := 1) (by decide))] at f733
        try rw [show (1 : Int32).toInt = 1 from (ti_c (v := 1) (a := 1) (by decide))] at f734
        try rw [show (1 : Int32).toInt = 1 from (ti_c (v := 1) (a := 1) (by decide))] at f735
        try rw [show (1 : Int32).toInt = 1 from (ti_c (v := 1) (a := 1) (by decide))] at f736
        try rw [show (1 : Int32).toInt = 1 from (ti_c (v := 1) (a := 1) (by decide))] at f737
        try rw [show (1 : Int32).toInt = 1 from (ti_c (v := 1) (a := 1) (by decide))] at f738
        try rw [show (1 : Int32).toInt = 1 from (ti_c (v := 1) (a := 1) (by decide))] at f739
        have fx726 : FX KRt h h726 := FX.tr fx708 f736
        have k740 := bd_e k718 f735.symm
        obtain ⟨u741, u741w⟩ : ∃ v : Int32, v = h726.2.1 70 4 := ⟨_, rfl⟩
        have u741e : (h726.2.1 70 4).toInt = u741.toInt := by rw [u741w]
        have u741l : 0 ≤ u741.toInt := by rw [u741w]; exact (hv726.2.1 70 4).1
        have u741u : u741.toInt ≤ 500 := by rw [u741w]; exact (hv726.2.1 70 4).2
        have k742 := k740
        obtain ⟨u743, u743w⟩ : ∃ v : Int32, v = h726.2.1 70 5 := ⟨_, rfl⟩
        have u743e : (h726.2.1 70 5).toInt = u743.toInt := by rw [u743w]
        have u743l : -2147483648 ≤ u743.toInt := by rw [u743w]; exact (hv726.2.1 70 5).1
        have u743u : u743.toInt ≤ 2147483647 := by rw [u743w]; exact (hv726.2.1 70 5).2
        have k744 := k742
        refine go_aload_n (pc := 87) rfl dX8_readSet_87 ?_
        refine go_bipush (pc := 88) (v := 41) (by decide) dX8_readSet_88 ?_
        have g745 : (0 : Int) ≤ (h726.2.1 70 4).toInt := (hv726.2.1 70 4).1
        have g746 : (h726.2.1 70 4).toInt ≤ 500 := (hv726.2.1 70 4).2
        have g747 : (-2147483648 : Int) ≤ (h726.2.1 70 5).toInt := (hv726.2.1 70 5).1
        have g748 : (h726.2.1 70 5).toInt ≤ 2147483647 := (hv726.2.1 70 5).2
        have g749 : (h726.2.1 70 4).toInt = u741.toInt := by rw [← (show u741 = h726.2.1 70 4 from u741w)] <;> exact (ti_rfl u741)
        have g750 : (h726.2.1 70 5).toInt = u743.toInt := by rw [← (show u743 = h726.2.1 70 5 from u743w)] <;> exact (ti_rfl u743)
        refine go_invV (pc := 90) (sl := 0) (s_X8_must_f l (d + 1) hv726 41 (by rw [show (41 : Int32).toInt = 41 from (ti_c (v := 41) (a := 41) (by decide))]; omega) (by rw [show (41 : Int32).toInt = 41 from (ti_c (v := 41) (a := 41) (by decide))]; omega)) mL_X8_198 iM_X8_must sM_X8_must (hv726.sh rfl) rfl rfl rfl (Nat.le_of_ble_eq_true rfl) (show d + 1 + 2 + 1 ≤ d + 4 by omega) (show 8 + (2 + 11) + 40 * (d + 1 + 2) ≤ 40 * (d + 4) by omega) (g_c0 hv726.ln) (Nat.le_of_ble_eq_true rfl) dX8_readSet_90 ?_
        intro r h751 hq _
        obtain ⟨rfl, hv751, f752, f753, f754, f755, f756⟩ := hq
        try rw [show (41 : Int32).toInt = 41 from (ti_c (v := 41) (a := 41) (by decide))] at f752
        try rw [show (41 : Int32).toInt = 41 from (ti_c (v := 41) (a := 41) (by decide))] at f753
        try rw [show (41 : Int32).toInt = 41 from (ti_c (v := 41) (a := 41) (by decide))] at f754
        try rw [show (41 : Int32).toInt = 41 from (ti_c (v := 41) (a := 41) (by decide))] at f755
        try rw [show (41 : Int32).toInt = 41 from (ti_c (v := 41) (a := 41) (by decide))] at f756
        have fx751 : FX KRt h h751 := FX.tr fx726 f756
        have k757 := bd_e k744 f755.symm
        have ve751 : VE h726.2.1 h751.2.1 := VE.of hv726 hv751
        have oh751 : OH h.2.1 h751.2.1 S := oh726.trans (OH.of hv726 hv751 S)
        have kp751 : KP h.2.1 h751.2.1 := kp726.trans (KP.ve ve751)
        have ck751 : CKF h.2.1 → CKF h751.2.1 := fun z => CKF.ve ve751 (ck726 z)
        have n73_751 : V h751.2.1 73 S = V h726.2.1 73 S := ve751.v (by omega) (by omega)
        have n74_751 : V h751.2.1 74 S = V h726.2.1 74 S := ve751.v (by omega) (by omega)
        have n75_751 : V h751.2.1 75 S = V h726.2.1 75 S := ve751.v (by omega) (by omega)
        obtain ⟨u758, u758w⟩ : ∃ v : Int32, v = h751.2.1 70 4 := ⟨_, rfl⟩
        have u758e : (h751.2.1 70 4).toInt = u758.toInt := by rw [u758w]
        have u758l : 0 ≤ u758.toInt := by rw [u758w]; exact (hv751.2.1 70 4).1
        have u758u : u758.toInt ≤ 500 := by rw [u758w]; exact (hv751.2.1 70 4).2
        have k759 := k757
        obtain ⟨u760, u760w⟩ : ∃ v : Int32, v = h751.2.1 70 5 := ⟨_, rfl⟩
        have u760e : (h751.2.1 70 5).toInt = u760.toInt := by rw [u760w]
        have u760l : -2147483648 ≤ u760.toInt := by rw [u760w]; exact (hv751.2.1 70 5).1
        have u760u : u760.toInt ≤ 2147483647 := by rw [u760w]; exact (hv751.2.1 70 5).2
        have k761 := k759
        refine go_aload_n (pc := 93) rfl dX8_readSet_93 ?_
        refine go_bipush (pc := 94) (v := 59) (by decide) dX8_readSet_94 ?_
        have g762 : (0 : Int) ≤ (h751.2.1 70 4).toInt := (hv751.2.1 70 4).1
        have g763 : (h751.2.1 70 4).toInt ≤ 500 := (hv751.2.1 70 4).2
        have g764 : (-2147483648 : Int) ≤ (h751.2.1 70 5).toInt := (hv751.2.1 70 5).1
        have g765 : (h751.2.1 70 5).toInt ≤ 2147483647 := (hv751.2.1 70 5).2
        have g766 : (h751.2.1 70 4).toInt = u758.toInt := by rw [← (show u758 = h751.2.1 70 4 from u758w)] <;> exact (ti_rfl u758)
        have g767 : (h751.2.1 70 5).toInt = u760.toInt := by rw [← (show u760 = h751.2.1 70 5 from u760w)] <;> exact (ti_rfl u760)
        refine go_invV (pc := 96) (sl := 0) (s_X8_must_f l (d + 1) hv751 59 (by rw [show (59 : Int32).toInt = 59 from (ti_c (v := 59) (a := 59) (by decide))]; omega) (by rw [show (59 : Int32).toInt = 59 from (ti_c (v := 59) (a := 59) (by decide))]; omega)) mL_X8_198 iM_X8_must sM_X8_must (hv751.sh rfl) rfl rfl rfl (Nat.le_of_ble_eq_true rfl) (show d + 1 + 2 + 1 ≤ d + 4 by omega) (show 8 + (2 + 11) + 40 * (d + 1 + 2) ≤ 40 * (d + 4) by omega) (g_c0 hv751.ln) (Nat.le_of_ble_eq_true rfl) dX8_readSet_96 ?_
        intro r h768 hq _
        obtain ⟨rfl, hv768, f769, f770, f771, f772, f773⟩ := hq
        try rw [show (59 : Int32).toInt = 59 from (ti_c (v := 59) (a := 59) (by decide))] at f769
        try rw [show (59 : Int32).toInt = 59 from (ti_c (v := 59) (a := 59) (by decide))] at f770
        try rw [show (59 : Int32).toInt = 59 from (ti_c (v := 59) (a := 59) (by decide))] at f771
        try rw [show (59 : Int32).toInt = 59 from (ti_c (v := 59) (a := 59) (by decide))] at f772
        try rw [show (59 : Int32).toInt = 59 from (ti_c (v := 59) (a := 59) (by decide))] at f773
        have fx768 : FX KRt h h768 := FX.tr fx751 f773
        have k774 := bd_e k761 f772.symm
        have ve768 : VE h751.2.1 h768.2.1 := VE.of hv751 hv768
        have oh768 : OH h.2.1 h768.2.1 S := oh751.trans (OH.of hv751 hv768 S)
        have kp768 : KP h.2.1 h768.2.1 := kp751.trans (KP.ve ve768)
        have ck768 : CKF h.2.1 → CKF h768.2.1 := fun z => CKF.ve ve768 (ck751 z)
        have n73_768 : V h768.2.1 73 S = V h751.2.1 73 S := ve768.v (by omega) (by omega)
        have n74_768 : V h768.2.1 74 S = V h751.2.1 74 S := ve768.v (by omega) (by omega)
        have n75_768 : V h768.2.1 75 S = V h751.2.1 75 S := ve768.v (by omega) (by omega)
        obtain ⟨u775, u775w⟩ : ∃ v : Int32, v = h768.2.1 70 4 := ⟨_, rfl⟩
        have u775e : (h768.2.1 70 4).toInt = u775.toInt := by rw [u775w]
        have u775l : 0 ≤ u775.toInt := by rw [u775w]; exact (hv768.2.1 70 4).1
        have u775u : u775.toInt ≤ 500 := by rw [u775w]; exact (hv768.2.1 70 4).2
        have k776 := k774
        obtain ⟨u777, u777w⟩ : ∃ v : Int32, v = h768.2.1 70 5 := ⟨_, rfl⟩
        have u777e : (h768.2.1 70 5).toInt = u777.toInt := by rw [u777w]
        have u777l : -2147483648 ≤ u777.toInt := by rw [u777w]; exact (hv768.2.1 70 5).1
        have u777u : u777.toInt ≤ 2147483647 := by rw [u777w]; exact (hv768.2.1 70 5).2
        have k778 := k776
        have g779 : (0 : Int) ≤ (h768.2.1 70 4).toInt := (hv768.2.1 70 4).1
        have g780 : (h768.2.1 70 4).toInt ≤ 500 := (hv768.2.1 70 4).2
        have g781 : (-2147483648 : Int) ≤ (h768.2.1 70 5).toInt := (hv768.2.1 70 5).1
        have g782 : (h768.2.1 70 5).toInt ≤ 2147483647 := (hv768.2.1 70 5).2
        have g783 : (h768.2.1 70 4).toInt = u775.toInt := by rw [← (show u775 = h768.2.1 70 4 from u775w)] <;> exact (ti_rfl u775)
        have g784 : (h768.2.1 70 5).toInt = u777.toInt := by rw [← (show u777 = h768.2.1 70 5 from u777w)] <;> exact (ti_rfl u777)
        have pp785 : (h768.2.1 70 5).toInt = 0 → (h.2.1 70 5).toInt = 0 := (by omega)
        have pp786 : (h.2.1 70 4).toInt ≤ (h768.2.1 70 4).toInt := (by omega)
        have pp787 : V h768.2.1 73 S = V h.2.1 73 S := (by omega)
        have pp788 : V h768.2.1 74 S = V h.2.1 74 S := (by omega)
        have pp789 : V h768.2.1 75 S = V h.2.1 75 S := (by omega)
        have pp790 : (h768.2.1 70 5).toInt = 0 → ∀ d : Int, V h.2.1 77 a2.toInt = 0 → V h.2.1 82 a2.toInt = a3.toInt → RT h.2.1 h768.2.1 S a2.toInt d := (fun hg d k1 k2 => RT.call (x := (1 : Int32)) (y := (v650 : Int32)) S0 (((OP.rfl _).trans (OP.ve ve5)).trans (OP.ve ve424)) (by rw [← E652]; exact ((((((((OP.rfl _).trans (OP.ve ve657)).trans (OP.ve ve665)).trans (f688 (by omega))).trans (OP.ve ve708)).trans (f731 (by omega))).trans (OP.ve ve751)).trans (OP.ve ve768))) k1 (by decide) (by omega))
        have pp791 : st h768 = f_X8_readSet (st h) a2.toInt a3.toInt := (k778.symm.trans kf)
        have pp792 : FX KRt h h768 := fx768
        subst hS
        exact gi_vret (pc := 99) ⟨rfl, ⟨_, hv768, (MW.trans (MW.trans (MW.trans (MW.mz _ _) (MW.mz _ _)) sq685) sq728)⟩, pp785, pp786, pp787, pp788, pp789, pp790, pp791, pp792, kp768, oh768, ck768⟩ hv768 dX8_readSet_99

